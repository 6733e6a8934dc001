section
-- ===== PART A: goes FIRST, ahead of the names: the tables' words, and 'selects' of the private methods out of them =====
/-- a private method of a class that the tables say can be made, by its rows of tables_1 -/
def lw_okq (q : MethodName × Nat) : Prop := (q.1.cls ≠ "java/lang/invoke/MethodHandle" ∧ q.1.cls ≠ "java/lang/invoke/VarHandle") ∧ Cond.instantiable q.1.cls q.2 ∈ tables_1 ∧ Cond.privateMethod q.1 ∈ tables_1 ∧ Cond.instanceMethod q.1 ∈ tables_1
theorem lw_p0 : lw_okq (⟨"TagWindows", "recorded", "(I)I"⟩, 6) := ⟨⟨by decide +kernel, by decide +kernel⟩, List.mem_of_getElem? (i := 12) (by decide +kernel), List.mem_of_getElem? (i := 295) (by decide +kernel), List.mem_of_getElem? (i := 296) (by decide +kernel)⟩
theorem lw_p1 : lw_okq (⟨"TagWindows$Plant", "doBar", "(II)Z"⟩, 8) := ⟨⟨by decide +kernel, by decide +kernel⟩, List.mem_of_getElem? (i := 20) (by decide +kernel), List.mem_of_getElem? (i := 334) (by decide +kernel), List.mem_of_getElem? (i := 335) (by decide +kernel)⟩
theorem lw_p2 : lw_okq (⟨"TagWindows$Plant", "isRunning", "(I)Z"⟩, 8) := ⟨⟨by decide +kernel, by decide +kernel⟩, List.mem_of_getElem? (i := 20) (by decide +kernel), List.mem_of_getElem? (i := 410) (by decide +kernel), List.mem_of_getElem? (i := 411) (by decide +kernel)⟩
theorem lw_p3 : lw_okq (⟨"TagWindows$Plant", "canServe", "(ILTagWindows$Task;)Z"⟩, 8) := ⟨⟨by decide +kernel, by decide +kernel⟩, List.mem_of_getElem? (i := 20) (by decide +kernel), List.mem_of_getElem? (i := 414) (by decide +kernel), List.mem_of_getElem? (i := 415) (by decide +kernel)⟩
theorem lw_p4 : lw_okq (⟨"TagWindows$Plant", "areNear", "(II)Z"⟩, 8) := ⟨⟨by decide +kernel, by decide +kernel⟩, List.mem_of_getElem? (i := 20) (by decide +kernel), List.mem_of_getElem? (i := 451) (by decide +kernel), List.mem_of_getElem? (i := 452) (by decide +kernel)⟩
theorem lw_p5 : lw_okq (⟨"TagWindows$Plant", "runAssets", "()V"⟩, 8) := ⟨⟨by decide +kernel, by decide +kernel⟩, List.mem_of_getElem? (i := 20) (by decide +kernel), List.mem_of_getElem? (i := 483) (by decide +kernel), List.mem_of_getElem? (i := 484) (by decide +kernel)⟩
theorem lw_p6 : lw_okq (⟨"TagWindows$Plant", "workOnTasks", "()I"⟩, 8) := ⟨⟨by decide +kernel, by decide +kernel⟩, List.mem_of_getElem? (i := 20) (by decide +kernel), List.mem_of_getElem? (i := 496) (by decide +kernel), List.mem_of_getElem? (i := 497) (by decide +kernel)⟩
theorem lw_p7 : lw_okq (⟨"TagWindows$Plant", "mendAsset", "(I)V"⟩, 8) := ⟨⟨by decide +kernel, by decide +kernel⟩, List.mem_of_getElem? (i := 20) (by decide +kernel), List.mem_of_getElem? (i := 500) (by decide +kernel), List.mem_of_getElem? (i := 501) (by decide +kernel)⟩
theorem lw_p8 : lw_okq (⟨"TagWindows$Plant", "slipTasks", "()V"⟩, 8) := ⟨⟨by decide +kernel, by decide +kernel⟩, List.mem_of_getElem? (i := 20) (by decide +kernel), List.mem_of_getElem? (i := 509) (by decide +kernel), List.mem_of_getElem? (i := 510) (by decide +kernel)⟩
theorem lw_p9 : lw_okq (⟨"TagWindows$Orders", "readOrder", "(LTagWindows$Order;)Z"⟩, 5) := ⟨⟨by decide +kernel, by decide +kernel⟩, List.mem_of_getElem? (i := 195) (by decide +kernel), List.mem_of_getElem? (i := 541) (by decide +kernel), List.mem_of_getElem? (i := 542) (by decide +kernel)⟩
theorem lw_p10 : lw_okq (⟨"TagWindows$Orders", "readNumber", "(LTagWindows$Order;)Z"⟩, 5) := ⟨⟨by decide +kernel, by decide +kernel⟩, List.mem_of_getElem? (i := 195) (by decide +kernel), List.mem_of_getElem? (i := 545) (by decide +kernel), List.mem_of_getElem? (i := 546) (by decide +kernel)⟩
theorem lw_p11 : lw_okq (⟨"TagWindows$Orders", "isAtDigit", "()Z"⟩, 5) := ⟨⟨by decide +kernel, by decide +kernel⟩, List.mem_of_getElem? (i := 195) (by decide +kernel), List.mem_of_getElem? (i := 549) (by decide +kernel), List.mem_of_getElem? (i := 550) (by decide +kernel)⟩
theorem lw_p12 : lw_okq (⟨"TagWindows$Orders", "readDigit", "()I"⟩, 5) := ⟨⟨by decide +kernel, by decide +kernel⟩, List.mem_of_getElem? (i := 195) (by decide +kernel), List.mem_of_getElem? (i := 553) (by decide +kernel), List.mem_of_getElem? (i := 554) (by decide +kernel)⟩
theorem lw_p13 : lw_okq (⟨"TagWindows$Orders", "readSign", "(C)Z"⟩, 5) := ⟨⟨by decide +kernel, by decide +kernel⟩, List.mem_of_getElem? (i := 195) (by decide +kernel), List.mem_of_getElem? (i := 557) (by decide +kernel), List.mem_of_getElem? (i := 558) (by decide +kernel)⟩
theorem lw_p14 : lw_okq (⟨"TagWindows$Orders", "readCrew", "(LTagWindows$Order;)Z"⟩, 5) := ⟨⟨by decide +kernel, by decide +kernel⟩, List.mem_of_getElem? (i := 195) (by decide +kernel), List.mem_of_getElem? (i := 561) (by decide +kernel), List.mem_of_getElem? (i := 562) (by decide +kernel)⟩
theorem lw_p15 : lw_okq (⟨"TagWindows$Orders", "readAsset", "(LTagWindows$Order;)Z"⟩, 5) := ⟨⟨by decide +kernel, by decide +kernel⟩, List.mem_of_getElem? (i := 195) (by decide +kernel), List.mem_of_getElem? (i := 565) (by decide +kernel), List.mem_of_getElem? (i := 566) (by decide +kernel)⟩
def lw_privs_1 : List (MethodName × Nat) := [(⟨"TagWindows", "recorded", "(I)I"⟩, 6), (⟨"TagWindows$Plant", "doBar", "(II)Z"⟩, 8), (⟨"TagWindows$Plant", "isRunning", "(I)Z"⟩, 8), (⟨"TagWindows$Plant", "canServe", "(ILTagWindows$Task;)Z"⟩, 8), (⟨"TagWindows$Plant", "areNear", "(II)Z"⟩, 8), (⟨"TagWindows$Plant", "runAssets", "()V"⟩, 8), (⟨"TagWindows$Plant", "workOnTasks", "()I"⟩, 8), (⟨"TagWindows$Plant", "mendAsset", "(I)V"⟩, 8), (⟨"TagWindows$Plant", "slipTasks", "()V"⟩, 8), (⟨"TagWindows$Orders", "readOrder", "(LTagWindows$Order;)Z"⟩, 5), (⟨"TagWindows$Orders", "readNumber", "(LTagWindows$Order;)Z"⟩, 5), (⟨"TagWindows$Orders", "isAtDigit", "()Z"⟩, 5), (⟨"TagWindows$Orders", "readDigit", "()I"⟩, 5), (⟨"TagWindows$Orders", "readSign", "(C)Z"⟩, 5), (⟨"TagWindows$Orders", "readCrew", "(LTagWindows$Order;)Z"⟩, 5), (⟨"TagWindows$Orders", "readAsset", "(LTagWindows$Order;)Z"⟩, 5)]
theorem lw_r1 : ∀ q ∈ lw_privs_1, lw_okq q := List.forall_mem_cons.mpr ⟨lw_p0, List.forall_mem_cons.mpr ⟨lw_p1, List.forall_mem_cons.mpr ⟨lw_p2, List.forall_mem_cons.mpr ⟨lw_p3, List.forall_mem_cons.mpr ⟨lw_p4, List.forall_mem_cons.mpr ⟨lw_p5, List.forall_mem_cons.mpr ⟨lw_p6, List.forall_mem_cons.mpr ⟨lw_p7, List.forall_mem_cons.mpr ⟨lw_p8, List.forall_mem_cons.mpr ⟨lw_p9, List.forall_mem_cons.mpr ⟨lw_p10, List.forall_mem_cons.mpr ⟨lw_p11, List.forall_mem_cons.mpr ⟨lw_p12, List.forall_mem_cons.mpr ⟨lw_p13, List.forall_mem_cons.mpr ⟨lw_p14, List.forall_mem_cons.mpr ⟨lw_p15, fun _ h => absurd h List.not_mem_nil⟩⟩⟩⟩⟩⟩⟩⟩⟩⟩⟩⟩⟩⟩⟩⟩
theorem lw_p16 : lw_okq (⟨"TagWindows", "follow", "(LTagWindows$Order;)I"⟩, 6) := ⟨⟨by decide +kernel, by decide +kernel⟩, List.mem_of_getElem? (i := 12) (by decide +kernel), List.mem_of_getElem? (i := 569) (by decide +kernel), List.mem_of_getElem? (i := 570) (by decide +kernel)⟩
theorem lw_p17 : lw_okq (⟨"TagWindowsModel", "brings", "(I)V"⟩, 15) := ⟨⟨by decide +kernel, by decide +kernel⟩, List.mem_of_getElem? (i := 667) (by decide +kernel), List.mem_of_getElem? (i := 724) (by decide +kernel), List.mem_of_getElem? (i := 725) (by decide +kernel)⟩
theorem lw_p18 : lw_okq (⟨"TagWindowsModel", "keeps", "(I)V"⟩, 15) := ⟨⟨by decide +kernel, by decide +kernel⟩, List.mem_of_getElem? (i := 667) (by decide +kernel), List.mem_of_getElem? (i := 732) (by decide +kernel), List.mem_of_getElem? (i := 733) (by decide +kernel)⟩
theorem lw_p19 : lw_okq (⟨"TagWindowsModel", "records", "()V"⟩, 15) := ⟨⟨by decide +kernel, by decide +kernel⟩, List.mem_of_getElem? (i := 667) (by decide +kernel), List.mem_of_getElem? (i := 740) (by decide +kernel), List.mem_of_getElem? (i := 741) (by decide +kernel)⟩
theorem lw_p20 : lw_okq (⟨"TagWindowsModel", "recordsTrial", "()V"⟩, 15) := ⟨⟨by decide +kernel, by decide +kernel⟩, List.mem_of_getElem? (i := 667) (by decide +kernel), List.mem_of_getElem? (i := 744) (by decide +kernel), List.mem_of_getElem? (i := 745) (by decide +kernel)⟩
theorem lw_p21 : lw_okq (⟨"TagWindowsModel", "copies", "(II)V"⟩, 15) := ⟨⟨by decide +kernel, by decide +kernel⟩, List.mem_of_getElem? (i := 667) (by decide +kernel), List.mem_of_getElem? (i := 748) (by decide +kernel), List.mem_of_getElem? (i := 749) (by decide +kernel)⟩
theorem lw_p22 : lw_okq (⟨"TagWindowsModel", "sets", "(III)V"⟩, 15) := ⟨⟨by decide +kernel, by decide +kernel⟩, List.mem_of_getElem? (i := 667) (by decide +kernel), List.mem_of_getElem? (i := 759) (by decide +kernel), List.mem_of_getElem? (i := 760) (by decide +kernel)⟩
theorem lw_p23 : lw_okq (⟨"TagWindowsModel", "isAsset", "(I)Z"⟩, 15) := ⟨⟨by decide +kernel, by decide +kernel⟩, List.mem_of_getElem? (i := 667) (by decide +kernel), List.mem_of_getElem? (i := 767) (by decide +kernel), List.mem_of_getElem? (i := 768) (by decide +kernel)⟩
theorem lw_p24 : lw_okq (⟨"TagWindowsModel", "of", "(II)I"⟩, 15) := ⟨⟨by decide +kernel, by decide +kernel⟩, List.mem_of_getElem? (i := 667) (by decide +kernel), List.mem_of_getElem? (i := 771) (by decide +kernel), List.mem_of_getElem? (i := 772) (by decide +kernel)⟩
theorem lw_p25 : lw_okq (⟨"TagWindowsModel", "bars", "(II)Z"⟩, 15) := ⟨⟨by decide +kernel, by decide +kernel⟩, List.mem_of_getElem? (i := 667) (by decide +kernel), List.mem_of_getElem? (i := 782) (by decide +kernel), List.mem_of_getElem? (i := 783) (by decide +kernel)⟩
theorem lw_p26 : lw_okq (⟨"TagWindowsModel", "setsTask", "(III)V"⟩, 15) := ⟨⟨by decide +kernel, by decide +kernel⟩, List.mem_of_getElem? (i := 667) (by decide +kernel), List.mem_of_getElem? (i := 794) (by decide +kernel), List.mem_of_getElem? (i := 795) (by decide +kernel)⟩
theorem lw_p27 : lw_okq (⟨"TagWindowsModel", "runError", "(I)I"⟩, 15) := ⟨⟨by decide +kernel, by decide +kernel⟩, List.mem_of_getElem? (i := 667) (by decide +kernel), List.mem_of_getElem? (i := 802) (by decide +kernel), List.mem_of_getElem? (i := 803) (by decide +kernel)⟩
theorem lw_p28 : lw_okq (⟨"TagWindowsModel", "goes", "(II)I"⟩, 15) := ⟨⟨by decide +kernel, by decide +kernel⟩, List.mem_of_getElem? (i := 667) (by decide +kernel), List.mem_of_getElem? (i := 806) (by decide +kernel), List.mem_of_getElem? (i := 807) (by decide +kernel)⟩
theorem lw_p29 : lw_okq (⟨"TagWindowsModel", "running", "()I"⟩, 15) := ⟨⟨by decide +kernel, by decide +kernel⟩, List.mem_of_getElem? (i := 667) (by decide +kernel), List.mem_of_getElem? (i := 810) (by decide +kernel), List.mem_of_getElem? (i := 811) (by decide +kernel)⟩
theorem lw_p30 : lw_okq (⟨"TagWindowsModel", "stopError", "(I)I"⟩, 15) := ⟨⟨by decide +kernel, by decide +kernel⟩, List.mem_of_getElem? (i := 667) (by decide +kernel), List.mem_of_getElem? (i := 818) (by decide +kernel), List.mem_of_getElem? (i := 819) (by decide +kernel)⟩
theorem lw_p31 : lw_okq (⟨"TagWindowsModel", "hangError", "(II)I"⟩, 15) := ⟨⟨by decide +kernel, by decide +kernel⟩, List.mem_of_getElem? (i := 667) (by decide +kernel), List.mem_of_getElem? (i := 826) (by decide +kernel), List.mem_of_getElem? (i := 827) (by decide +kernel)⟩
def lw_privs_2 : List (MethodName × Nat) := [(⟨"TagWindows", "follow", "(LTagWindows$Order;)I"⟩, 6), (⟨"TagWindowsModel", "brings", "(I)V"⟩, 15), (⟨"TagWindowsModel", "keeps", "(I)V"⟩, 15), (⟨"TagWindowsModel", "records", "()V"⟩, 15), (⟨"TagWindowsModel", "recordsTrial", "()V"⟩, 15), (⟨"TagWindowsModel", "copies", "(II)V"⟩, 15), (⟨"TagWindowsModel", "sets", "(III)V"⟩, 15), (⟨"TagWindowsModel", "isAsset", "(I)Z"⟩, 15), (⟨"TagWindowsModel", "of", "(II)I"⟩, 15), (⟨"TagWindowsModel", "bars", "(II)Z"⟩, 15), (⟨"TagWindowsModel", "setsTask", "(III)V"⟩, 15), (⟨"TagWindowsModel", "runError", "(I)I"⟩, 15), (⟨"TagWindowsModel", "goes", "(II)I"⟩, 15), (⟨"TagWindowsModel", "running", "()I"⟩, 15), (⟨"TagWindowsModel", "stopError", "(I)I"⟩, 15), (⟨"TagWindowsModel", "hangError", "(II)I"⟩, 15)]
theorem lw_r2 : ∀ q ∈ lw_privs_2, lw_okq q := List.forall_mem_cons.mpr ⟨lw_p16, List.forall_mem_cons.mpr ⟨lw_p17, List.forall_mem_cons.mpr ⟨lw_p18, List.forall_mem_cons.mpr ⟨lw_p19, List.forall_mem_cons.mpr ⟨lw_p20, List.forall_mem_cons.mpr ⟨lw_p21, List.forall_mem_cons.mpr ⟨lw_p22, List.forall_mem_cons.mpr ⟨lw_p23, List.forall_mem_cons.mpr ⟨lw_p24, List.forall_mem_cons.mpr ⟨lw_p25, List.forall_mem_cons.mpr ⟨lw_p26, List.forall_mem_cons.mpr ⟨lw_p27, List.forall_mem_cons.mpr ⟨lw_p28, List.forall_mem_cons.mpr ⟨lw_p29, List.forall_mem_cons.mpr ⟨lw_p30, List.forall_mem_cons.mpr ⟨lw_p31, fun _ h => absurd h List.not_mem_nil⟩⟩⟩⟩⟩⟩⟩⟩⟩⟩⟩⟩⟩⟩⟩⟩
theorem lw_p32 : lw_okq (⟨"TagWindowsModel", "isTask", "(I)Z"⟩, 15) := ⟨⟨by decide +kernel, by decide +kernel⟩, List.mem_of_getElem? (i := 667) (by decide +kernel), List.mem_of_getElem? (i := 830) (by decide +kernel), List.mem_of_getElem? (i := 831) (by decide +kernel)⟩
theorem lw_p33 : lw_okq (⟨"TagWindowsModel", "isCrew", "(I)Z"⟩, 15) := ⟨⟨by decide +kernel, by decide +kernel⟩, List.mem_of_getElem? (i := 667) (by decide +kernel), List.mem_of_getElem? (i := 834) (by decide +kernel), List.mem_of_getElem? (i := 835) (by decide +kernel)⟩
theorem lw_p34 : lw_okq (⟨"TagWindowsModel", "stateOf", "(I)I"⟩, 15) := ⟨⟨by decide +kernel, by decide +kernel⟩, List.mem_of_getElem? (i := 667) (by decide +kernel), List.mem_of_getElem? (i := 838) (by decide +kernel), List.mem_of_getElem? (i := 839) (by decide +kernel)⟩
theorem lw_p35 : lw_okq (⟨"TagWindowsModel", "ofTask", "(II)I"⟩, 15) := ⟨⟨by decide +kernel, by decide +kernel⟩, List.mem_of_getElem? (i := 667) (by decide +kernel), List.mem_of_getElem? (i := 842) (by decide +kernel), List.mem_of_getElem? (i := 843) (by decide +kernel)⟩
theorem lw_p36 : lw_okq (⟨"TagWindowsModel", "canHang", "(II)Z"⟩, 15) := ⟨⟨by decide +kernel, by decide +kernel⟩, List.mem_of_getElem? (i := 667) (by decide +kernel), List.mem_of_getElem? (i := 846) (by decide +kernel), List.mem_of_getElem? (i := 847) (by decide +kernel)⟩
theorem lw_p37 : lw_okq (⟨"TagWindowsModel", "busy", "(IZ)I"⟩, 15) := ⟨⟨by decide +kernel, by decide +kernel⟩, List.mem_of_getElem? (i := 667) (by decide +kernel), List.mem_of_getElem? (i := 850) (by decide +kernel), List.mem_of_getElem? (i := 851) (by decide +kernel)⟩
theorem lw_p38 : lw_okq (⟨"TagWindowsModel", "isBusy", "(I)Z"⟩, 15) := ⟨⟨by decide +kernel, by decide +kernel⟩, List.mem_of_getElem? (i := 667) (by decide +kernel), List.mem_of_getElem? (i := 854) (by decide +kernel), List.mem_of_getElem? (i := 855) (by decide +kernel)⟩
theorem lw_p39 : lw_okq (⟨"TagWindowsModel", "hangs", "(II)I"⟩, 15) := ⟨⟨by decide +kernel, by decide +kernel⟩, List.mem_of_getElem? (i := 667) (by decide +kernel), List.mem_of_getElem? (i := 858) (by decide +kernel), List.mem_of_getElem? (i := 859) (by decide +kernel)⟩
theorem lw_p40 : lw_okq (⟨"TagWindowsModel", "beginError", "(I)I"⟩, 15) := ⟨⟨by decide +kernel, by decide +kernel⟩, List.mem_of_getElem? (i := 667) (by decide +kernel), List.mem_of_getElem? (i := 866) (by decide +kernel), List.mem_of_getElem? (i := 867) (by decide +kernel)⟩
theorem lw_p41 : lw_okq (⟨"TagWindowsModel", "reasonOf", "(I)I"⟩, 15) := ⟨⟨by decide +kernel, by decide +kernel⟩, List.mem_of_getElem? (i := 667) (by decide +kernel), List.mem_of_getElem? (i := 870) (by decide +kernel), List.mem_of_getElem? (i := 871) (by decide +kernel)⟩
theorem lw_p42 : lw_okq (⟨"TagWindowsModel", "isTooLate", "(I)Z"⟩, 15) := ⟨⟨by decide +kernel, by decide +kernel⟩, List.mem_of_getElem? (i := 667) (by decide +kernel), List.mem_of_getElem? (i := 874) (by decide +kernel), List.mem_of_getElem? (i := 875) (by decide +kernel)⟩
theorem lw_p43 : lw_okq (⟨"TagWindowsModel", "endOf", "(I)I"⟩, 15) := ⟨⟨by decide +kernel, by decide +kernel⟩, List.mem_of_getElem? (i := 667) (by decide +kernel), List.mem_of_getElem? (i := 878) (by decide +kernel), List.mem_of_getElem? (i := 879) (by decide +kernel)⟩
theorem lw_p44 : lw_okq (⟨"TagWindowsModel", "barredBy", "(I)I"⟩, 15) := ⟨⟨by decide +kernel, by decide +kernel⟩, List.mem_of_getElem? (i := 667) (by decide +kernel), List.mem_of_getElem? (i := 882) (by decide +kernel), List.mem_of_getElem? (i := 883) (by decide +kernel)⟩
theorem lw_p45 : lw_okq (⟨"TagWindowsModel", "begins", "(I)I"⟩, 15) := ⟨⟨by decide +kernel, by decide +kernel⟩, List.mem_of_getElem? (i := 667) (by decide +kernel), List.mem_of_getElem? (i := 886) (by decide +kernel), List.mem_of_getElem? (i := 887) (by decide +kernel)⟩
theorem lw_p46 : lw_okq (⟨"TagWindowsModel", "liftError", "(II)I"⟩, 15) := ⟨⟨by decide +kernel, by decide +kernel⟩, List.mem_of_getElem? (i := 667) (by decide +kernel), List.mem_of_getElem? (i := 894) (by decide +kernel), List.mem_of_getElem? (i := 895) (by decide +kernel)⟩
theorem lw_p47 : lw_okq (⟨"TagWindowsModel", "topOf", "(I)I"⟩, 15) := ⟨⟨by decide +kernel, by decide +kernel⟩, List.mem_of_getElem? (i := 667) (by decide +kernel), List.mem_of_getElem? (i := 898) (by decide +kernel), List.mem_of_getElem? (i := 899) (by decide +kernel)⟩
def lw_privs_3 : List (MethodName × Nat) := [(⟨"TagWindowsModel", "isTask", "(I)Z"⟩, 15), (⟨"TagWindowsModel", "isCrew", "(I)Z"⟩, 15), (⟨"TagWindowsModel", "stateOf", "(I)I"⟩, 15), (⟨"TagWindowsModel", "ofTask", "(II)I"⟩, 15), (⟨"TagWindowsModel", "canHang", "(II)Z"⟩, 15), (⟨"TagWindowsModel", "busy", "(IZ)I"⟩, 15), (⟨"TagWindowsModel", "isBusy", "(I)Z"⟩, 15), (⟨"TagWindowsModel", "hangs", "(II)I"⟩, 15), (⟨"TagWindowsModel", "beginError", "(I)I"⟩, 15), (⟨"TagWindowsModel", "reasonOf", "(I)I"⟩, 15), (⟨"TagWindowsModel", "isTooLate", "(I)Z"⟩, 15), (⟨"TagWindowsModel", "endOf", "(I)I"⟩, 15), (⟨"TagWindowsModel", "barredBy", "(I)I"⟩, 15), (⟨"TagWindowsModel", "begins", "(I)I"⟩, 15), (⟨"TagWindowsModel", "liftError", "(II)I"⟩, 15), (⟨"TagWindowsModel", "topOf", "(I)I"⟩, 15)]
theorem lw_r3 : ∀ q ∈ lw_privs_3, lw_okq q := List.forall_mem_cons.mpr ⟨lw_p32, List.forall_mem_cons.mpr ⟨lw_p33, List.forall_mem_cons.mpr ⟨lw_p34, List.forall_mem_cons.mpr ⟨lw_p35, List.forall_mem_cons.mpr ⟨lw_p36, List.forall_mem_cons.mpr ⟨lw_p37, List.forall_mem_cons.mpr ⟨lw_p38, List.forall_mem_cons.mpr ⟨lw_p39, List.forall_mem_cons.mpr ⟨lw_p40, List.forall_mem_cons.mpr ⟨lw_p41, List.forall_mem_cons.mpr ⟨lw_p42, List.forall_mem_cons.mpr ⟨lw_p43, List.forall_mem_cons.mpr ⟨lw_p44, List.forall_mem_cons.mpr ⟨lw_p45, List.forall_mem_cons.mpr ⟨lw_p46, List.forall_mem_cons.mpr ⟨lw_p47, fun _ h => absurd h List.not_mem_nil⟩⟩⟩⟩⟩⟩⟩⟩⟩⟩⟩⟩⟩⟩⟩⟩
theorem lw_p48 : lw_okq (⟨"TagWindowsModel", "lifts", "(I)I"⟩, 15) := ⟨⟨by decide +kernel, by decide +kernel⟩, List.mem_of_getElem? (i := 667) (by decide +kernel), List.mem_of_getElem? (i := 902) (by decide +kernel), List.mem_of_getElem? (i := 903) (by decide +kernel)⟩
theorem lw_p49 : lw_okq (⟨"TagWindowsModel", "passError", "(I)I"⟩, 15) := ⟨⟨by decide +kernel, by decide +kernel⟩, List.mem_of_getElem? (i := 667) (by decide +kernel), List.mem_of_getElem? (i := 914) (by decide +kernel), List.mem_of_getElem? (i := 915) (by decide +kernel)⟩
theorem lw_p50 : lw_okq (⟨"TagWindowsModel", "passes", "(I)I"⟩, 15) := ⟨⟨by decide +kernel, by decide +kernel⟩, List.mem_of_getElem? (i := 667) (by decide +kernel), List.mem_of_getElem? (i := 918) (by decide +kernel), List.mem_of_getElem? (i := 919) (by decide +kernel)⟩
theorem lw_p51 : lw_okq (⟨"TagWindowsModel", "passesHour", "()I"⟩, 15) := ⟨⟨by decide +kernel, by decide +kernel⟩, List.mem_of_getElem? (i := 667) (by decide +kernel), List.mem_of_getElem? (i := 922) (by decide +kernel), List.mem_of_getElem? (i := 923) (by decide +kernel)⟩
theorem lw_p52 : lw_okq (⟨"TagWindowsModel", "runsHour", "(I)V"⟩, 15) := ⟨⟨by decide +kernel, by decide +kernel⟩, List.mem_of_getElem? (i := 667) (by decide +kernel), List.mem_of_getElem? (i := 926) (by decide +kernel), List.mem_of_getElem? (i := 927) (by decide +kernel)⟩
theorem lw_p53 : lw_okq (⟨"TagWindowsModel", "worn", "(IF)F"⟩, 15) := ⟨⟨by decide +kernel, by decide +kernel⟩, List.mem_of_getElem? (i := 667) (by decide +kernel), List.mem_of_getElem? (i := 930) (by decide +kernel), List.mem_of_getElem? (i := 931) (by decide +kernel)⟩
theorem lw_p54 : lw_okq (⟨"TagWindowsModel", "slips", "(I)V"⟩, 15) := ⟨⟨by decide +kernel, by decide +kernel⟩, List.mem_of_getElem? (i := 667) (by decide +kernel), List.mem_of_getElem? (i := 937) (by decide +kernel), List.mem_of_getElem? (i := 938) (by decide +kernel)⟩
theorem lw_p55 : lw_okq (⟨"TagWindowsModel", "faultOf", "()I"⟩, 15) := ⟨⟨by decide +kernel, by decide +kernel⟩, List.mem_of_getElem? (i := 667) (by decide +kernel), List.mem_of_getElem? (i := 953) (by decide +kernel), List.mem_of_getElem? (i := 954) (by decide +kernel)⟩
theorem lw_p56 : lw_okq (⟨"TagWindowsModel", "passesOrder", "()Z"⟩, 15) := ⟨⟨by decide +kernel, by decide +kernel⟩, List.mem_of_getElem? (i := 667) (by decide +kernel), List.mem_of_getElem? (i := 957) (by decide +kernel), List.mem_of_getElem? (i := 958) (by decide +kernel)⟩
theorem lw_p57 : lw_okq (⟨"TagWindowsModel", "passesNumber", "(I)Z"⟩, 15) := ⟨⟨by decide +kernel, by decide +kernel⟩, List.mem_of_getElem? (i := 667) (by decide +kernel), List.mem_of_getElem? (i := 961) (by decide +kernel), List.mem_of_getElem? (i := 962) (by decide +kernel)⟩
theorem lw_p58 : lw_okq (⟨"TagWindowsModel", "isHere", "(II)Z"⟩, 15) := ⟨⟨by decide +kernel, by decide +kernel⟩, List.mem_of_getElem? (i := 667) (by decide +kernel), List.mem_of_getElem? (i := 965) (by decide +kernel), List.mem_of_getElem? (i := 966) (by decide +kernel)⟩
theorem lw_p59 : lw_okq (⟨"TagWindowsModel", "passesSign", "(I)Z"⟩, 15) := ⟨⟨by decide +kernel, by decide +kernel⟩, List.mem_of_getElem? (i := 667) (by decide +kernel), List.mem_of_getElem? (i := 969) (by decide +kernel), List.mem_of_getElem? (i := 970) (by decide +kernel)⟩
theorem lw_p60 : lw_okq (⟨"TagWindowsModel", "orderError", "()I"⟩, 15) := ⟨⟨by decide +kernel, by decide +kernel⟩, List.mem_of_getElem? (i := 667) (by decide +kernel), List.mem_of_getElem? (i := 973) (by decide +kernel), List.mem_of_getElem? (i := 974) (by decide +kernel)⟩
theorem lw_p61 : lw_okq (⟨"TagWindowsModel", "does", "()I"⟩, 15) := ⟨⟨by decide +kernel, by decide +kernel⟩, List.mem_of_getElem? (i := 667) (by decide +kernel), List.mem_of_getElem? (i := 977) (by decide +kernel), List.mem_of_getElem? (i := 978) (by decide +kernel)⟩
theorem lw_p62 : lw_okq (⟨"TagWindowsModel", "tasksAt", "(III)I"⟩, 15) := ⟨⟨by decide +kernel, by decide +kernel⟩, List.mem_of_getElem? (i := 667) (by decide +kernel), List.mem_of_getElem? (i := 999) (by decide +kernel), List.mem_of_getElem? (i := 1000) (by decide +kernel)⟩
theorem lw_p63 : lw_okq (⟨"TagWindowsModel", "doneBy", "(I)I"⟩, 15) := ⟨⟨by decide +kernel, by decide +kernel⟩, List.mem_of_getElem? (i := 667) (by decide +kernel), List.mem_of_getElem? (i := 1011) (by decide +kernel), List.mem_of_getElem? (i := 1012) (by decide +kernel)⟩
def lw_privs_4 : List (MethodName × Nat) := [(⟨"TagWindowsModel", "lifts", "(I)I"⟩, 15), (⟨"TagWindowsModel", "passError", "(I)I"⟩, 15), (⟨"TagWindowsModel", "passes", "(I)I"⟩, 15), (⟨"TagWindowsModel", "passesHour", "()I"⟩, 15), (⟨"TagWindowsModel", "runsHour", "(I)V"⟩, 15), (⟨"TagWindowsModel", "worn", "(IF)F"⟩, 15), (⟨"TagWindowsModel", "slips", "(I)V"⟩, 15), (⟨"TagWindowsModel", "faultOf", "()I"⟩, 15), (⟨"TagWindowsModel", "passesOrder", "()Z"⟩, 15), (⟨"TagWindowsModel", "passesNumber", "(I)Z"⟩, 15), (⟨"TagWindowsModel", "isHere", "(II)Z"⟩, 15), (⟨"TagWindowsModel", "passesSign", "(I)Z"⟩, 15), (⟨"TagWindowsModel", "orderError", "()I"⟩, 15), (⟨"TagWindowsModel", "does", "()I"⟩, 15), (⟨"TagWindowsModel", "tasksAt", "(III)I"⟩, 15), (⟨"TagWindowsModel", "doneBy", "(I)I"⟩, 15)]
theorem lw_r4 : ∀ q ∈ lw_privs_4, lw_okq q := List.forall_mem_cons.mpr ⟨lw_p48, List.forall_mem_cons.mpr ⟨lw_p49, List.forall_mem_cons.mpr ⟨lw_p50, List.forall_mem_cons.mpr ⟨lw_p51, List.forall_mem_cons.mpr ⟨lw_p52, List.forall_mem_cons.mpr ⟨lw_p53, List.forall_mem_cons.mpr ⟨lw_p54, List.forall_mem_cons.mpr ⟨lw_p55, List.forall_mem_cons.mpr ⟨lw_p56, List.forall_mem_cons.mpr ⟨lw_p57, List.forall_mem_cons.mpr ⟨lw_p58, List.forall_mem_cons.mpr ⟨lw_p59, List.forall_mem_cons.mpr ⟨lw_p60, List.forall_mem_cons.mpr ⟨lw_p61, List.forall_mem_cons.mpr ⟨lw_p62, List.forall_mem_cons.mpr ⟨lw_p63, fun _ h => absurd h List.not_mem_nil⟩⟩⟩⟩⟩⟩⟩⟩⟩⟩⟩⟩⟩⟩⟩⟩
theorem lw_p64 : lw_okq (⟨"TagWindowsModel", "inState", "(I)I"⟩, 15) := ⟨⟨by decide +kernel, by decide +kernel⟩, List.mem_of_getElem? (i := 667) (by decide +kernel), List.mem_of_getElem? (i := 1027) (by decide +kernel), List.mem_of_getElem? (i := 1028) (by decide +kernel)⟩
theorem lw_p65 : lw_okq (⟨"TagWindowsModel", "tags", "()I"⟩, 15) := ⟨⟨by decide +kernel, by decide +kernel⟩, List.mem_of_getElem? (i := 667) (by decide +kernel), List.mem_of_getElem? (i := 1031) (by decide +kernel), List.mem_of_getElem? (i := 1032) (by decide +kernel)⟩
theorem lw_p66 : lw_okq (⟨"TagWindowsModel", "allSlips", "()I"⟩, 15) := ⟨⟨by decide +kernel, by decide +kernel⟩, List.mem_of_getElem? (i := 667) (by decide +kernel), List.mem_of_getElem? (i := 1035) (by decide +kernel), List.mem_of_getElem? (i := 1036) (by decide +kernel)⟩
theorem lw_p67 : lw_okq (⟨"TagWindowsModel", "allBusy", "()I"⟩, 15) := ⟨⟨by decide +kernel, by decide +kernel⟩, List.mem_of_getElem? (i := 667) (by decide +kernel), List.mem_of_getElem? (i := 1039) (by decide +kernel), List.mem_of_getElem? (i := 1040) (by decide +kernel)⟩
def lw_privs_5 : List (MethodName × Nat) := [(⟨"TagWindowsModel", "inState", "(I)I"⟩, 15), (⟨"TagWindowsModel", "tags", "()I"⟩, 15), (⟨"TagWindowsModel", "allSlips", "()I"⟩, 15), (⟨"TagWindowsModel", "allBusy", "()I"⟩, 15)]
theorem lw_r5 : ∀ q ∈ lw_privs_5, lw_okq q := List.forall_mem_cons.mpr ⟨lw_p64, List.forall_mem_cons.mpr ⟨lw_p65, List.forall_mem_cons.mpr ⟨lw_p66, List.forall_mem_cons.mpr ⟨lw_p67, fun _ h => absurd h List.not_mem_nil⟩⟩⟩⟩
def lw_privs : List (MethodName × Nat) := lw_privs_1 ++ (lw_privs_2 ++ (lw_privs_3 ++ (lw_privs_4 ++ (lw_privs_5))))
def lw_tbl : List Cond := k2_sels lw_privs ++ tables_1
theorem lw_privs_ok : ∀ q ∈ lw_privs, lw_okq q := by
  show ∀ q ∈ lw_privs_1 ++ (lw_privs_2 ++ (lw_privs_3 ++ (lw_privs_4 ++ (lw_privs_5)))), lw_okq q
  exact List.forall_mem_append.mpr ⟨lw_r1, List.forall_mem_append.mpr ⟨lw_r2, List.forall_mem_append.mpr ⟨lw_r3, List.forall_mem_append.mpr ⟨lw_r4, lw_r5⟩⟩⟩⟩
/-- the streams that the claim lets the run draw from -/
abbrev lw_cs : List Choice := [Jvm.Choice.named "NaN.bits"]
theorem lw_bits : nanBits ∈ lw_cs := by first | decide | exact List.mem_cons_self | simp [lw_cs, nanBits]
-- ===== end of PART A; then your names; then what follows =====
/-! ===== BEGIN words of one list among another's, by their places ===== -/
theorem goodIn_r {big : List Cond} (ws : List Cond) (ps : List Nat) (hp : ws = ps.filterMap (fun i => big[i]?)) (h : ws.all goodWord = true) : GoodIn big ws := by
  intro w hw
  have h1 := List.all_eq_true.mp h w hw
  rw [hp] at hw
  obtain ⟨i, -, hi⟩ := List.mem_filterMap.mp hw
  have hm : w ∈ big := by first | exact List.mem_of_getElem? hi | exact List.getElem?_mem hi
  exact ⟨hm, good_of_word h1⟩
theorem goodIn_app {big a b : List Cond} (ha : GoodIn big a) (hb : GoodIn big b) : GoodIn big (a ++ b) := fun w h => (List.mem_append.mp h).elim (ha w) (hb w)
theorem goodIn_ca {big a b : List Cond} {c : Cond} (ha : GoodIn big (c :: a)) (hb : GoodIn big b) : GoodIn big (c :: (a ++ b)) := fun w h => (List.mem_cons.mp h).elim (fun e => ha w (List.mem_cons.mpr (Or.inl e))) (fun h => (List.mem_append.mp h).elim (fun h => ha w (List.mem_cons.mpr (Or.inr h))) (hb w))
theorem goodIn_sub {big ws : List Cond} (hm : ∀ w ∈ ws, w ∈ big) (h : ws.all goodWord = true) : GoodIn big ws := fun w hw => ⟨hm w hw, good_of_word (List.all_eq_true.mp h w hw)⟩
/-! ===== END ===== -/

/-! ===== BEGIN printed: names, fields, word lists, decode rows ===== -/
def RX0 : String := "TagWindows$Asset"
def TX0 : u_T := fun k => match k with
  | 0 => ("TagWindows$Asset", "rate", "I", false)
  | 1 => ("TagWindows$Asset", "wear", "F", false)
  | 2 => ("TagWindows$Asset", "health", "F", false)
  | 3 => ("TagWindows$Asset", "output", "F", false)
  | 4 => ("TagWindows$Asset", "runs", "Z", false)
  | _ => ("TagWindows$Asset", "links", "I", false)
def tyX0 : Nat → FieldType := fun k => match k with
  | 0 => .int
  | 1 => .float
  | 2 => .float
  | 3 => .float
  | 4 => .boolean
  | _ => .int
abbrev wsX00 : List Cond := u_ws RX0 TX0 6
theorem nmX0 : ∀ a, a < 6 → ∀ b, b < 6 → a ≠ b → (TX0 a).2.1 ≠ (TX0 b).2.1 := by decide +kernel
theorem tyX0_ok : ∀ k, k < 6 → parseFieldDescriptor (TX0 k).2.2.1 = some (tyX0 k) := by decide +kernel
abbrev cX0_init : ByteArray := prog_2_method_1_code
def yX0_init : MethodName := ⟨RX0, "<init>", "()V"⟩
abbrev cX0_setUp : ByteArray := prog_2_method_2_code
def yX0_setUp : MethodName := ⟨RX0, "setUp", "(II)V"⟩
abbrev cX0_copyFrom : ByteArray := prog_2_method_3_code
def yX0_copyFrom : MethodName := ⟨RX0, "copyFrom", "(LTagWindows$Asset;)V"⟩
abbrev cX0_isLinkedTo : ByteArray := prog_2_method_4_code
def yX0_isLinkedTo : MethodName := ⟨RX0, "isLinkedTo", "(I)Z"⟩
abbrev cX0_runForAnHour : ByteArray := prog_2_method_5_code
def yX0_runForAnHour : MethodName := ⟨RX0, "runForAnHour", "()V"⟩
abbrev cX0_mend : ByteArray := prog_2_method_6_code
def yX0_mend : MethodName := ⟨RX0, "mend", "()V"⟩
abbrev cX0_afterAnHour : ByteArray := prog_2_method_7_code
def yX0_afterAnHour : MethodName := ⟨RX0, "afterAnHour", "(F)F"⟩
abbrev cX0_healthAfter : ByteArray := prog_2_method_8_code
def yX0_healthAfter : MethodName := ⟨RX0, "healthAfter", "(I)F"⟩
abbrev cX0_hoursUntilBelow : ByteArray := prog_2_method_9_code
def yX0_hoursUntilBelow : MethodName := ⟨RX0, "hoursUntilBelow", "(F)I"⟩
def RX1 : String := "TagWindows$Crew"
def TX1 : u_T := fun k => match k with
  | 0 => ("TagWindows$Crew", "people", "I", false)
  | _ => ("TagWindows$Crew", "skills", "I", false)
def tyX1 : Nat → FieldType := fun k => match k with
  | 0 => .int
  | _ => .int
abbrev wsX10 : List Cond := u_ws RX1 TX1 2
theorem nmX1 : ∀ a, a < 2 → ∀ b, b < 2 → a ≠ b → (TX1 a).2.1 ≠ (TX1 b).2.1 := by decide +kernel
theorem tyX1_ok : ∀ k, k < 2 → parseFieldDescriptor (TX1 k).2.2.1 = some (tyX1 k) := by decide +kernel
abbrev cX1_init : ByteArray := prog_3_method_1_code
def yX1_init : MethodName := ⟨RX1, "<init>", "()V"⟩
abbrev cX1_setUp : ByteArray := prog_3_method_2_code
def yX1_setUp : MethodName := ⟨RX1, "setUp", "(II)V"⟩
abbrev cX1_copyFrom : ByteArray := prog_3_method_3_code
def yX1_copyFrom : MethodName := ⟨RX1, "copyFrom", "(LTagWindows$Crew;)V"⟩
abbrev cX1_has : ByteArray := prog_3_method_4_code
def yX1_has : MethodName := ⟨RX1, "has", "(I)Z"⟩
def RX2 : String := "TagWindows$History"
def TX2 : u_T := fun k => match k with
  | 0 => ("TagWindows$History", "states", "[LTagWindows$Plant;", true)
  | 1 => ("TagWindows$History", "oldest", "I", false)
  | _ => ("TagWindows$History", "size", "I", false)
def tyX2 : Nat → FieldType := fun k => match k with
  | 0 => .array (.object "TagWindows$Plant")
  | 1 => .int
  | _ => .int
abbrev wsX20 : List Cond := u_ws RX2 TX2 3
theorem nmX2 : ∀ a, a < 3 → ∀ b, b < 3 → a ≠ b → (TX2 a).2.1 ≠ (TX2 b).2.1 := by decide +kernel
theorem tyX2_ok : ∀ k, k < 3 → parseFieldDescriptor (TX2 k).2.2.1 = some (tyX2 k) := by decide +kernel
abbrev cX2_init : ByteArray := prog_4_method_1_code
def yX2_init : MethodName := ⟨RX2, "<init>", "()V"⟩
abbrev cX2_add : ByteArray := prog_4_method_2_code
def yX2_add : MethodName := ⟨RX2, "add", "(LTagWindows$Plant;)V"⟩
abbrev cX2_takeBack : ByteArray := prog_4_method_3_code
def yX2_takeBack : MethodName := ⟨RX2, "takeBack", "(LTagWindows$Plant;)I"⟩
def RX3 : String := "TagWindows$Order"
def TX3 : u_T := fun k => match k with
  | 0 => ("TagWindows$Order", "verb", "C", false)
  | 1 => ("TagWindows$Order", "number", "I", false)
  | _ => ("TagWindows$Order", "crew", "I", false)
def tyX3 : Nat → FieldType := fun k => match k with
  | 0 => .char
  | 1 => .int
  | _ => .int
abbrev wsX30 : List Cond := u_ws RX3 TX3 3
theorem nmX3 : ∀ a, a < 3 → ∀ b, b < 3 → a ≠ b → (TX3 a).2.1 ≠ (TX3 b).2.1 := by decide +kernel
theorem tyX3_ok : ∀ k, k < 3 → parseFieldDescriptor (TX3 k).2.2.1 = some (tyX3 k) := by decide +kernel
abbrev cX3_init : ByteArray := prog_5_method_1_code
def yX3_init : MethodName := ⟨RX3, "<init>", "()V"⟩
def RX4 : String := "TagWindows$Orders"
def TX4 : u_T := fun k => match k with
  | 0 => ("TagWindows$Orders", "text", "[C", true)
  | 1 => ("TagWindows$Orders", "length", "I", false)
  | 2 => ("TagWindows$Orders", "rows", "[LTagWindows$Order;", true)
  | 3 => ("TagWindows$Orders", "count", "I", false)
  | _ => ("TagWindows$Orders", "at", "I", false)
def tyX4 : Nat → FieldType := fun k => match k with
  | 0 => .array .char
  | 1 => .int
  | 2 => .array (.object "TagWindows$Order")
  | 3 => .int
  | _ => .int
abbrev wsX40 : List Cond := u_ws RX4 TX4 5
theorem nmX4 : ∀ a, a < 5 → ∀ b, b < 5 → a ≠ b → (TX4 a).2.1 ≠ (TX4 b).2.1 := by decide +kernel
theorem tyX4_ok : ∀ k, k < 5 → parseFieldDescriptor (TX4 k).2.2.1 = some (tyX4 k) := by decide +kernel
abbrev cX4_init : ByteArray := prog_6_method_1_code
def yX4_init : MethodName := ⟨RX4, "<init>", "()V"⟩
abbrev cX4_append : ByteArray := prog_6_method_2_code
def yX4_append : MethodName := ⟨RX4, "append", "(C)I"⟩
abbrev cX4_clear : ByteArray := prog_6_method_3_code
def yX4_clear : MethodName := ⟨RX4, "clear", "()I"⟩
abbrev cX4_read : ByteArray := prog_6_method_4_code
def yX4_read : MethodName := ⟨RX4, "read", "()I"⟩
abbrev cX4_readOrder : ByteArray := prog_6_method_5_code
def yX4_readOrder : MethodName := ⟨RX4, "readOrder", "(LTagWindows$Order;)Z"⟩
abbrev cX4_readNumber : ByteArray := prog_6_method_6_code
def yX4_readNumber : MethodName := ⟨RX4, "readNumber", "(LTagWindows$Order;)Z"⟩
abbrev cX4_readAsset : ByteArray := prog_6_method_7_code
def yX4_readAsset : MethodName := ⟨RX4, "readAsset", "(LTagWindows$Order;)Z"⟩
abbrev cX4_readCrew : ByteArray := prog_6_method_8_code
def yX4_readCrew : MethodName := ⟨RX4, "readCrew", "(LTagWindows$Order;)Z"⟩
abbrev cX4_readSign : ByteArray := prog_6_method_9_code
def yX4_readSign : MethodName := ⟨RX4, "readSign", "(C)Z"⟩
abbrev cX4_isAtDigit : ByteArray := prog_6_method_10_code
def yX4_isAtDigit : MethodName := ⟨RX4, "isAtDigit", "()Z"⟩
abbrev cX4_readDigit : ByteArray := prog_6_method_11_code
def yX4_readDigit : MethodName := ⟨RX4, "readDigit", "()I"⟩
def RX5 : String := "TagWindows$Plant"
def TX5 : u_T := fun k => match k with
  | 0 => ("TagWindows$Plant", "assets", "[LTagWindows$Asset;", true)
  | 1 => ("TagWindows$Plant", "crews", "[LTagWindows$Crew;", true)
  | 2 => ("TagWindows$Plant", "tasks", "[LTagWindows$Task;", true)
  | 3 => ("TagWindows$Plant", "bars", "[I", true)
  | 4 => ("TagWindows$Plant", "assetCount", "I", false)
  | 5 => ("TagWindows$Plant", "crewCount", "I", false)
  | 6 => ("TagWindows$Plant", "taskCount", "I", false)
  | _ => ("TagWindows$Plant", "hour", "I", false)
def tyX5 : Nat → FieldType := fun k => match k with
  | 0 => .array (.object "TagWindows$Asset")
  | 1 => .array (.object "TagWindows$Crew")
  | 2 => .array (.object "TagWindows$Task")
  | 3 => .array .int
  | 4 => .int
  | 5 => .int
  | 6 => .int
  | _ => .int
abbrev wsX50 : List Cond := u_ws RX5 TX5 8
theorem nmX5 : ∀ a, a < 8 → ∀ b, b < 8 → a ≠ b → (TX5 a).2.1 ≠ (TX5 b).2.1 := by decide +kernel
theorem tyX5_ok : ∀ k, k < 8 → parseFieldDescriptor (TX5 k).2.2.1 = some (tyX5 k) := by decide +kernel
abbrev cX5_init : ByteArray := prog_7_method_1_code
def yX5_init : MethodName := ⟨RX5, "<init>", "()V"⟩
abbrev cX5_copyFrom : ByteArray := prog_7_method_2_code
def yX5_copyFrom : MethodName := ⟨RX5, "copyFrom", "(LTagWindows$Plant;)V"⟩
abbrev cX5_hasAsset : ByteArray := prog_7_method_3_code
def yX5_hasAsset : MethodName := ⟨RX5, "hasAsset", "(I)Z"⟩
abbrev cX5_hasCrew : ByteArray := prog_7_method_4_code
def yX5_hasCrew : MethodName := ⟨RX5, "hasCrew", "(I)Z"⟩
abbrev cX5_hasTask : ByteArray := prog_7_method_5_code
def yX5_hasTask : MethodName := ⟨RX5, "hasTask", "(I)Z"⟩
abbrev cX5_newAsset : ByteArray := prog_7_method_6_code
def yX5_newAsset : MethodName := ⟨RX5, "newAsset", "(II)I"⟩
abbrev cX5_setLink : ByteArray := prog_7_method_7_code
def yX5_setLink : MethodName := ⟨RX5, "setLink", "(IIZ)I"⟩
abbrev cX5_setBar : ByteArray := prog_7_method_8_code
def yX5_setBar : MethodName := ⟨RX5, "setBar", "(IIZ)I"⟩
abbrev cX5_newCrew : ByteArray := prog_7_method_9_code
def yX5_newCrew : MethodName := ⟨RX5, "newCrew", "(II)I"⟩
abbrev cX5_newTask : ByteArray := prog_7_method_10_code
def yX5_newTask : MethodName := ⟨RX5, "newTask", "(IIIIII)I"⟩
abbrev cX5_startAsset : ByteArray := prog_7_method_11_code
def yX5_startAsset : MethodName := ⟨RX5, "startAsset", "(I)I"⟩
abbrev cX5_stopAsset : ByteArray := prog_7_method_12_code
def yX5_stopAsset : MethodName := ⟨RX5, "stopAsset", "(I)I"⟩
abbrev cX5_hangTag : ByteArray := prog_7_method_13_code
def yX5_hangTag : MethodName := ⟨RX5, "hangTag", "(II)I"⟩
abbrev cX5_beginTask : ByteArray := prog_7_method_14_code
def yX5_beginTask : MethodName := ⟨RX5, "beginTask", "(I)I"⟩
abbrev cX5_liftTag : ByteArray := prog_7_method_15_code
def yX5_liftTag : MethodName := ⟨RX5, "liftTag", "(II)I"⟩
abbrev cX5_cancelTask : ByteArray := prog_7_method_16_code
def yX5_cancelTask : MethodName := ⟨RX5, "cancelTask", "(I)I"⟩
abbrev cX5_passHours : ByteArray := prog_7_method_17_code
def yX5_passHours : MethodName := ⟨RX5, "passHours", "(I)I"⟩
abbrev cX5_runAssets : ByteArray := prog_7_method_18_code
def yX5_runAssets : MethodName := ⟨RX5, "runAssets", "()V"⟩
abbrev cX5_workOnTasks : ByteArray := prog_7_method_19_code
def yX5_workOnTasks : MethodName := ⟨RX5, "workOnTasks", "()I"⟩
abbrev cX5_mendAsset : ByteArray := prog_7_method_20_code
def yX5_mendAsset : MethodName := ⟨RX5, "mendAsset", "(I)V"⟩
abbrev cX5_slipTasks : ByteArray := prog_7_method_21_code
def yX5_slipTasks : MethodName := ⟨RX5, "slipTasks", "()V"⟩
abbrev cX5_reasonAgainst : ByteArray := prog_7_method_22_code
def yX5_reasonAgainst : MethodName := ⟨RX5, "reasonAgainst", "(I)I"⟩
abbrev cX5_barrierOf : ByteArray := prog_7_method_23_code
def yX5_barrierOf : MethodName := ⟨RX5, "barrierOf", "(I)I"⟩
abbrev cX5_doBar : ByteArray := prog_7_method_24_code
def yX5_doBar : MethodName := ⟨RX5, "doBar", "(II)Z"⟩
abbrev cX5_areNear : ByteArray := prog_7_method_25_code
def yX5_areNear : MethodName := ⟨RX5, "areNear", "(II)Z"⟩
abbrev cX5_isRunning : ByteArray := prog_7_method_26_code
def yX5_isRunning : MethodName := ⟨RX5, "isRunning", "(I)Z"⟩
abbrev cX5_canServe : ByteArray := prog_7_method_27_code
def yX5_canServe : MethodName := ⟨RX5, "canServe", "(ILTagWindows$Task;)Z"⟩
abbrev cX5_firstCrewFor : ByteArray := prog_7_method_28_code
def yX5_firstCrewFor : MethodName := ⟨RX5, "firstCrewFor", "(I)I"⟩
abbrev cX5_tagsHanging : ByteArray := prog_7_method_29_code
def yX5_tagsHanging : MethodName := ⟨RX5, "tagsHanging", "(I)I"⟩
abbrev cX5_taskOfTag : ByteArray := prog_7_method_30_code
def yX5_taskOfTag : MethodName := ⟨RX5, "taskOfTag", "(II)I"⟩
abbrev cX5_tasksOfAsset : ByteArray := prog_7_method_31_code
def yX5_tasksOfAsset : MethodName := ⟨RX5, "tasksOfAsset", "(III)I"⟩
abbrev cX5_tasksOfCrew : ByteArray := prog_7_method_32_code
def yX5_tasksOfCrew : MethodName := ⟨RX5, "tasksOfCrew", "(III)I"⟩
abbrev cX5_tasksIn : ByteArray := prog_7_method_33_code
def yX5_tasksIn : MethodName := ⟨RX5, "tasksIn", "(II)I"⟩
abbrev cX5_busyPeople : ByteArray := prog_7_method_34_code
def yX5_busyPeople : MethodName := ⟨RX5, "busyPeople", "(I)I"⟩
abbrev cX5_allBusyPeople : ByteArray := prog_7_method_35_code
def yX5_allBusyPeople : MethodName := ⟨RX5, "allBusyPeople", "()I"⟩
abbrev cX5_assetsRunning : ByteArray := prog_7_method_36_code
def yX5_assetsRunning : MethodName := ⟨RX5, "assetsRunning", "()I"⟩
abbrev cX5_slipsSoFar : ByteArray := prog_7_method_37_code
def yX5_slipsSoFar : MethodName := ⟨RX5, "slipsSoFar", "()I"⟩
def RX6 : String := "TagWindows$Task"
def TX6 : u_T := fun k => match k with
  | 0 => ("TagWindows$Task", "asset", "I", false)
  | 1 => ("TagWindows$Task", "skill", "I", false)
  | 2 => ("TagWindows$Task", "people", "I", false)
  | 3 => ("TagWindows$Task", "kind", "I", false)
  | 4 => ("TagWindows$Task", "hours", "I", false)
  | 5 => ("TagWindows$Task", "from", "I", false)
  | 6 => ("TagWindows$Task", "end", "I", false)
  | 7 => ("TagWindows$Task", "state", "I", false)
  | 8 => ("TagWindows$Task", "crew", "I", false)
  | 9 => ("TagWindows$Task", "left", "I", false)
  | 10 => ("TagWindows$Task", "slips", "I", false)
  | _ => ("TagWindows$Task", "height", "I", false)
def tyX6 : Nat → FieldType := fun k => match k with
  | 0 => .int
  | 1 => .int
  | 2 => .int
  | 3 => .int
  | 4 => .int
  | 5 => .int
  | 6 => .int
  | 7 => .int
  | 8 => .int
  | 9 => .int
  | 10 => .int
  | _ => .int
abbrev wsX60 : List Cond := u_ws RX6 TX6 12
theorem nmX6 : ∀ a, a < 12 → ∀ b, b < 12 → a ≠ b → (TX6 a).2.1 ≠ (TX6 b).2.1 := by decide +kernel
theorem tyX6_ok : ∀ k, k < 12 → parseFieldDescriptor (TX6 k).2.2.1 = some (tyX6 k) := by decide +kernel
abbrev cX6_init : ByteArray := prog_8_method_1_code
def yX6_init : MethodName := ⟨RX6, "<init>", "()V"⟩
abbrev cX6_setUp : ByteArray := prog_8_method_2_code
def yX6_setUp : MethodName := ⟨RX6, "setUp", "(IIIIII)V"⟩
abbrev cX6_copyFrom : ByteArray := prog_8_method_3_code
def yX6_copyFrom : MethodName := ⟨RX6, "copyFrom", "(LTagWindows$Task;)V"⟩
abbrev cX6_isIn : ByteArray := prog_8_method_4_code
def yX6_isIn : MethodName := ⟨RX6, "isIn", "(II)Z"⟩
abbrev cX6_tagHangs : ByteArray := prog_8_method_5_code
def yX6_tagHangs : MethodName := ⟨RX6, "tagHangs", "()Z"⟩
abbrev cX6_isTooLateAt : ByteArray := prog_8_method_6_code
def yX6_isTooLateAt : MethodName := ⟨RX6, "isTooLateAt", "(I)Z"⟩
abbrev cX6_slip : ByteArray := prog_8_method_7_code
def yX6_slip : MethodName := ⟨RX6, "slip", "()V"⟩
def RX7 : String := "TagWindows"
def TX7 : u_T := fun k => match k with
  | 0 => ("TagWindows", "now", "LTagWindows$Plant;", true)
  | 1 => ("TagWindows", "before", "LTagWindows$Plant;", true)
  | 2 => ("TagWindows", "kept", "LTagWindows$Plant;", true)
  | 3 => ("TagWindows", "hasKept", "Z", false)
  | 4 => ("TagWindows", "history", "LTagWindows$History;", true)
  | _ => ("TagWindows", "orders", "LTagWindows$Orders;", true)
def tyX7 : Nat → FieldType := fun k => match k with
  | 0 => .object "TagWindows$Plant"
  | 1 => .object "TagWindows$Plant"
  | 2 => .object "TagWindows$Plant"
  | 3 => .boolean
  | 4 => .object "TagWindows$History"
  | _ => .object "TagWindows$Orders"
abbrev wsX70 : List Cond := u_ws RX7 TX7 6
theorem nmX7 : ∀ a, a < 6 → ∀ b, b < 6 → a ≠ b → (TX7 a).2.1 ≠ (TX7 b).2.1 := by decide +kernel
theorem tyX7_ok : ∀ k, k < 6 → parseFieldDescriptor (TX7 k).2.2.1 = some (tyX7 k) := by decide +kernel
abbrev cX7_init : ByteArray := prog_1_method_1_code
def yX7_init : MethodName := ⟨RX7, "<init>", "()V"⟩
abbrev cX7_addAsset : ByteArray := prog_1_method_2_code
def yX7_addAsset : MethodName := ⟨RX7, "addAsset", "(II)I"⟩
abbrev cX7_link : ByteArray := prog_1_method_3_code
def yX7_link : MethodName := ⟨RX7, "link", "(IIZ)I"⟩
abbrev cX7_bar : ByteArray := prog_1_method_4_code
def yX7_bar : MethodName := ⟨RX7, "bar", "(IIZ)I"⟩
abbrev cX7_addCrew : ByteArray := prog_1_method_5_code
def yX7_addCrew : MethodName := ⟨RX7, "addCrew", "(II)I"⟩
abbrev cX7_addTask : ByteArray := prog_1_method_6_code
def yX7_addTask : MethodName := ⟨RX7, "addTask", "(IIIIII)I"⟩
abbrev cX7_run : ByteArray := prog_1_method_7_code
def yX7_run : MethodName := ⟨RX7, "run", "(I)I"⟩
abbrev cX7_stop : ByteArray := prog_1_method_8_code
def yX7_stop : MethodName := ⟨RX7, "stop", "(I)I"⟩
abbrev cX7_hang : ByteArray := prog_1_method_9_code
def yX7_hang : MethodName := ⟨RX7, "hang", "(II)I"⟩
abbrev cX7_begin : ByteArray := prog_1_method_10_code
def yX7_begin : MethodName := ⟨RX7, "begin", "(I)I"⟩
abbrev cX7_lift : ByteArray := prog_1_method_11_code
def yX7_lift : MethodName := ⟨RX7, "lift", "(II)I"⟩
abbrev cX7_cancel : ByteArray := prog_1_method_12_code
def yX7_cancel : MethodName := ⟨RX7, "cancel", "(I)I"⟩
abbrev cX7_pass : ByteArray := prog_1_method_13_code
def yX7_pass : MethodName := ⟨RX7, "pass", "(I)I"⟩
abbrev cX7_type : ByteArray := prog_1_method_14_code
def yX7_type : MethodName := ⟨RX7, "type", "(C)I"⟩
abbrev cX7_clearText : ByteArray := prog_1_method_15_code
def yX7_clearText : MethodName := ⟨RX7, "clearText", "()I"⟩
abbrev cX7_perform : ByteArray := prog_1_method_16_code
def yX7_perform : MethodName := ⟨RX7, "perform", "()I"⟩
abbrev cX7_undo : ByteArray := prog_1_method_17_code
def yX7_undo : MethodName := ⟨RX7, "undo", "()I"⟩
abbrev cX7_keep : ByteArray := prog_1_method_18_code
def yX7_keep : MethodName := ⟨RX7, "keep", "()I"⟩
abbrev cX7_restore : ByteArray := prog_1_method_19_code
def yX7_restore : MethodName := ⟨RX7, "restore", "()I"⟩
abbrev cX7_real : ByteArray := prog_1_method_20_code
def yX7_real : MethodName := ⟨RX7, "real", "(II)F"⟩
abbrev cX7_healthIn : ByteArray := prog_1_method_21_code
def yX7_healthIn : MethodName := ⟨RX7, "healthIn", "(II)F"⟩
abbrev cX7_hoursTo : ByteArray := prog_1_method_22_code
def yX7_hoursTo : MethodName := ⟨RX7, "hoursTo", "(II)I"⟩
abbrev cX7_asset : ByteArray := prog_1_method_23_code
def yX7_asset : MethodName := ⟨RX7, "asset", "(II)I"⟩
abbrev cX7_tagAt : ByteArray := prog_1_method_24_code
def yX7_tagAt : MethodName := ⟨RX7, "tagAt", "(II)I"⟩
abbrev cX7_crew : ByteArray := prog_1_method_25_code
def yX7_crew : MethodName := ⟨RX7, "crew", "(II)I"⟩
abbrev cX7_task : ByteArray := prog_1_method_26_code
def yX7_task : MethodName := ⟨RX7, "task", "(II)I"⟩
abbrev cX7_crewFor : ByteArray := prog_1_method_27_code
def yX7_crewFor : MethodName := ⟨RX7, "crewFor", "(I)I"⟩
abbrev cX7_count : ByteArray := prog_1_method_28_code
def yX7_count : MethodName := ⟨RX7, "count", "(I)I"⟩
abbrev cX7_recorded : ByteArray := prog_1_method_29_code
def yX7_recorded : MethodName := ⟨RX7, "recorded", "(I)I"⟩
abbrev cX7_follow : ByteArray := prog_1_method_30_code
def yX7_follow : MethodName := ⟨RX7, "follow", "(LTagWindows$Order;)I"⟩
abbrev cX7_within : ByteArray := prog_1_method_31_code
def yX7_within : MethodName := ⟨RX7, "within", "(III)Z"⟩
def RX8 : String := "TagWindowsModel"
def TX8 : u_T := fun k => match k with
  | 0 => ("TagWindowsModel", "now", "[I", true)
  | 1 => ("TagWindowsModel", "health", "[F", true)
  | 2 => ("TagWindowsModel", "output", "[F", true)
  | 3 => ("TagWindowsModel", "kept", "[I", true)
  | 4 => ("TagWindowsModel", "keptHealth", "[F", true)
  | 5 => ("TagWindowsModel", "keptOutput", "[F", true)
  | 6 => ("TagWindowsModel", "states", "I", false)
  | 7 => ("TagWindowsModel", "hasSnapshot", "Z", false)
  | 8 => ("TagWindowsModel", "text", "[I", true)
  | 9 => ("TagWindowsModel", "length", "I", false)
  | 10 => ("TagWindowsModel", "at", "I", false)
  | 11 => ("TagWindowsModel", "number", "I", false)
  | 12 => ("TagWindowsModel", "order", "I", false)
  | 13 => ("TagWindowsModel", "first", "I", false)
  | _ => ("TagWindowsModel", "second", "I", false)
def tyX8 : Nat → FieldType := fun k => match k with
  | 0 => .array .int
  | 1 => .array .float
  | 2 => .array .float
  | 3 => .array .int
  | 4 => .array .float
  | 5 => .array .float
  | 6 => .int
  | 7 => .boolean
  | 8 => .array .int
  | 9 => .int
  | 10 => .int
  | 11 => .int
  | 12 => .int
  | 13 => .int
  | _ => .int
abbrev wsX80 : List Cond := u_ws RX8 TX8 15
theorem nmX8 : ∀ a, a < 15 → ∀ b, b < 15 → a ≠ b → (TX8 a).2.1 ≠ (TX8 b).2.1 := by decide +kernel
theorem tyX8_ok : ∀ k, k < 15 → parseFieldDescriptor (TX8 k).2.2.1 = some (tyX8 k) := by decide +kernel
abbrev cX8_init : ByteArray := prog_10_method_1_code
def yX8_init : MethodName := ⟨RX8, "<init>", "()V"⟩
abbrev cX8_isIn : ByteArray := prog_10_method_2_code
def yX8_isIn : MethodName := ⟨RX8, "isIn", "(III)Z"⟩
abbrev cX8_of : ByteArray := prog_10_method_3_code
def yX8_of : MethodName := ⟨RX8, "of", "(II)I"⟩
abbrev cX8_sets : ByteArray := prog_10_method_4_code
def yX8_sets : MethodName := ⟨RX8, "sets", "(III)V"⟩
abbrev cX8_ofTask : ByteArray := prog_10_method_5_code
def yX8_ofTask : MethodName := ⟨RX8, "ofTask", "(II)I"⟩
abbrev cX8_setsTask : ByteArray := prog_10_method_6_code
def yX8_setsTask : MethodName := ⟨RX8, "setsTask", "(III)V"⟩
abbrev cX8_isAsset : ByteArray := prog_10_method_7_code
def yX8_isAsset : MethodName := ⟨RX8, "isAsset", "(I)Z"⟩
abbrev cX8_isCrew : ByteArray := prog_10_method_8_code
def yX8_isCrew : MethodName := ⟨RX8, "isCrew", "(I)Z"⟩
abbrev cX8_isTask : ByteArray := prog_10_method_9_code
def yX8_isTask : MethodName := ⟨RX8, "isTask", "(I)Z"⟩
abbrev cX8_ones : ByteArray := prog_10_method_10_code
def yX8_ones : MethodName := ⟨RX8, "ones", "(I)I"⟩
abbrev cX8_keeps : ByteArray := prog_10_method_11_code
def yX8_keeps : MethodName := ⟨RX8, "keeps", "(I)V"⟩
abbrev cX8_brings : ByteArray := prog_10_method_12_code
def yX8_brings : MethodName := ⟨RX8, "brings", "(I)V"⟩
abbrev cX8_copies : ByteArray := prog_10_method_13_code
def yX8_copies : MethodName := ⟨RX8, "copies", "(II)V"⟩
abbrev cX8_recordsTrial : ByteArray := prog_10_method_14_code
def yX8_recordsTrial : MethodName := ⟨RX8, "recordsTrial", "()V"⟩
abbrev cX8_records : ByteArray := prog_10_method_15_code
def yX8_records : MethodName := ⟨RX8, "records", "()V"⟩
abbrev cX8_undo : ByteArray := prog_10_method_16_code
def yX8_undo : MethodName := ⟨RX8, "undo", "()I"⟩
abbrev cX8_keep : ByteArray := prog_10_method_17_code
def yX8_keep : MethodName := ⟨RX8, "keep", "()I"⟩
abbrev cX8_restore : ByteArray := prog_10_method_18_code
def yX8_restore : MethodName := ⟨RX8, "restore", "()I"⟩
abbrev cX8_addAsset : ByteArray := prog_10_method_19_code
def yX8_addAsset : MethodName := ⟨RX8, "addAsset", "(II)I"⟩
abbrev cX8_link : ByteArray := prog_10_method_20_code
def yX8_link : MethodName := ⟨RX8, "link", "(IIZ)I"⟩
abbrev cX8_bars : ByteArray := prog_10_method_21_code
def yX8_bars : MethodName := ⟨RX8, "bars", "(II)Z"⟩
abbrev cX8_bar : ByteArray := prog_10_method_22_code
def yX8_bar : MethodName := ⟨RX8, "bar", "(IIZ)I"⟩
abbrev cX8_addCrew : ByteArray := prog_10_method_23_code
def yX8_addCrew : MethodName := ⟨RX8, "addCrew", "(II)I"⟩
abbrev cX8_addTask : ByteArray := prog_10_method_24_code
def yX8_addTask : MethodName := ⟨RX8, "addTask", "(IIIIII)I"⟩
abbrev cX8_stateOf : ByteArray := prog_10_method_25_code
def yX8_stateOf : MethodName := ⟨RX8, "stateOf", "(I)I"⟩
abbrev cX8_isBusy : ByteArray := prog_10_method_26_code
def yX8_isBusy : MethodName := ⟨RX8, "isBusy", "(I)Z"⟩
abbrev cX8_busy : ByteArray := prog_10_method_27_code
def yX8_busy : MethodName := ⟨RX8, "busy", "(IZ)I"⟩
abbrev cX8_canHang : ByteArray := prog_10_method_28_code
def yX8_canHang : MethodName := ⟨RX8, "canHang", "(II)Z"⟩
abbrev cX8_endOf : ByteArray := prog_10_method_29_code
def yX8_endOf : MethodName := ⟨RX8, "endOf", "(I)I"⟩
abbrev cX8_barredBy : ByteArray := prog_10_method_30_code
def yX8_barredBy : MethodName := ⟨RX8, "barredBy", "(I)I"⟩
abbrev cX8_isTooLate : ByteArray := prog_10_method_31_code
def yX8_isTooLate : MethodName := ⟨RX8, "isTooLate", "(I)Z"⟩
abbrev cX8_reasonOf : ByteArray := prog_10_method_32_code
def yX8_reasonOf : MethodName := ⟨RX8, "reasonOf", "(I)I"⟩
abbrev cX8_running : ByteArray := prog_10_method_33_code
def yX8_running : MethodName := ⟨RX8, "running", "()I"⟩
abbrev cX8_runError : ByteArray := prog_10_method_34_code
def yX8_runError : MethodName := ⟨RX8, "runError", "(I)I"⟩
abbrev cX8_stopError : ByteArray := prog_10_method_35_code
def yX8_stopError : MethodName := ⟨RX8, "stopError", "(I)I"⟩
abbrev cX8_goes : ByteArray := prog_10_method_36_code
def yX8_goes : MethodName := ⟨RX8, "goes", "(II)I"⟩
abbrev cX8_run : ByteArray := prog_10_method_37_code
def yX8_run : MethodName := ⟨RX8, "run", "(I)I"⟩
abbrev cX8_stop : ByteArray := prog_10_method_38_code
def yX8_stop : MethodName := ⟨RX8, "stop", "(I)I"⟩
abbrev cX8_hangError : ByteArray := prog_10_method_39_code
def yX8_hangError : MethodName := ⟨RX8, "hangError", "(II)I"⟩
abbrev cX8_hangs : ByteArray := prog_10_method_40_code
def yX8_hangs : MethodName := ⟨RX8, "hangs", "(II)I"⟩
abbrev cX8_hang : ByteArray := prog_10_method_41_code
def yX8_hang : MethodName := ⟨RX8, "hang", "(II)I"⟩
abbrev cX8_beginError : ByteArray := prog_10_method_42_code
def yX8_beginError : MethodName := ⟨RX8, "beginError", "(I)I"⟩
abbrev cX8_begins : ByteArray := prog_10_method_43_code
def yX8_begins : MethodName := ⟨RX8, "begins", "(I)I"⟩
abbrev cX8_begin : ByteArray := prog_10_method_44_code
def yX8_begin : MethodName := ⟨RX8, "begin", "(I)I"⟩
abbrev cX8_topOf : ByteArray := prog_10_method_45_code
def yX8_topOf : MethodName := ⟨RX8, "topOf", "(I)I"⟩
abbrev cX8_liftError : ByteArray := prog_10_method_46_code
def yX8_liftError : MethodName := ⟨RX8, "liftError", "(II)I"⟩
abbrev cX8_lifts : ByteArray := prog_10_method_47_code
def yX8_lifts : MethodName := ⟨RX8, "lifts", "(I)I"⟩
abbrev cX8_lift : ByteArray := prog_10_method_48_code
def yX8_lift : MethodName := ⟨RX8, "lift", "(II)I"⟩
abbrev cX8_cancel : ByteArray := prog_10_method_49_code
def yX8_cancel : MethodName := ⟨RX8, "cancel", "(I)I"⟩
abbrev cX8_worn : ByteArray := prog_10_method_50_code
def yX8_worn : MethodName := ⟨RX8, "worn", "(IF)F"⟩
abbrev cX8_runsHour : ByteArray := prog_10_method_51_code
def yX8_runsHour : MethodName := ⟨RX8, "runsHour", "(I)V"⟩
abbrev cX8_slips : ByteArray := prog_10_method_52_code
def yX8_slips : MethodName := ⟨RX8, "slips", "(I)V"⟩
abbrev cX8_passesHour : ByteArray := prog_10_method_53_code
def yX8_passesHour : MethodName := ⟨RX8, "passesHour", "()I"⟩
abbrev cX8_passError : ByteArray := prog_10_method_54_code
def yX8_passError : MethodName := ⟨RX8, "passError", "(I)I"⟩
abbrev cX8_passes : ByteArray := prog_10_method_55_code
def yX8_passes : MethodName := ⟨RX8, "passes", "(I)I"⟩
abbrev cX8_pass : ByteArray := prog_10_method_56_code
def yX8_pass : MethodName := ⟨RX8, "pass", "(I)I"⟩
abbrev cX8_type : ByteArray := prog_10_method_57_code
def yX8_type : MethodName := ⟨RX8, "type", "(C)I"⟩
abbrev cX8_clearText : ByteArray := prog_10_method_58_code
def yX8_clearText : MethodName := ⟨RX8, "clearText", "()I"⟩
abbrev cX8_isHere : ByteArray := prog_10_method_59_code
def yX8_isHere : MethodName := ⟨RX8, "isHere", "(II)Z"⟩
abbrev cX8_passesSign : ByteArray := prog_10_method_60_code
def yX8_passesSign : MethodName := ⟨RX8, "passesSign", "(I)Z"⟩
abbrev cX8_passesNumber : ByteArray := prog_10_method_61_code
def yX8_passesNumber : MethodName := ⟨RX8, "passesNumber", "(I)Z"⟩
abbrev cX8_passesOrder : ByteArray := prog_10_method_62_code
def yX8_passesOrder : MethodName := ⟨RX8, "passesOrder", "()Z"⟩
abbrev cX8_faultOf : ByteArray := prog_10_method_63_code
def yX8_faultOf : MethodName := ⟨RX8, "faultOf", "()I"⟩
abbrev cX8_orderError : ByteArray := prog_10_method_64_code
def yX8_orderError : MethodName := ⟨RX8, "orderError", "()I"⟩
abbrev cX8_does : ByteArray := prog_10_method_65_code
def yX8_does : MethodName := ⟨RX8, "does", "()I"⟩
abbrev cX8_perform : ByteArray := prog_10_method_66_code
def yX8_perform : MethodName := ⟨RX8, "perform", "()I"⟩
abbrev cX8_real : ByteArray := prog_10_method_67_code
def yX8_real : MethodName := ⟨RX8, "real", "(II)F"⟩
abbrev cX8_healthIn : ByteArray := prog_10_method_68_code
def yX8_healthIn : MethodName := ⟨RX8, "healthIn", "(II)F"⟩
abbrev cX8_hoursTo : ByteArray := prog_10_method_69_code
def yX8_hoursTo : MethodName := ⟨RX8, "hoursTo", "(II)I"⟩
abbrev cX8_tasksAt : ByteArray := prog_10_method_70_code
def yX8_tasksAt : MethodName := ⟨RX8, "tasksAt", "(III)I"⟩
abbrev cX8_asset : ByteArray := prog_10_method_71_code
def yX8_asset : MethodName := ⟨RX8, "asset", "(II)I"⟩
abbrev cX8_tagAt : ByteArray := prog_10_method_72_code
def yX8_tagAt : MethodName := ⟨RX8, "tagAt", "(II)I"⟩
abbrev cX8_doneBy : ByteArray := prog_10_method_73_code
def yX8_doneBy : MethodName := ⟨RX8, "doneBy", "(I)I"⟩
abbrev cX8_crew : ByteArray := prog_10_method_74_code
def yX8_crew : MethodName := ⟨RX8, "crew", "(II)I"⟩
abbrev cX8_task : ByteArray := prog_10_method_75_code
def yX8_task : MethodName := ⟨RX8, "task", "(II)I"⟩
abbrev cX8_crewFor : ByteArray := prog_10_method_76_code
def yX8_crewFor : MethodName := ⟨RX8, "crewFor", "(I)I"⟩
abbrev cX8_inState : ByteArray := prog_10_method_77_code
def yX8_inState : MethodName := ⟨RX8, "inState", "(I)I"⟩
abbrev cX8_tags : ByteArray := prog_10_method_78_code
def yX8_tags : MethodName := ⟨RX8, "tags", "()I"⟩
abbrev cX8_allSlips : ByteArray := prog_10_method_79_code
def yX8_allSlips : MethodName := ⟨RX8, "allSlips", "()I"⟩
abbrev cX8_allBusy : ByteArray := prog_10_method_80_code
def yX8_allBusy : MethodName := ⟨RX8, "allBusy", "()I"⟩
abbrev cX8_count : ByteArray := prog_10_method_81_code
def yX8_count : MethodName := ⟨RX8, "count", "(I)I"⟩
def RJ6 : String := "java/lang/Integer"
def TJ6 : u_T := fun k => match k with
  | _ => ("", "", "", false)
def tyJ6 : Nat → FieldType := fun k => match k with
  | _ => .int
abbrev wsJ60 : List Cond := u_ws RJ6 TJ6 0
theorem nmJ6 : ∀ a, a < 0 → ∀ b, b < 0 → a ≠ b → (TJ6 a).2.1 ≠ (TJ6 b).2.1 := by decide +kernel
theorem tyJ6_ok : ∀ k, k < 0 → parseFieldDescriptor (TJ6 k).2.2.1 = some (tyJ6 k) := by decide +kernel
abbrev cJ6_bitCount_0f7a4 : ByteArray := prog_11_method_49_code
def yJ6_bitCount_0f7a4 : MethodName := ⟨RJ6, "bitCount", "(I)I"⟩
def RL : String := "TagWindowsLaw"
abbrev cL_law : ByteArray := code
def yL_law : MethodName := ⟨RL, "law", "([I)Z"⟩
abbrev vwCl : List vw_C := [(RX0, TX0, 6), (RX1, TX1, 2), (RX2, TX2, 3), (RX3, TX3, 3), (RX4, TX4, 5), (RX5, TX5, 8), (RX6, TX6, 12), (RX7, TX7, 6), (RX8, TX8, 15)]
end
section
theorem dX0_init_0 : decode cX0_init 0 = .ok (.aload_n 0, 1) := by decide +kernel
theorem dX0_init_1 : decode cX0_init 1 = .ok (.invokespecial 3, 3) := by decide +kernel
theorem dX0_init_4 : decode cX0_init 4 = .ok (.aload_n 0, 1) := by decide +kernel
theorem dX0_init_5 : decode cX0_init 5 = .ok (.iconst 0, 1) := by decide +kernel
theorem dX0_init_6 : decode cX0_init 6 = .ok (.putfield 9, 3) := by decide +kernel
theorem dX0_init_9 : decode cX0_init 9 = .ok (.aload_n 0, 1) := by decide +kernel
theorem dX0_init_10 : decode cX0_init 10 = .ok (.fconst 0, 1) := by decide +kernel
theorem dX0_init_11 : decode cX0_init 11 = .ok (.putfield 15, 3) := by decide +kernel
theorem dX0_init_14 : decode cX0_init 14 = .ok (.aload_n 0, 1) := by decide +kernel
theorem dX0_init_15 : decode cX0_init 15 = .ok (.fconst 1, 1) := by decide +kernel
theorem dX0_init_16 : decode cX0_init 16 = .ok (.putfield 19, 3) := by decide +kernel
theorem dX0_init_19 : decode cX0_init 19 = .ok (.aload_n 0, 1) := by decide +kernel
theorem dX0_init_20 : decode cX0_init 20 = .ok (.fconst 0, 1) := by decide +kernel
theorem dX0_init_21 : decode cX0_init 21 = .ok (.putfield 22, 3) := by decide +kernel
theorem dX0_init_24 : decode cX0_init 24 = .ok (.aload_n 0, 1) := by decide +kernel
theorem dX0_init_25 : decode cX0_init 25 = .ok (.iconst 0, 1) := by decide +kernel
theorem dX0_init_26 : decode cX0_init 26 = .ok (.putfield 25, 3) := by decide +kernel
theorem dX0_init_29 : decode cX0_init 29 = .ok (.aload_n 0, 1) := by decide +kernel
theorem dX0_init_30 : decode cX0_init 30 = .ok (.iconst 0, 1) := by decide +kernel
theorem dX0_init_31 : decode cX0_init 31 = .ok (.putfield 29, 3) := by decide +kernel
theorem dX0_init_34 : decode cX0_init 34 = .ok (.return_, 1) := by decide +kernel
theorem dX0_setUp_0 : decode cX0_setUp 0 = .ok (.aload_n 0, 1) := by decide +kernel
theorem dX0_setUp_1 : decode cX0_setUp 1 = .ok (.iload_n 1, 1) := by decide +kernel
theorem dX0_setUp_2 : decode cX0_setUp 2 = .ok (.putfield 9, 3) := by decide +kernel
theorem dX0_setUp_5 : decode cX0_setUp 5 = .ok (.aload_n 0, 1) := by decide +kernel
theorem dX0_setUp_6 : decode cX0_setUp 6 = .ok (.iload_n 2, 1) := by decide +kernel
theorem dX0_setUp_7 : decode cX0_setUp 7 = .ok (.i2f, 1) := by decide +kernel
theorem dX0_setUp_8 : decode cX0_setUp 8 = .ok (.ldc 32, 2) := by decide +kernel
theorem dX0_setUp_10 : decode cX0_setUp 10 = .ok (.fdiv, 1) := by decide +kernel
theorem dX0_setUp_11 : decode cX0_setUp 11 = .ok (.putfield 15, 3) := by decide +kernel
theorem dX0_setUp_14 : decode cX0_setUp 14 = .ok (.aload_n 0, 1) := by decide +kernel
theorem dX0_setUp_15 : decode cX0_setUp 15 = .ok (.fconst 1, 1) := by decide +kernel
theorem dX0_setUp_16 : decode cX0_setUp 16 = .ok (.putfield 19, 3) := by decide +kernel
theorem dX0_setUp_19 : decode cX0_setUp 19 = .ok (.aload_n 0, 1) := by decide +kernel
theorem dX0_setUp_20 : decode cX0_setUp 20 = .ok (.fconst 0, 1) := by decide +kernel
theorem dX0_setUp_21 : decode cX0_setUp 21 = .ok (.putfield 22, 3) := by decide +kernel
theorem dX0_setUp_24 : decode cX0_setUp 24 = .ok (.aload_n 0, 1) := by decide +kernel
theorem dX0_setUp_25 : decode cX0_setUp 25 = .ok (.iconst 0, 1) := by decide +kernel
theorem dX0_setUp_26 : decode cX0_setUp 26 = .ok (.putfield 25, 3) := by decide +kernel
theorem dX0_setUp_29 : decode cX0_setUp 29 = .ok (.aload_n 0, 1) := by decide +kernel
theorem dX0_setUp_30 : decode cX0_setUp 30 = .ok (.iconst 0, 1) := by decide +kernel
theorem dX0_setUp_31 : decode cX0_setUp 31 = .ok (.putfield 29, 3) := by decide +kernel
theorem dX0_setUp_34 : decode cX0_setUp 34 = .ok (.return_, 1) := by decide +kernel
theorem dX0_copyFrom_0 : decode cX0_copyFrom 0 = .ok (.aload_n 0, 1) := by decide +kernel
theorem dX0_copyFrom_1 : decode cX0_copyFrom 1 = .ok (.aload_n 1, 1) := by decide +kernel
theorem dX0_copyFrom_2 : decode cX0_copyFrom 2 = .ok (.getfield 9, 3) := by decide +kernel
theorem dX0_copyFrom_5 : decode cX0_copyFrom 5 = .ok (.putfield 9, 3) := by decide +kernel
theorem dX0_copyFrom_8 : decode cX0_copyFrom 8 = .ok (.aload_n 0, 1) := by decide +kernel
theorem dX0_copyFrom_9 : decode cX0_copyFrom 9 = .ok (.aload_n 1, 1) := by decide +kernel
theorem dX0_copyFrom_10 : decode cX0_copyFrom 10 = .ok (.getfield 15, 3) := by decide +kernel
theorem dX0_copyFrom_13 : decode cX0_copyFrom 13 = .ok (.putfield 15, 3) := by decide +kernel
theorem dX0_copyFrom_16 : decode cX0_copyFrom 16 = .ok (.aload_n 0, 1) := by decide +kernel
theorem dX0_copyFrom_17 : decode cX0_copyFrom 17 = .ok (.aload_n 1, 1) := by decide +kernel
theorem dX0_copyFrom_18 : decode cX0_copyFrom 18 = .ok (.getfield 19, 3) := by decide +kernel
theorem dX0_copyFrom_21 : decode cX0_copyFrom 21 = .ok (.putfield 19, 3) := by decide +kernel
theorem dX0_copyFrom_24 : decode cX0_copyFrom 24 = .ok (.aload_n 0, 1) := by decide +kernel
theorem dX0_copyFrom_25 : decode cX0_copyFrom 25 = .ok (.aload_n 1, 1) := by decide +kernel
theorem dX0_copyFrom_26 : decode cX0_copyFrom 26 = .ok (.getfield 22, 3) := by decide +kernel
theorem dX0_copyFrom_29 : decode cX0_copyFrom 29 = .ok (.putfield 22, 3) := by decide +kernel
theorem dX0_copyFrom_32 : decode cX0_copyFrom 32 = .ok (.aload_n 0, 1) := by decide +kernel
theorem dX0_copyFrom_33 : decode cX0_copyFrom 33 = .ok (.aload_n 1, 1) := by decide +kernel
theorem dX0_copyFrom_34 : decode cX0_copyFrom 34 = .ok (.getfield 25, 3) := by decide +kernel
theorem dX0_copyFrom_37 : decode cX0_copyFrom 37 = .ok (.putfield 25, 3) := by decide +kernel
theorem dX0_copyFrom_40 : decode cX0_copyFrom 40 = .ok (.aload_n 0, 1) := by decide +kernel
theorem dX0_copyFrom_41 : decode cX0_copyFrom 41 = .ok (.aload_n 1, 1) := by decide +kernel
theorem dX0_copyFrom_42 : decode cX0_copyFrom 42 = .ok (.getfield 29, 3) := by decide +kernel
theorem dX0_copyFrom_45 : decode cX0_copyFrom 45 = .ok (.putfield 29, 3) := by decide +kernel
theorem dX0_copyFrom_48 : decode cX0_copyFrom 48 = .ok (.return_, 1) := by decide +kernel
theorem dX0_isLinkedTo_0 : decode cX0_isLinkedTo 0 = .ok (.aload_n 0, 1) := by decide +kernel
theorem dX0_isLinkedTo_1 : decode cX0_isLinkedTo 1 = .ok (.getfield 29, 3) := by decide +kernel
theorem dX0_isLinkedTo_4 : decode cX0_isLinkedTo 4 = .ok (.iload_n 1, 1) := by decide +kernel
theorem dX0_isLinkedTo_5 : decode cX0_isLinkedTo 5 = .ok (.ishr, 1) := by decide +kernel
theorem dX0_isLinkedTo_6 : decode cX0_isLinkedTo 6 = .ok (.iconst 1, 1) := by decide +kernel
theorem dX0_isLinkedTo_7 : decode cX0_isLinkedTo 7 = .ok (.iand, 1) := by decide +kernel
theorem dX0_isLinkedTo_8 : decode cX0_isLinkedTo 8 = .ok (.iconst 1, 1) := by decide +kernel
theorem dX0_isLinkedTo_9 : decode cX0_isLinkedTo 9 = .ok (.if_icmp .ne 7, 3) := by decide +kernel
theorem dX0_isLinkedTo_12 : decode cX0_isLinkedTo 12 = .ok (.iconst 1, 1) := by decide +kernel
theorem dX0_isLinkedTo_13 : decode cX0_isLinkedTo 13 = .ok (.goto 4, 3) := by decide +kernel
theorem dX0_isLinkedTo_16 : decode cX0_isLinkedTo 16 = .ok (.iconst 0, 1) := by decide +kernel
theorem dX0_isLinkedTo_17 : decode cX0_isLinkedTo 17 = .ok (.ireturn, 1) := by decide +kernel
theorem dX0_runForAnHour_0 : decode cX0_runForAnHour 0 = .ok (.aload_n 0, 1) := by decide +kernel
theorem dX0_runForAnHour_1 : decode cX0_runForAnHour 1 = .ok (.aload_n 0, 1) := by decide +kernel
theorem dX0_runForAnHour_2 : decode cX0_runForAnHour 2 = .ok (.getfield 22, 3) := by decide +kernel
theorem dX0_runForAnHour_5 : decode cX0_runForAnHour 5 = .ok (.aload_n 0, 1) := by decide +kernel
theorem dX0_runForAnHour_6 : decode cX0_runForAnHour 6 = .ok (.getfield 9, 3) := by decide +kernel
theorem dX0_runForAnHour_9 : decode cX0_runForAnHour 9 = .ok (.i2f, 1) := by decide +kernel
theorem dX0_runForAnHour_10 : decode cX0_runForAnHour 10 = .ok (.aload_n 0, 1) := by decide +kernel
theorem dX0_runForAnHour_11 : decode cX0_runForAnHour 11 = .ok (.getfield 19, 3) := by decide +kernel
theorem dX0_runForAnHour_14 : decode cX0_runForAnHour 14 = .ok (.fmul, 1) := by decide +kernel
theorem dX0_runForAnHour_15 : decode cX0_runForAnHour 15 = .ok (.fadd, 1) := by decide +kernel
theorem dX0_runForAnHour_16 : decode cX0_runForAnHour 16 = .ok (.putfield 22, 3) := by decide +kernel
theorem dX0_runForAnHour_19 : decode cX0_runForAnHour 19 = .ok (.aload_n 0, 1) := by decide +kernel
theorem dX0_runForAnHour_20 : decode cX0_runForAnHour 20 = .ok (.aload_n 0, 1) := by decide +kernel
theorem dX0_runForAnHour_21 : decode cX0_runForAnHour 21 = .ok (.aload_n 0, 1) := by decide +kernel
theorem dX0_runForAnHour_22 : decode cX0_runForAnHour 22 = .ok (.getfield 19, 3) := by decide +kernel
theorem dX0_runForAnHour_25 : decode cX0_runForAnHour 25 = .ok (.invokevirtual 33, 3) := by decide +kernel
theorem dX0_runForAnHour_28 : decode cX0_runForAnHour 28 = .ok (.putfield 19, 3) := by decide +kernel
theorem dX0_runForAnHour_31 : decode cX0_runForAnHour 31 = .ok (.return_, 1) := by decide +kernel
theorem dX0_mend_0 : decode cX0_mend 0 = .ok (.aload_n 0, 1) := by decide +kernel
theorem dX0_mend_1 : decode cX0_mend 1 = .ok (.aload_n 0, 1) := by decide +kernel
theorem dX0_mend_2 : decode cX0_mend 2 = .ok (.getfield 19, 3) := by decide +kernel
theorem dX0_mend_5 : decode cX0_mend 5 = .ok (.fconst 1, 1) := by decide +kernel
theorem dX0_mend_6 : decode cX0_mend 6 = .ok (.aload_n 0, 1) := by decide +kernel
theorem dX0_mend_7 : decode cX0_mend 7 = .ok (.getfield 19, 3) := by decide +kernel
theorem dX0_mend_10 : decode cX0_mend 10 = .ok (.fsub, 1) := by decide +kernel
theorem dX0_mend_11 : decode cX0_mend 11 = .ok (.ldc 37, 2) := by decide +kernel
theorem dX0_mend_13 : decode cX0_mend 13 = .ok (.fmul, 1) := by decide +kernel
theorem dX0_mend_14 : decode cX0_mend 14 = .ok (.fadd, 1) := by decide +kernel
theorem dX0_mend_15 : decode cX0_mend 15 = .ok (.putfield 19, 3) := by decide +kernel
theorem dX0_mend_18 : decode cX0_mend 18 = .ok (.return_, 1) := by decide +kernel
theorem dX0_afterAnHour_0 : decode cX0_afterAnHour 0 = .ok (.fload_n 1, 1) := by decide +kernel
theorem dX0_afterAnHour_1 : decode cX0_afterAnHour 1 = .ok (.fload_n 1, 1) := by decide +kernel
theorem dX0_afterAnHour_2 : decode cX0_afterAnHour 2 = .ok (.aload_n 0, 1) := by decide +kernel
theorem dX0_afterAnHour_3 : decode cX0_afterAnHour 3 = .ok (.getfield 15, 3) := by decide +kernel
theorem dX0_afterAnHour_6 : decode cX0_afterAnHour 6 = .ok (.fmul, 1) := by decide +kernel
theorem dX0_afterAnHour_7 : decode cX0_afterAnHour 7 = .ok (.fsub, 1) := by decide +kernel
theorem dX0_afterAnHour_8 : decode cX0_afterAnHour 8 = .ok (.fstore_n 2, 1) := by decide +kernel
theorem dX0_afterAnHour_9 : decode cX0_afterAnHour 9 = .ok (.fload_n 2, 1) := by decide +kernel
theorem dX0_afterAnHour_10 : decode cX0_afterAnHour 10 = .ok (.ldc 38, 2) := by decide +kernel
theorem dX0_afterAnHour_12 : decode cX0_afterAnHour 12 = .ok (.fcmp .g, 1) := by decide +kernel
theorem dX0_afterAnHour_13 : decode cX0_afterAnHour 13 = .ok (.ifCond .ge 8, 3) := by decide +kernel
theorem dX0_afterAnHour_16 : decode cX0_afterAnHour 16 = .ok (.ldc 38, 2) := by decide +kernel
theorem dX0_afterAnHour_18 : decode cX0_afterAnHour 18 = .ok (.goto 4, 3) := by decide +kernel
theorem dX0_afterAnHour_21 : decode cX0_afterAnHour 21 = .ok (.fload_n 2, 1) := by decide +kernel
theorem dX0_afterAnHour_22 : decode cX0_afterAnHour 22 = .ok (.freturn, 1) := by decide +kernel
theorem dX0_healthAfter_0 : decode cX0_healthAfter 0 = .ok (.aload_n 0, 1) := by decide +kernel
theorem dX0_healthAfter_1 : decode cX0_healthAfter 1 = .ok (.getfield 19, 3) := by decide +kernel
theorem dX0_healthAfter_4 : decode cX0_healthAfter 4 = .ok (.fstore_n 2, 1) := by decide +kernel
theorem dX0_healthAfter_5 : decode cX0_healthAfter 5 = .ok (.iconst 0, 1) := by decide +kernel
theorem dX0_healthAfter_6 : decode cX0_healthAfter 6 = .ok (.istore_n 3, 1) := by decide +kernel
theorem dX0_healthAfter_7 : decode cX0_healthAfter 7 = .ok (.iload_n 3, 1) := by decide +kernel
theorem dX0_healthAfter_8 : decode cX0_healthAfter 8 = .ok (.iload_n 1, 1) := by decide +kernel
theorem dX0_healthAfter_9 : decode cX0_healthAfter 9 = .ok (.if_icmp .ge 15, 3) := by decide +kernel
theorem dX0_healthAfter_12 : decode cX0_healthAfter 12 = .ok (.aload_n 0, 1) := by decide +kernel
theorem dX0_healthAfter_13 : decode cX0_healthAfter 13 = .ok (.fload_n 2, 1) := by decide +kernel
theorem dX0_healthAfter_14 : decode cX0_healthAfter 14 = .ok (.invokevirtual 33, 3) := by decide +kernel
theorem dX0_healthAfter_17 : decode cX0_healthAfter 17 = .ok (.fstore_n 2, 1) := by decide +kernel
theorem dX0_healthAfter_18 : decode cX0_healthAfter 18 = .ok (.iinc 3 1, 3) := by decide +kernel
theorem dX0_healthAfter_21 : decode cX0_healthAfter 21 = .ok (.goto (-14), 3) := by decide +kernel
theorem dX0_healthAfter_24 : decode cX0_healthAfter 24 = .ok (.fload_n 2, 1) := by decide +kernel
theorem dX0_healthAfter_25 : decode cX0_healthAfter 25 = .ok (.freturn, 1) := by decide +kernel
theorem dX0_hoursUntilBelow_0 : decode cX0_hoursUntilBelow 0 = .ok (.aload_n 0, 1) := by decide +kernel
theorem dX0_hoursUntilBelow_1 : decode cX0_hoursUntilBelow 1 = .ok (.getfield 19, 3) := by decide +kernel
theorem dX0_hoursUntilBelow_4 : decode cX0_hoursUntilBelow 4 = .ok (.fstore_n 2, 1) := by decide +kernel
theorem dX0_hoursUntilBelow_5 : decode cX0_hoursUntilBelow 5 = .ok (.iconst 0, 1) := by decide +kernel
theorem dX0_hoursUntilBelow_6 : decode cX0_hoursUntilBelow 6 = .ok (.istore_n 3, 1) := by decide +kernel
theorem dX0_hoursUntilBelow_7 : decode cX0_hoursUntilBelow 7 = .ok (.iload_n 3, 1) := by decide +kernel
theorem dX0_hoursUntilBelow_8 : decode cX0_hoursUntilBelow 8 = .ok (.sipush 200, 3) := by decide +kernel
theorem dX0_hoursUntilBelow_11 : decode cX0_hoursUntilBelow 11 = .ok (.if_icmp .gt 23, 3) := by decide +kernel
theorem dX0_hoursUntilBelow_14 : decode cX0_hoursUntilBelow 14 = .ok (.fload_n 2, 1) := by decide +kernel
theorem dX0_hoursUntilBelow_15 : decode cX0_hoursUntilBelow 15 = .ok (.fload_n 1, 1) := by decide +kernel
theorem dX0_hoursUntilBelow_16 : decode cX0_hoursUntilBelow 16 = .ok (.fcmp .g, 1) := by decide +kernel
theorem dX0_hoursUntilBelow_17 : decode cX0_hoursUntilBelow 17 = .ok (.ifCond .ge 5, 3) := by decide +kernel
theorem dX0_hoursUntilBelow_20 : decode cX0_hoursUntilBelow 20 = .ok (.iload_n 3, 1) := by decide +kernel
theorem dX0_hoursUntilBelow_21 : decode cX0_hoursUntilBelow 21 = .ok (.ireturn, 1) := by decide +kernel
theorem dX0_hoursUntilBelow_22 : decode cX0_hoursUntilBelow 22 = .ok (.aload_n 0, 1) := by decide +kernel
theorem dX0_hoursUntilBelow_23 : decode cX0_hoursUntilBelow 23 = .ok (.fload_n 2, 1) := by decide +kernel
theorem dX0_hoursUntilBelow_24 : decode cX0_hoursUntilBelow 24 = .ok (.invokevirtual 33, 3) := by decide +kernel
theorem dX0_hoursUntilBelow_27 : decode cX0_hoursUntilBelow 27 = .ok (.fstore_n 2, 1) := by decide +kernel
theorem dX0_hoursUntilBelow_28 : decode cX0_hoursUntilBelow 28 = .ok (.iinc 3 1, 3) := by decide +kernel
theorem dX0_hoursUntilBelow_31 : decode cX0_hoursUntilBelow 31 = .ok (.goto (-24), 3) := by decide +kernel
theorem dX0_hoursUntilBelow_34 : decode cX0_hoursUntilBelow 34 = .ok (.bipush (-5), 2) := by decide +kernel
theorem dX0_hoursUntilBelow_36 : decode cX0_hoursUntilBelow 36 = .ok (.ireturn, 1) := by decide +kernel
theorem dX1_init_0 : decode cX1_init 0 = .ok (.aload_n 0, 1) := by decide +kernel
theorem dX1_init_1 : decode cX1_init 1 = .ok (.invokespecial 1, 3) := by decide +kernel
theorem dX1_init_4 : decode cX1_init 4 = .ok (.aload_n 0, 1) := by decide +kernel
theorem dX1_init_5 : decode cX1_init 5 = .ok (.iconst 0, 1) := by decide +kernel
theorem dX1_init_6 : decode cX1_init 6 = .ok (.putfield 7, 3) := by decide +kernel
theorem dX1_init_9 : decode cX1_init 9 = .ok (.aload_n 0, 1) := by decide +kernel
theorem dX1_init_10 : decode cX1_init 10 = .ok (.iconst 0, 1) := by decide +kernel
theorem dX1_init_11 : decode cX1_init 11 = .ok (.putfield 13, 3) := by decide +kernel
theorem dX1_init_14 : decode cX1_init 14 = .ok (.return_, 1) := by decide +kernel
theorem dX1_setUp_0 : decode cX1_setUp 0 = .ok (.aload_n 0, 1) := by decide +kernel
theorem dX1_setUp_1 : decode cX1_setUp 1 = .ok (.iload_n 1, 1) := by decide +kernel
theorem dX1_setUp_2 : decode cX1_setUp 2 = .ok (.putfield 7, 3) := by decide +kernel
theorem dX1_setUp_5 : decode cX1_setUp 5 = .ok (.aload_n 0, 1) := by decide +kernel
theorem dX1_setUp_6 : decode cX1_setUp 6 = .ok (.iload_n 2, 1) := by decide +kernel
theorem dX1_setUp_7 : decode cX1_setUp 7 = .ok (.putfield 13, 3) := by decide +kernel
theorem dX1_setUp_10 : decode cX1_setUp 10 = .ok (.return_, 1) := by decide +kernel
theorem dX1_copyFrom_0 : decode cX1_copyFrom 0 = .ok (.aload_n 0, 1) := by decide +kernel
theorem dX1_copyFrom_1 : decode cX1_copyFrom 1 = .ok (.aload_n 1, 1) := by decide +kernel
theorem dX1_copyFrom_2 : decode cX1_copyFrom 2 = .ok (.getfield 7, 3) := by decide +kernel
theorem dX1_copyFrom_5 : decode cX1_copyFrom 5 = .ok (.putfield 7, 3) := by decide +kernel
theorem dX1_copyFrom_8 : decode cX1_copyFrom 8 = .ok (.aload_n 0, 1) := by decide +kernel
theorem dX1_copyFrom_9 : decode cX1_copyFrom 9 = .ok (.aload_n 1, 1) := by decide +kernel
theorem dX1_copyFrom_10 : decode cX1_copyFrom 10 = .ok (.getfield 13, 3) := by decide +kernel
theorem dX1_copyFrom_13 : decode cX1_copyFrom 13 = .ok (.putfield 13, 3) := by decide +kernel
theorem dX1_copyFrom_16 : decode cX1_copyFrom 16 = .ok (.return_, 1) := by decide +kernel
theorem dX1_has_0 : decode cX1_has 0 = .ok (.aload_n 0, 1) := by decide +kernel
theorem dX1_has_1 : decode cX1_has 1 = .ok (.getfield 13, 3) := by decide +kernel
theorem dX1_has_4 : decode cX1_has 4 = .ok (.iload_n 1, 1) := by decide +kernel
theorem dX1_has_5 : decode cX1_has 5 = .ok (.ishr, 1) := by decide +kernel
theorem dX1_has_6 : decode cX1_has 6 = .ok (.iconst 1, 1) := by decide +kernel
theorem dX1_has_7 : decode cX1_has 7 = .ok (.iand, 1) := by decide +kernel
theorem dX1_has_8 : decode cX1_has 8 = .ok (.iconst 1, 1) := by decide +kernel
theorem dX1_has_9 : decode cX1_has 9 = .ok (.if_icmp .ne 7, 3) := by decide +kernel
theorem dX1_has_12 : decode cX1_has 12 = .ok (.iconst 1, 1) := by decide +kernel
theorem dX1_has_13 : decode cX1_has 13 = .ok (.goto 4, 3) := by decide +kernel
theorem dX1_has_16 : decode cX1_has 16 = .ok (.iconst 0, 1) := by decide +kernel
theorem dX1_has_17 : decode cX1_has 17 = .ok (.ireturn, 1) := by decide +kernel
theorem dX2_init_0 : decode cX2_init 0 = .ok (.aload_n 0, 1) := by decide +kernel
theorem dX2_init_1 : decode cX2_init 1 = .ok (.invokespecial 3, 3) := by decide +kernel
theorem dX2_init_4 : decode cX2_init 4 = .ok (.aload_n 0, 1) := by decide +kernel
theorem dX2_init_5 : decode cX2_init 5 = .ok (.iconst 4, 1) := by decide +kernel
theorem dX2_init_6 : decode cX2_init 6 = .ok (.anewarray 9, 3) := by decide +kernel
theorem dX2_init_9 : decode cX2_init 9 = .ok (.putfield 11, 3) := by decide +kernel
theorem dX2_init_12 : decode cX2_init 12 = .ok (.aload_n 0, 1) := by decide +kernel
theorem dX2_init_13 : decode cX2_init 13 = .ok (.iconst 0, 1) := by decide +kernel
theorem dX2_init_14 : decode cX2_init 14 = .ok (.putfield 17, 3) := by decide +kernel
theorem dX2_init_17 : decode cX2_init 17 = .ok (.aload_n 0, 1) := by decide +kernel
theorem dX2_init_18 : decode cX2_init 18 = .ok (.iconst 0, 1) := by decide +kernel
theorem dX2_init_19 : decode cX2_init 19 = .ok (.putfield 21, 3) := by decide +kernel
theorem dX2_init_22 : decode cX2_init 22 = .ok (.iconst 0, 1) := by decide +kernel
theorem dX2_init_23 : decode cX2_init 23 = .ok (.istore_n 1, 1) := by decide +kernel
theorem dX2_init_24 : decode cX2_init 24 = .ok (.iload_n 1, 1) := by decide +kernel
theorem dX2_init_25 : decode cX2_init 25 = .ok (.aload_n 0, 1) := by decide +kernel
theorem dX2_init_26 : decode cX2_init 26 = .ok (.getfield 11, 3) := by decide +kernel
theorem dX2_init_29 : decode cX2_init 29 = .ok (.arraylength, 1) := by decide +kernel
theorem dX2_init_30 : decode cX2_init 30 = .ok (.if_icmp .ge 22, 3) := by decide +kernel
theorem dX2_init_33 : decode cX2_init 33 = .ok (.aload_n 0, 1) := by decide +kernel
theorem dX2_init_34 : decode cX2_init 34 = .ok (.getfield 11, 3) := by decide +kernel
theorem dX2_init_37 : decode cX2_init 37 = .ok (.iload_n 1, 1) := by decide +kernel
theorem dX2_init_38 : decode cX2_init 38 = .ok (.new 9, 3) := by decide +kernel
theorem dX2_init_41 : decode cX2_init 41 = .ok (.dup, 1) := by decide +kernel
theorem dX2_init_42 : decode cX2_init 42 = .ok (.invokespecial 24, 3) := by decide +kernel
theorem dX2_init_45 : decode cX2_init 45 = .ok (.aastore, 1) := by decide +kernel
theorem dX2_init_46 : decode cX2_init 46 = .ok (.iinc 1 1, 3) := by decide +kernel
theorem dX2_init_49 : decode cX2_init 49 = .ok (.goto (-25), 3) := by decide +kernel
theorem dX2_init_52 : decode cX2_init 52 = .ok (.return_, 1) := by decide +kernel
theorem dX2_add_0 : decode cX2_add 0 = .ok (.aload_n 0, 1) := by decide +kernel
theorem dX2_add_1 : decode cX2_add 1 = .ok (.getfield 11, 3) := by decide +kernel
theorem dX2_add_4 : decode cX2_add 4 = .ok (.aload_n 0, 1) := by decide +kernel
theorem dX2_add_5 : decode cX2_add 5 = .ok (.getfield 17, 3) := by decide +kernel
theorem dX2_add_8 : decode cX2_add 8 = .ok (.aload_n 0, 1) := by decide +kernel
theorem dX2_add_9 : decode cX2_add 9 = .ok (.getfield 21, 3) := by decide +kernel
theorem dX2_add_12 : decode cX2_add 12 = .ok (.iadd, 1) := by decide +kernel
theorem dX2_add_13 : decode cX2_add 13 = .ok (.iconst 4, 1) := by decide +kernel
theorem dX2_add_14 : decode cX2_add 14 = .ok (.irem, 1) := by decide +kernel
theorem dX2_add_15 : decode cX2_add 15 = .ok (.aaload, 1) := by decide +kernel
theorem dX2_add_16 : decode cX2_add 16 = .ok (.aload_n 1, 1) := by decide +kernel
theorem dX2_add_17 : decode cX2_add 17 = .ok (.invokevirtual 25, 3) := by decide +kernel
theorem dX2_add_20 : decode cX2_add 20 = .ok (.aload_n 0, 1) := by decide +kernel
theorem dX2_add_21 : decode cX2_add 21 = .ok (.getfield 21, 3) := by decide +kernel
theorem dX2_add_24 : decode cX2_add 24 = .ok (.iconst 4, 1) := by decide +kernel
theorem dX2_add_25 : decode cX2_add 25 = .ok (.if_icmp .ge 16, 3) := by decide +kernel
theorem dX2_add_28 : decode cX2_add 28 = .ok (.aload_n 0, 1) := by decide +kernel
theorem dX2_add_29 : decode cX2_add 29 = .ok (.dup, 1) := by decide +kernel
theorem dX2_add_30 : decode cX2_add 30 = .ok (.getfield 21, 3) := by decide +kernel
theorem dX2_add_33 : decode cX2_add 33 = .ok (.iconst 1, 1) := by decide +kernel
theorem dX2_add_34 : decode cX2_add 34 = .ok (.iadd, 1) := by decide +kernel
theorem dX2_add_35 : decode cX2_add 35 = .ok (.putfield 21, 3) := by decide +kernel
theorem dX2_add_38 : decode cX2_add 38 = .ok (.goto 15, 3) := by decide +kernel
theorem dX2_add_41 : decode cX2_add 41 = .ok (.aload_n 0, 1) := by decide +kernel
theorem dX2_add_42 : decode cX2_add 42 = .ok (.aload_n 0, 1) := by decide +kernel
theorem dX2_add_43 : decode cX2_add 43 = .ok (.getfield 17, 3) := by decide +kernel
theorem dX2_add_46 : decode cX2_add 46 = .ok (.iconst 1, 1) := by decide +kernel
theorem dX2_add_47 : decode cX2_add 47 = .ok (.iadd, 1) := by decide +kernel
theorem dX2_add_48 : decode cX2_add 48 = .ok (.iconst 4, 1) := by decide +kernel
theorem dX2_add_49 : decode cX2_add 49 = .ok (.irem, 1) := by decide +kernel
theorem dX2_add_50 : decode cX2_add 50 = .ok (.putfield 17, 3) := by decide +kernel
theorem dX2_add_53 : decode cX2_add 53 = .ok (.return_, 1) := by decide +kernel
theorem dX2_takeBack_0 : decode cX2_takeBack 0 = .ok (.aload_n 0, 1) := by decide +kernel
theorem dX2_takeBack_1 : decode cX2_takeBack 1 = .ok (.getfield 21, 3) := by decide +kernel
theorem dX2_takeBack_4 : decode cX2_takeBack 4 = .ok (.ifCond .gt 6, 3) := by decide +kernel
theorem dX2_takeBack_7 : decode cX2_takeBack 7 = .ok (.bipush (-5), 2) := by decide +kernel
theorem dX2_takeBack_9 : decode cX2_takeBack 9 = .ok (.ireturn, 1) := by decide +kernel
theorem dX2_takeBack_10 : decode cX2_takeBack 10 = .ok (.aload_n 0, 1) := by decide +kernel
theorem dX2_takeBack_11 : decode cX2_takeBack 11 = .ok (.dup, 1) := by decide +kernel
theorem dX2_takeBack_12 : decode cX2_takeBack 12 = .ok (.getfield 21, 3) := by decide +kernel
theorem dX2_takeBack_15 : decode cX2_takeBack 15 = .ok (.iconst 1, 1) := by decide +kernel
theorem dX2_takeBack_16 : decode cX2_takeBack 16 = .ok (.isub, 1) := by decide +kernel
theorem dX2_takeBack_17 : decode cX2_takeBack 17 = .ok (.putfield 21, 3) := by decide +kernel
theorem dX2_takeBack_20 : decode cX2_takeBack 20 = .ok (.aload_n 1, 1) := by decide +kernel
theorem dX2_takeBack_21 : decode cX2_takeBack 21 = .ok (.aload_n 0, 1) := by decide +kernel
theorem dX2_takeBack_22 : decode cX2_takeBack 22 = .ok (.getfield 11, 3) := by decide +kernel
theorem dX2_takeBack_25 : decode cX2_takeBack 25 = .ok (.aload_n 0, 1) := by decide +kernel
theorem dX2_takeBack_26 : decode cX2_takeBack 26 = .ok (.getfield 17, 3) := by decide +kernel
theorem dX2_takeBack_29 : decode cX2_takeBack 29 = .ok (.aload_n 0, 1) := by decide +kernel
theorem dX2_takeBack_30 : decode cX2_takeBack 30 = .ok (.getfield 21, 3) := by decide +kernel
theorem dX2_takeBack_33 : decode cX2_takeBack 33 = .ok (.iadd, 1) := by decide +kernel
theorem dX2_takeBack_34 : decode cX2_takeBack 34 = .ok (.iconst 4, 1) := by decide +kernel
theorem dX2_takeBack_35 : decode cX2_takeBack 35 = .ok (.irem, 1) := by decide +kernel
theorem dX2_takeBack_36 : decode cX2_takeBack 36 = .ok (.aaload, 1) := by decide +kernel
theorem dX2_takeBack_37 : decode cX2_takeBack 37 = .ok (.invokevirtual 25, 3) := by decide +kernel
theorem dX2_takeBack_40 : decode cX2_takeBack 40 = .ok (.aload_n 0, 1) := by decide +kernel
theorem dX2_takeBack_41 : decode cX2_takeBack 41 = .ok (.getfield 21, 3) := by decide +kernel
theorem dX2_takeBack_44 : decode cX2_takeBack 44 = .ok (.ireturn, 1) := by decide +kernel
theorem dX3_init_0 : decode cX3_init 0 = .ok (.aload_n 0, 1) := by decide +kernel
theorem dX3_init_1 : decode cX3_init 1 = .ok (.invokespecial 1, 3) := by decide +kernel
theorem dX3_init_4 : decode cX3_init 4 = .ok (.aload_n 0, 1) := by decide +kernel
theorem dX3_init_5 : decode cX3_init 5 = .ok (.bipush 112, 2) := by decide +kernel
theorem dX3_init_7 : decode cX3_init 7 = .ok (.putfield 7, 3) := by decide +kernel
theorem dX3_init_10 : decode cX3_init 10 = .ok (.aload_n 0, 1) := by decide +kernel
theorem dX3_init_11 : decode cX3_init 11 = .ok (.iconst 0, 1) := by decide +kernel
theorem dX3_init_12 : decode cX3_init 12 = .ok (.putfield 13, 3) := by decide +kernel
theorem dX3_init_15 : decode cX3_init 15 = .ok (.aload_n 0, 1) := by decide +kernel
theorem dX3_init_16 : decode cX3_init 16 = .ok (.iconst 0, 1) := by decide +kernel
theorem dX3_init_17 : decode cX3_init 17 = .ok (.putfield 17, 3) := by decide +kernel
theorem dX3_init_20 : decode cX3_init 20 = .ok (.return_, 1) := by decide +kernel
theorem dX4_init_0 : decode cX4_init 0 = .ok (.aload_n 0, 1) := by decide +kernel
theorem dX4_init_1 : decode cX4_init 1 = .ok (.invokespecial 3, 3) := by decide +kernel
theorem dX4_init_4 : decode cX4_init 4 = .ok (.aload_n 0, 1) := by decide +kernel
theorem dX4_init_5 : decode cX4_init 5 = .ok (.bipush 60, 2) := by decide +kernel
theorem dX4_init_7 : decode cX4_init 7 = .ok (.newarray .char, 2) := by decide +kernel
theorem dX4_init_9 : decode cX4_init 9 = .ok (.putfield 9, 3) := by decide +kernel
theorem dX4_init_12 : decode cX4_init 12 = .ok (.aload_n 0, 1) := by decide +kernel
theorem dX4_init_13 : decode cX4_init 13 = .ok (.iconst 0, 1) := by decide +kernel
theorem dX4_init_14 : decode cX4_init 14 = .ok (.putfield 15, 3) := by decide +kernel
theorem dX4_init_17 : decode cX4_init 17 = .ok (.aload_n 0, 1) := by decide +kernel
theorem dX4_init_18 : decode cX4_init 18 = .ok (.bipush 20, 2) := by decide +kernel
theorem dX4_init_20 : decode cX4_init 20 = .ok (.anewarray 19, 3) := by decide +kernel
theorem dX4_init_23 : decode cX4_init 23 = .ok (.putfield 21, 3) := by decide +kernel
theorem dX4_init_26 : decode cX4_init 26 = .ok (.aload_n 0, 1) := by decide +kernel
theorem dX4_init_27 : decode cX4_init 27 = .ok (.iconst 0, 1) := by decide +kernel
theorem dX4_init_28 : decode cX4_init 28 = .ok (.putfield 25, 3) := by decide +kernel
theorem dX4_init_31 : decode cX4_init 31 = .ok (.aload_n 0, 1) := by decide +kernel
theorem dX4_init_32 : decode cX4_init 32 = .ok (.iconst 0, 1) := by decide +kernel
theorem dX4_init_33 : decode cX4_init 33 = .ok (.putfield 28, 3) := by decide +kernel
theorem dX4_init_36 : decode cX4_init 36 = .ok (.iconst 0, 1) := by decide +kernel
theorem dX4_init_37 : decode cX4_init 37 = .ok (.istore_n 1, 1) := by decide +kernel
theorem dX4_init_38 : decode cX4_init 38 = .ok (.iload_n 1, 1) := by decide +kernel
theorem dX4_init_39 : decode cX4_init 39 = .ok (.aload_n 0, 1) := by decide +kernel
theorem dX4_init_40 : decode cX4_init 40 = .ok (.getfield 21, 3) := by decide +kernel
theorem dX4_init_43 : decode cX4_init 43 = .ok (.arraylength, 1) := by decide +kernel
theorem dX4_init_44 : decode cX4_init 44 = .ok (.if_icmp .ge 22, 3) := by decide +kernel
theorem dX4_init_47 : decode cX4_init 47 = .ok (.aload_n 0, 1) := by decide +kernel
theorem dX4_init_48 : decode cX4_init 48 = .ok (.getfield 21, 3) := by decide +kernel
theorem dX4_init_51 : decode cX4_init 51 = .ok (.iload_n 1, 1) := by decide +kernel
theorem dX4_init_52 : decode cX4_init 52 = .ok (.new 19, 3) := by decide +kernel
theorem dX4_init_55 : decode cX4_init 55 = .ok (.dup, 1) := by decide +kernel
theorem dX4_init_56 : decode cX4_init 56 = .ok (.invokespecial 31, 3) := by decide +kernel
theorem dX4_init_59 : decode cX4_init 59 = .ok (.aastore, 1) := by decide +kernel
theorem dX4_init_60 : decode cX4_init 60 = .ok (.iinc 1 1, 3) := by decide +kernel
theorem dX4_init_63 : decode cX4_init 63 = .ok (.goto (-25), 3) := by decide +kernel
theorem dX4_init_66 : decode cX4_init 66 = .ok (.return_, 1) := by decide +kernel
theorem dX4_append_0 : decode cX4_append 0 = .ok (.aload_n 0, 1) := by decide +kernel
theorem dX4_append_1 : decode cX4_append 1 = .ok (.getfield 15, 3) := by decide +kernel
theorem dX4_append_4 : decode cX4_append 4 = .ok (.aload_n 0, 1) := by decide +kernel
theorem dX4_append_5 : decode cX4_append 5 = .ok (.getfield 9, 3) := by decide +kernel
theorem dX4_append_8 : decode cX4_append 8 = .ok (.arraylength, 1) := by decide +kernel
theorem dX4_append_9 : decode cX4_append 9 = .ok (.if_icmp .lt 6, 3) := by decide +kernel
theorem dX4_append_12 : decode cX4_append 12 = .ok (.bipush (-3), 2) := by decide +kernel
theorem dX4_append_14 : decode cX4_append 14 = .ok (.ireturn, 1) := by decide +kernel
theorem dX4_append_15 : decode cX4_append 15 = .ok (.aload_n 0, 1) := by decide +kernel
theorem dX4_append_16 : decode cX4_append 16 = .ok (.getfield 9, 3) := by decide +kernel
theorem dX4_append_19 : decode cX4_append 19 = .ok (.aload_n 0, 1) := by decide +kernel
theorem dX4_append_20 : decode cX4_append 20 = .ok (.getfield 15, 3) := by decide +kernel
theorem dX4_append_23 : decode cX4_append 23 = .ok (.iload_n 1, 1) := by decide +kernel
theorem dX4_append_24 : decode cX4_append 24 = .ok (.castore, 1) := by decide +kernel
theorem dX4_append_25 : decode cX4_append 25 = .ok (.aload_n 0, 1) := by decide +kernel
theorem dX4_append_26 : decode cX4_append 26 = .ok (.dup, 1) := by decide +kernel
theorem dX4_append_27 : decode cX4_append 27 = .ok (.getfield 15, 3) := by decide +kernel
theorem dX4_append_30 : decode cX4_append 30 = .ok (.iconst 1, 1) := by decide +kernel
theorem dX4_append_31 : decode cX4_append 31 = .ok (.iadd, 1) := by decide +kernel
theorem dX4_append_32 : decode cX4_append 32 = .ok (.putfield 15, 3) := by decide +kernel
theorem dX4_append_35 : decode cX4_append 35 = .ok (.aload_n 0, 1) := by decide +kernel
theorem dX4_append_36 : decode cX4_append 36 = .ok (.getfield 15, 3) := by decide +kernel
theorem dX4_append_39 : decode cX4_append 39 = .ok (.ireturn, 1) := by decide +kernel
theorem dX4_clear_0 : decode cX4_clear 0 = .ok (.aload_n 0, 1) := by decide +kernel
theorem dX4_clear_1 : decode cX4_clear 1 = .ok (.getfield 15, 3) := by decide +kernel
theorem dX4_clear_4 : decode cX4_clear 4 = .ok (.istore_n 1, 1) := by decide +kernel
theorem dX4_clear_5 : decode cX4_clear 5 = .ok (.aload_n 0, 1) := by decide +kernel
theorem dX4_clear_6 : decode cX4_clear 6 = .ok (.iconst 0, 1) := by decide +kernel
theorem dX4_clear_7 : decode cX4_clear 7 = .ok (.putfield 15, 3) := by decide +kernel
theorem dX4_clear_10 : decode cX4_clear 10 = .ok (.iload_n 1, 1) := by decide +kernel
theorem dX4_clear_11 : decode cX4_clear 11 = .ok (.ireturn, 1) := by decide +kernel
theorem dX4_read_0 : decode cX4_read 0 = .ok (.aload_n 0, 1) := by decide +kernel
theorem dX4_read_1 : decode cX4_read 1 = .ok (.iconst 0, 1) := by decide +kernel
theorem dX4_read_2 : decode cX4_read 2 = .ok (.putfield 28, 3) := by decide +kernel
theorem dX4_read_5 : decode cX4_read 5 = .ok (.aload_n 0, 1) := by decide +kernel
theorem dX4_read_6 : decode cX4_read 6 = .ok (.iconst 0, 1) := by decide +kernel
theorem dX4_read_7 : decode cX4_read 7 = .ok (.putfield 25, 3) := by decide +kernel
theorem dX4_read_10 : decode cX4_read 10 = .ok (.iconst 0, 1) := by decide +kernel
theorem dX4_read_11 : decode cX4_read 11 = .ok (.istore_n 1, 1) := by decide +kernel
theorem dX4_read_12 : decode cX4_read 12 = .ok (.iload_n 1, 1) := by decide +kernel
theorem dX4_read_13 : decode cX4_read 13 = .ok (.aload_n 0, 1) := by decide +kernel
theorem dX4_read_14 : decode cX4_read 14 = .ok (.getfield 21, 3) := by decide +kernel
theorem dX4_read_17 : decode cX4_read 17 = .ok (.arraylength, 1) := by decide +kernel
theorem dX4_read_18 : decode cX4_read 18 = .ok (.if_icmp .ge 61, 3) := by decide +kernel
theorem dX4_read_21 : decode cX4_read 21 = .ok (.aload_n 0, 1) := by decide +kernel
theorem dX4_read_22 : decode cX4_read 22 = .ok (.aload_n 0, 1) := by decide +kernel
theorem dX4_read_23 : decode cX4_read 23 = .ok (.getfield 21, 3) := by decide +kernel
theorem dX4_read_26 : decode cX4_read 26 = .ok (.iload_n 1, 1) := by decide +kernel
theorem dX4_read_27 : decode cX4_read 27 = .ok (.aaload, 1) := by decide +kernel
theorem dX4_read_28 : decode cX4_read 28 = .ok (.invokevirtual 32, 3) := by decide +kernel
theorem dX4_read_31 : decode cX4_read 31 = .ok (.ifCond .ne 8, 3) := by decide +kernel
theorem dX4_read_34 : decode cX4_read 34 = .ok (.aload_n 0, 1) := by decide +kernel
theorem dX4_read_35 : decode cX4_read 35 = .ok (.getfield 28, 3) := by decide +kernel
theorem dX4_read_38 : decode cX4_read 38 = .ok (.ireturn, 1) := by decide +kernel
theorem dX4_read_39 : decode cX4_read 39 = .ok (.aload_n 0, 1) := by decide +kernel
theorem dX4_read_40 : decode cX4_read 40 = .ok (.iload_n 1, 1) := by decide +kernel
theorem dX4_read_41 : decode cX4_read 41 = .ok (.iconst 1, 1) := by decide +kernel
theorem dX4_read_42 : decode cX4_read 42 = .ok (.iadd, 1) := by decide +kernel
theorem dX4_read_43 : decode cX4_read 43 = .ok (.putfield 25, 3) := by decide +kernel
theorem dX4_read_46 : decode cX4_read 46 = .ok (.aload_n 0, 1) := by decide +kernel
theorem dX4_read_47 : decode cX4_read 47 = .ok (.getfield 28, 3) := by decide +kernel
theorem dX4_read_50 : decode cX4_read 50 = .ok (.aload_n 0, 1) := by decide +kernel
theorem dX4_read_51 : decode cX4_read 51 = .ok (.getfield 15, 3) := by decide +kernel
theorem dX4_read_54 : decode cX4_read 54 = .ok (.if_icmp .lt 5, 3) := by decide +kernel
theorem dX4_read_57 : decode cX4_read 57 = .ok (.iconst (-1), 1) := by decide +kernel
theorem dX4_read_58 : decode cX4_read 58 = .ok (.ireturn, 1) := by decide +kernel
theorem dX4_read_59 : decode cX4_read 59 = .ok (.aload_n 0, 1) := by decide +kernel
theorem dX4_read_60 : decode cX4_read 60 = .ok (.bipush 59, 2) := by decide +kernel
theorem dX4_read_62 : decode cX4_read 62 = .ok (.invokevirtual 36, 3) := by decide +kernel
theorem dX4_read_65 : decode cX4_read 65 = .ok (.ifCond .ne 8, 3) := by decide +kernel
theorem dX4_read_68 : decode cX4_read 68 = .ok (.aload_n 0, 1) := by decide +kernel
theorem dX4_read_69 : decode cX4_read 69 = .ok (.getfield 28, 3) := by decide +kernel
theorem dX4_read_72 : decode cX4_read 72 = .ok (.ireturn, 1) := by decide +kernel
theorem dX4_read_73 : decode cX4_read 73 = .ok (.iinc 1 1, 3) := by decide +kernel
theorem dX4_read_76 : decode cX4_read 76 = .ok (.goto (-64), 3) := by decide +kernel
theorem dX4_read_79 : decode cX4_read 79 = .ok (.aload_n 0, 1) := by decide +kernel
theorem dX4_read_80 : decode cX4_read 80 = .ok (.getfield 28, 3) := by decide +kernel
theorem dX4_read_83 : decode cX4_read 83 = .ok (.ireturn, 1) := by decide +kernel
theorem dX4_readOrder_0 : decode cX4_readOrder 0 = .ok (.aload_n 0, 1) := by decide +kernel
theorem dX4_readOrder_1 : decode cX4_readOrder 1 = .ok (.getfield 28, 3) := by decide +kernel
theorem dX4_readOrder_4 : decode cX4_readOrder 4 = .ok (.aload_n 0, 1) := by decide +kernel
theorem dX4_readOrder_5 : decode cX4_readOrder 5 = .ok (.getfield 15, 3) := by decide +kernel
theorem dX4_readOrder_8 : decode cX4_readOrder 8 = .ok (.if_icmp .ge 15, 3) := by decide +kernel
theorem dX4_readOrder_11 : decode cX4_readOrder 11 = .ok (.aload_n 0, 1) := by decide +kernel
theorem dX4_readOrder_12 : decode cX4_readOrder 12 = .ok (.getfield 28, 3) := by decide +kernel
theorem dX4_readOrder_15 : decode cX4_readOrder 15 = .ok (.aload_n 0, 1) := by decide +kernel
theorem dX4_readOrder_16 : decode cX4_readOrder 16 = .ok (.getfield 9, 3) := by decide +kernel
theorem dX4_readOrder_19 : decode cX4_readOrder 19 = .ok (.arraylength, 1) := by decide +kernel
theorem dX4_readOrder_20 : decode cX4_readOrder 20 = .ok (.if_icmp .lt 5, 3) := by decide +kernel
theorem dX4_readOrder_23 : decode cX4_readOrder 23 = .ok (.iconst 0, 1) := by decide +kernel
theorem dX4_readOrder_24 : decode cX4_readOrder 24 = .ok (.ireturn, 1) := by decide +kernel
theorem dX4_readOrder_25 : decode cX4_readOrder 25 = .ok (.aload_n 0, 1) := by decide +kernel
theorem dX4_readOrder_26 : decode cX4_readOrder 26 = .ok (.getfield 9, 3) := by decide +kernel
theorem dX4_readOrder_29 : decode cX4_readOrder 29 = .ok (.aload_n 0, 1) := by decide +kernel
theorem dX4_readOrder_30 : decode cX4_readOrder 30 = .ok (.getfield 28, 3) := by decide +kernel
theorem dX4_readOrder_33 : decode cX4_readOrder 33 = .ok (.caload, 1) := by decide +kernel
theorem dX4_readOrder_34 : decode cX4_readOrder 34 = .ok (.istore_n 2, 1) := by decide +kernel
theorem dX4_readOrder_35 : decode cX4_readOrder 35 = .ok (.aload_n 1, 1) := by decide +kernel
theorem dX4_readOrder_36 : decode cX4_readOrder 36 = .ok (.iload_n 2, 1) := by decide +kernel
theorem dX4_readOrder_37 : decode cX4_readOrder 37 = .ok (.putfield 40, 3) := by decide +kernel
theorem dX4_readOrder_40 : decode cX4_readOrder 40 = .ok (.iload_n 2, 1) := by decide +kernel
theorem dX4_readOrder_41 : decode cX4_readOrder 41 = .ok (.bipush 104, 2) := by decide +kernel
theorem dX4_readOrder_43 : decode cX4_readOrder 43 = .ok (.if_icmp .eq 9, 3) := by decide +kernel
theorem dX4_readOrder_46 : decode cX4_readOrder 46 = .ok (.iload_n 2, 1) := by decide +kernel
theorem dX4_readOrder_47 : decode cX4_readOrder 47 = .ok (.bipush 108, 2) := by decide +kernel
theorem dX4_readOrder_49 : decode cX4_readOrder 49 = .ok (.if_icmp .ne 44, 3) := by decide +kernel
theorem dX4_readOrder_52 : decode cX4_readOrder 52 = .ok (.aload_n 0, 1) := by decide +kernel
theorem dX4_readOrder_53 : decode cX4_readOrder 53 = .ok (.dup, 1) := by decide +kernel
theorem dX4_readOrder_54 : decode cX4_readOrder 54 = .ok (.getfield 28, 3) := by decide +kernel
theorem dX4_readOrder_57 : decode cX4_readOrder 57 = .ok (.iconst 1, 1) := by decide +kernel
theorem dX4_readOrder_58 : decode cX4_readOrder 58 = .ok (.iadd, 1) := by decide +kernel
theorem dX4_readOrder_59 : decode cX4_readOrder 59 = .ok (.putfield 28, 3) := by decide +kernel
theorem dX4_readOrder_62 : decode cX4_readOrder 62 = .ok (.aload_n 0, 1) := by decide +kernel
theorem dX4_readOrder_63 : decode cX4_readOrder 63 = .ok (.aload_n 1, 1) := by decide +kernel
theorem dX4_readOrder_64 : decode cX4_readOrder 64 = .ok (.invokevirtual 44, 3) := by decide +kernel
theorem dX4_readOrder_67 : decode cX4_readOrder 67 = .ok (.ifCond .eq 24, 3) := by decide +kernel
theorem dX4_readOrder_70 : decode cX4_readOrder 70 = .ok (.aload_n 0, 1) := by decide +kernel
theorem dX4_readOrder_71 : decode cX4_readOrder 71 = .ok (.bipush 99, 2) := by decide +kernel
theorem dX4_readOrder_73 : decode cX4_readOrder 73 = .ok (.invokevirtual 36, 3) := by decide +kernel
theorem dX4_readOrder_76 : decode cX4_readOrder 76 = .ok (.ifCond .eq 15, 3) := by decide +kernel
theorem dX4_readOrder_79 : decode cX4_readOrder 79 = .ok (.aload_n 0, 1) := by decide +kernel
theorem dX4_readOrder_80 : decode cX4_readOrder 80 = .ok (.aload_n 1, 1) := by decide +kernel
theorem dX4_readOrder_81 : decode cX4_readOrder 81 = .ok (.invokevirtual 47, 3) := by decide +kernel
theorem dX4_readOrder_84 : decode cX4_readOrder 84 = .ok (.ifCond .eq 7, 3) := by decide +kernel
theorem dX4_readOrder_87 : decode cX4_readOrder 87 = .ok (.iconst 1, 1) := by decide +kernel
theorem dX4_readOrder_88 : decode cX4_readOrder 88 = .ok (.goto 4, 3) := by decide +kernel
theorem dX4_readOrder_91 : decode cX4_readOrder 91 = .ok (.iconst 0, 1) := by decide +kernel
theorem dX4_readOrder_92 : decode cX4_readOrder 92 = .ok (.ireturn, 1) := by decide +kernel
theorem dX4_readOrder_93 : decode cX4_readOrder 93 = .ok (.iload_n 2, 1) := by decide +kernel
theorem dX4_readOrder_94 : decode cX4_readOrder 94 = .ok (.bipush 98, 2) := by decide +kernel
theorem dX4_readOrder_96 : decode cX4_readOrder 96 = .ok (.if_icmp .eq 9, 3) := by decide +kernel
theorem dX4_readOrder_99 : decode cX4_readOrder 99 = .ok (.iload_n 2, 1) := by decide +kernel
theorem dX4_readOrder_100 : decode cX4_readOrder 100 = .ok (.bipush 112, 2) := by decide +kernel
theorem dX4_readOrder_102 : decode cX4_readOrder 102 = .ok (.if_icmp .ne 19, 3) := by decide +kernel
theorem dX4_readOrder_105 : decode cX4_readOrder 105 = .ok (.aload_n 0, 1) := by decide +kernel
theorem dX4_readOrder_106 : decode cX4_readOrder 106 = .ok (.dup, 1) := by decide +kernel
theorem dX4_readOrder_107 : decode cX4_readOrder 107 = .ok (.getfield 28, 3) := by decide +kernel
theorem dX4_readOrder_110 : decode cX4_readOrder 110 = .ok (.iconst 1, 1) := by decide +kernel
theorem dX4_readOrder_111 : decode cX4_readOrder 111 = .ok (.iadd, 1) := by decide +kernel
theorem dX4_readOrder_112 : decode cX4_readOrder 112 = .ok (.putfield 28, 3) := by decide +kernel
theorem dX4_readOrder_115 : decode cX4_readOrder 115 = .ok (.aload_n 0, 1) := by decide +kernel
theorem dX4_readOrder_116 : decode cX4_readOrder 116 = .ok (.aload_n 1, 1) := by decide +kernel
theorem dX4_readOrder_117 : decode cX4_readOrder 117 = .ok (.invokevirtual 44, 3) := by decide +kernel
theorem dX4_readOrder_120 : decode cX4_readOrder 120 = .ok (.ireturn, 1) := by decide +kernel
theorem dX4_readOrder_121 : decode cX4_readOrder 121 = .ok (.iload_n 2, 1) := by decide +kernel
theorem dX4_readOrder_122 : decode cX4_readOrder 122 = .ok (.bipush 114, 2) := by decide +kernel
theorem dX4_readOrder_124 : decode cX4_readOrder 124 = .ok (.if_icmp .eq 9, 3) := by decide +kernel
theorem dX4_readOrder_127 : decode cX4_readOrder 127 = .ok (.iload_n 2, 1) := by decide +kernel
theorem dX4_readOrder_128 : decode cX4_readOrder 128 = .ok (.bipush 115, 2) := by decide +kernel
theorem dX4_readOrder_130 : decode cX4_readOrder 130 = .ok (.if_icmp .ne 19, 3) := by decide +kernel
theorem dX4_readOrder_133 : decode cX4_readOrder 133 = .ok (.aload_n 0, 1) := by decide +kernel
theorem dX4_readOrder_134 : decode cX4_readOrder 134 = .ok (.dup, 1) := by decide +kernel
theorem dX4_readOrder_135 : decode cX4_readOrder 135 = .ok (.getfield 28, 3) := by decide +kernel
theorem dX4_readOrder_138 : decode cX4_readOrder 138 = .ok (.iconst 1, 1) := by decide +kernel
theorem dX4_readOrder_139 : decode cX4_readOrder 139 = .ok (.iadd, 1) := by decide +kernel
theorem dX4_readOrder_140 : decode cX4_readOrder 140 = .ok (.putfield 28, 3) := by decide +kernel
theorem dX4_readOrder_143 : decode cX4_readOrder 143 = .ok (.aload_n 0, 1) := by decide +kernel
theorem dX4_readOrder_144 : decode cX4_readOrder 144 = .ok (.aload_n 1, 1) := by decide +kernel
theorem dX4_readOrder_145 : decode cX4_readOrder 145 = .ok (.invokevirtual 50, 3) := by decide +kernel
theorem dX4_readOrder_148 : decode cX4_readOrder 148 = .ok (.ireturn, 1) := by decide +kernel
theorem dX4_readOrder_149 : decode cX4_readOrder 149 = .ok (.iconst 0, 1) := by decide +kernel
theorem dX4_readOrder_150 : decode cX4_readOrder 150 = .ok (.ireturn, 1) := by decide +kernel
theorem dX4_readNumber_0 : decode cX4_readNumber 0 = .ok (.aload_n 0, 1) := by decide +kernel
theorem dX4_readNumber_1 : decode cX4_readNumber 1 = .ok (.invokevirtual 53, 3) := by decide +kernel
theorem dX4_readNumber_4 : decode cX4_readNumber 4 = .ok (.ifCond .ne 5, 3) := by decide +kernel
theorem dX4_readNumber_7 : decode cX4_readNumber 7 = .ok (.iconst 0, 1) := by decide +kernel
theorem dX4_readNumber_8 : decode cX4_readNumber 8 = .ok (.ireturn, 1) := by decide +kernel
theorem dX4_readNumber_9 : decode cX4_readNumber 9 = .ok (.aload_n 1, 1) := by decide +kernel
theorem dX4_readNumber_10 : decode cX4_readNumber 10 = .ok (.aload_n 0, 1) := by decide +kernel
theorem dX4_readNumber_11 : decode cX4_readNumber 11 = .ok (.invokevirtual 57, 3) := by decide +kernel
theorem dX4_readNumber_14 : decode cX4_readNumber 14 = .ok (.putfield 61, 3) := by decide +kernel
theorem dX4_readNumber_17 : decode cX4_readNumber 17 = .ok (.aload_n 1, 1) := by decide +kernel
theorem dX4_readNumber_18 : decode cX4_readNumber 18 = .ok (.getfield 61, 3) := by decide +kernel
theorem dX4_readNumber_21 : decode cX4_readNumber 21 = .ok (.ifCond .eq 26, 3) := by decide +kernel
theorem dX4_readNumber_24 : decode cX4_readNumber 24 = .ok (.aload_n 0, 1) := by decide +kernel
theorem dX4_readNumber_25 : decode cX4_readNumber 25 = .ok (.invokevirtual 53, 3) := by decide +kernel
theorem dX4_readNumber_28 : decode cX4_readNumber 28 = .ok (.ifCond .eq 19, 3) := by decide +kernel
theorem dX4_readNumber_31 : decode cX4_readNumber 31 = .ok (.aload_n 1, 1) := by decide +kernel
theorem dX4_readNumber_32 : decode cX4_readNumber 32 = .ok (.bipush 10, 2) := by decide +kernel
theorem dX4_readNumber_34 : decode cX4_readNumber 34 = .ok (.aload_n 1, 1) := by decide +kernel
theorem dX4_readNumber_35 : decode cX4_readNumber 35 = .ok (.getfield 61, 3) := by decide +kernel
theorem dX4_readNumber_38 : decode cX4_readNumber 38 = .ok (.imul, 1) := by decide +kernel
theorem dX4_readNumber_39 : decode cX4_readNumber 39 = .ok (.aload_n 0, 1) := by decide +kernel
theorem dX4_readNumber_40 : decode cX4_readNumber 40 = .ok (.invokevirtual 57, 3) := by decide +kernel
theorem dX4_readNumber_43 : decode cX4_readNumber 43 = .ok (.iadd, 1) := by decide +kernel
theorem dX4_readNumber_44 : decode cX4_readNumber 44 = .ok (.putfield 61, 3) := by decide +kernel
theorem dX4_readNumber_47 : decode cX4_readNumber 47 = .ok (.iconst 1, 1) := by decide +kernel
theorem dX4_readNumber_48 : decode cX4_readNumber 48 = .ok (.ireturn, 1) := by decide +kernel
theorem dX4_readAsset_0 : decode cX4_readAsset 0 = .ok (.aload_n 0, 1) := by decide +kernel
theorem dX4_readAsset_1 : decode cX4_readAsset 1 = .ok (.invokevirtual 53, 3) := by decide +kernel
theorem dX4_readAsset_4 : decode cX4_readAsset 4 = .ok (.ifCond .ne 5, 3) := by decide +kernel
theorem dX4_readAsset_7 : decode cX4_readAsset 7 = .ok (.iconst 0, 1) := by decide +kernel
theorem dX4_readAsset_8 : decode cX4_readAsset 8 = .ok (.ireturn, 1) := by decide +kernel
theorem dX4_readAsset_9 : decode cX4_readAsset 9 = .ok (.aload_n 1, 1) := by decide +kernel
theorem dX4_readAsset_10 : decode cX4_readAsset 10 = .ok (.aload_n 0, 1) := by decide +kernel
theorem dX4_readAsset_11 : decode cX4_readAsset 11 = .ok (.invokevirtual 57, 3) := by decide +kernel
theorem dX4_readAsset_14 : decode cX4_readAsset 14 = .ok (.putfield 61, 3) := by decide +kernel
theorem dX4_readAsset_17 : decode cX4_readAsset 17 = .ok (.iconst 1, 1) := by decide +kernel
theorem dX4_readAsset_18 : decode cX4_readAsset 18 = .ok (.ireturn, 1) := by decide +kernel
theorem dX4_readCrew_0 : decode cX4_readCrew 0 = .ok (.aload_n 0, 1) := by decide +kernel
theorem dX4_readCrew_1 : decode cX4_readCrew 1 = .ok (.invokevirtual 53, 3) := by decide +kernel
theorem dX4_readCrew_4 : decode cX4_readCrew 4 = .ok (.ifCond .ne 5, 3) := by decide +kernel
theorem dX4_readCrew_7 : decode cX4_readCrew 7 = .ok (.iconst 0, 1) := by decide +kernel
theorem dX4_readCrew_8 : decode cX4_readCrew 8 = .ok (.ireturn, 1) := by decide +kernel
theorem dX4_readCrew_9 : decode cX4_readCrew 9 = .ok (.aload_n 1, 1) := by decide +kernel
theorem dX4_readCrew_10 : decode cX4_readCrew 10 = .ok (.aload_n 0, 1) := by decide +kernel
theorem dX4_readCrew_11 : decode cX4_readCrew 11 = .ok (.invokevirtual 57, 3) := by decide +kernel
theorem dX4_readCrew_14 : decode cX4_readCrew 14 = .ok (.putfield 64, 3) := by decide +kernel
theorem dX4_readCrew_17 : decode cX4_readCrew 17 = .ok (.iconst 1, 1) := by decide +kernel
theorem dX4_readCrew_18 : decode cX4_readCrew 18 = .ok (.ireturn, 1) := by decide +kernel
theorem dX4_readSign_0 : decode cX4_readSign 0 = .ok (.aload_n 0, 1) := by decide +kernel
theorem dX4_readSign_1 : decode cX4_readSign 1 = .ok (.getfield 28, 3) := by decide +kernel
theorem dX4_readSign_4 : decode cX4_readSign 4 = .ok (.aload_n 0, 1) := by decide +kernel
theorem dX4_readSign_5 : decode cX4_readSign 5 = .ok (.getfield 15, 3) := by decide +kernel
theorem dX4_readSign_8 : decode cX4_readSign 8 = .ok (.if_icmp .ge 28, 3) := by decide +kernel
theorem dX4_readSign_11 : decode cX4_readSign 11 = .ok (.aload_n 0, 1) := by decide +kernel
theorem dX4_readSign_12 : decode cX4_readSign 12 = .ok (.getfield 28, 3) := by decide +kernel
theorem dX4_readSign_15 : decode cX4_readSign 15 = .ok (.aload_n 0, 1) := by decide +kernel
theorem dX4_readSign_16 : decode cX4_readSign 16 = .ok (.getfield 9, 3) := by decide +kernel
theorem dX4_readSign_19 : decode cX4_readSign 19 = .ok (.arraylength, 1) := by decide +kernel
theorem dX4_readSign_20 : decode cX4_readSign 20 = .ok (.if_icmp .ge 16, 3) := by decide +kernel
theorem dX4_readSign_23 : decode cX4_readSign 23 = .ok (.aload_n 0, 1) := by decide +kernel
theorem dX4_readSign_24 : decode cX4_readSign 24 = .ok (.getfield 9, 3) := by decide +kernel
theorem dX4_readSign_27 : decode cX4_readSign 27 = .ok (.aload_n 0, 1) := by decide +kernel
theorem dX4_readSign_28 : decode cX4_readSign 28 = .ok (.getfield 28, 3) := by decide +kernel
theorem dX4_readSign_31 : decode cX4_readSign 31 = .ok (.caload, 1) := by decide +kernel
theorem dX4_readSign_32 : decode cX4_readSign 32 = .ok (.iload_n 1, 1) := by decide +kernel
theorem dX4_readSign_33 : decode cX4_readSign 33 = .ok (.if_icmp .eq 5, 3) := by decide +kernel
theorem dX4_readSign_36 : decode cX4_readSign 36 = .ok (.iconst 0, 1) := by decide +kernel
theorem dX4_readSign_37 : decode cX4_readSign 37 = .ok (.ireturn, 1) := by decide +kernel
theorem dX4_readSign_38 : decode cX4_readSign 38 = .ok (.aload_n 0, 1) := by decide +kernel
theorem dX4_readSign_39 : decode cX4_readSign 39 = .ok (.dup, 1) := by decide +kernel
theorem dX4_readSign_40 : decode cX4_readSign 40 = .ok (.getfield 28, 3) := by decide +kernel
theorem dX4_readSign_43 : decode cX4_readSign 43 = .ok (.iconst 1, 1) := by decide +kernel
theorem dX4_readSign_44 : decode cX4_readSign 44 = .ok (.iadd, 1) := by decide +kernel
theorem dX4_readSign_45 : decode cX4_readSign 45 = .ok (.putfield 28, 3) := by decide +kernel
theorem dX4_readSign_48 : decode cX4_readSign 48 = .ok (.iconst 1, 1) := by decide +kernel
theorem dX4_readSign_49 : decode cX4_readSign 49 = .ok (.ireturn, 1) := by decide +kernel
theorem dX4_isAtDigit_0 : decode cX4_isAtDigit 0 = .ok (.aload_n 0, 1) := by decide +kernel
theorem dX4_isAtDigit_1 : decode cX4_isAtDigit 1 = .ok (.getfield 28, 3) := by decide +kernel
theorem dX4_isAtDigit_4 : decode cX4_isAtDigit 4 = .ok (.aload_n 0, 1) := by decide +kernel
theorem dX4_isAtDigit_5 : decode cX4_isAtDigit 5 = .ok (.getfield 15, 3) := by decide +kernel
theorem dX4_isAtDigit_8 : decode cX4_isAtDigit 8 = .ok (.if_icmp .ge 47, 3) := by decide +kernel
theorem dX4_isAtDigit_11 : decode cX4_isAtDigit 11 = .ok (.aload_n 0, 1) := by decide +kernel
theorem dX4_isAtDigit_12 : decode cX4_isAtDigit 12 = .ok (.getfield 28, 3) := by decide +kernel
theorem dX4_isAtDigit_15 : decode cX4_isAtDigit 15 = .ok (.aload_n 0, 1) := by decide +kernel
theorem dX4_isAtDigit_16 : decode cX4_isAtDigit 16 = .ok (.getfield 9, 3) := by decide +kernel
theorem dX4_isAtDigit_19 : decode cX4_isAtDigit 19 = .ok (.arraylength, 1) := by decide +kernel
theorem dX4_isAtDigit_20 : decode cX4_isAtDigit 20 = .ok (.if_icmp .ge 35, 3) := by decide +kernel
theorem dX4_isAtDigit_23 : decode cX4_isAtDigit 23 = .ok (.aload_n 0, 1) := by decide +kernel
theorem dX4_isAtDigit_24 : decode cX4_isAtDigit 24 = .ok (.getfield 9, 3) := by decide +kernel
theorem dX4_isAtDigit_27 : decode cX4_isAtDigit 27 = .ok (.aload_n 0, 1) := by decide +kernel
theorem dX4_isAtDigit_28 : decode cX4_isAtDigit 28 = .ok (.getfield 28, 3) := by decide +kernel
theorem dX4_isAtDigit_31 : decode cX4_isAtDigit 31 = .ok (.caload, 1) := by decide +kernel
theorem dX4_isAtDigit_32 : decode cX4_isAtDigit 32 = .ok (.bipush 48, 2) := by decide +kernel
theorem dX4_isAtDigit_34 : decode cX4_isAtDigit 34 = .ok (.if_icmp .lt 21, 3) := by decide +kernel
theorem dX4_isAtDigit_37 : decode cX4_isAtDigit 37 = .ok (.aload_n 0, 1) := by decide +kernel
theorem dX4_isAtDigit_38 : decode cX4_isAtDigit 38 = .ok (.getfield 9, 3) := by decide +kernel
theorem dX4_isAtDigit_41 : decode cX4_isAtDigit 41 = .ok (.aload_n 0, 1) := by decide +kernel
theorem dX4_isAtDigit_42 : decode cX4_isAtDigit 42 = .ok (.getfield 28, 3) := by decide +kernel
theorem dX4_isAtDigit_45 : decode cX4_isAtDigit 45 = .ok (.caload, 1) := by decide +kernel
theorem dX4_isAtDigit_46 : decode cX4_isAtDigit 46 = .ok (.bipush 57, 2) := by decide +kernel
theorem dX4_isAtDigit_48 : decode cX4_isAtDigit 48 = .ok (.if_icmp .gt 7, 3) := by decide +kernel
theorem dX4_isAtDigit_51 : decode cX4_isAtDigit 51 = .ok (.iconst 1, 1) := by decide +kernel
theorem dX4_isAtDigit_52 : decode cX4_isAtDigit 52 = .ok (.goto 4, 3) := by decide +kernel
theorem dX4_isAtDigit_55 : decode cX4_isAtDigit 55 = .ok (.iconst 0, 1) := by decide +kernel
theorem dX4_isAtDigit_56 : decode cX4_isAtDigit 56 = .ok (.ireturn, 1) := by decide +kernel
theorem dX4_readDigit_0 : decode cX4_readDigit 0 = .ok (.aload_n 0, 1) := by decide +kernel
theorem dX4_readDigit_1 : decode cX4_readDigit 1 = .ok (.getfield 28, 3) := by decide +kernel
theorem dX4_readDigit_4 : decode cX4_readDigit 4 = .ok (.aload_n 0, 1) := by decide +kernel
theorem dX4_readDigit_5 : decode cX4_readDigit 5 = .ok (.getfield 9, 3) := by decide +kernel
theorem dX4_readDigit_8 : decode cX4_readDigit 8 = .ok (.arraylength, 1) := by decide +kernel
theorem dX4_readDigit_9 : decode cX4_readDigit 9 = .ok (.if_icmp .lt 5, 3) := by decide +kernel
theorem dX4_readDigit_12 : decode cX4_readDigit 12 = .ok (.iconst 0, 1) := by decide +kernel
theorem dX4_readDigit_13 : decode cX4_readDigit 13 = .ok (.ireturn, 1) := by decide +kernel
theorem dX4_readDigit_14 : decode cX4_readDigit 14 = .ok (.aload_n 0, 1) := by decide +kernel
theorem dX4_readDigit_15 : decode cX4_readDigit 15 = .ok (.dup, 1) := by decide +kernel
theorem dX4_readDigit_16 : decode cX4_readDigit 16 = .ok (.getfield 28, 3) := by decide +kernel
theorem dX4_readDigit_19 : decode cX4_readDigit 19 = .ok (.iconst 1, 1) := by decide +kernel
theorem dX4_readDigit_20 : decode cX4_readDigit 20 = .ok (.iadd, 1) := by decide +kernel
theorem dX4_readDigit_21 : decode cX4_readDigit 21 = .ok (.putfield 28, 3) := by decide +kernel
theorem dX4_readDigit_24 : decode cX4_readDigit 24 = .ok (.aload_n 0, 1) := by decide +kernel
theorem dX4_readDigit_25 : decode cX4_readDigit 25 = .ok (.getfield 9, 3) := by decide +kernel
theorem dX4_readDigit_28 : decode cX4_readDigit 28 = .ok (.aload_n 0, 1) := by decide +kernel
theorem dX4_readDigit_29 : decode cX4_readDigit 29 = .ok (.getfield 28, 3) := by decide +kernel
theorem dX4_readDigit_32 : decode cX4_readDigit 32 = .ok (.iconst 1, 1) := by decide +kernel
theorem dX4_readDigit_33 : decode cX4_readDigit 33 = .ok (.isub, 1) := by decide +kernel
theorem dX4_readDigit_34 : decode cX4_readDigit 34 = .ok (.caload, 1) := by decide +kernel
theorem dX4_readDigit_35 : decode cX4_readDigit 35 = .ok (.bipush 48, 2) := by decide +kernel
theorem dX4_readDigit_37 : decode cX4_readDigit 37 = .ok (.isub, 1) := by decide +kernel
theorem dX4_readDigit_38 : decode cX4_readDigit 38 = .ok (.ireturn, 1) := by decide +kernel
theorem dX5_init_0 : decode cX5_init 0 = .ok (.aload_n 0, 1) := by decide +kernel
theorem dX5_init_1 : decode cX5_init 1 = .ok (.invokespecial 3, 3) := by decide +kernel
theorem dX5_init_4 : decode cX5_init 4 = .ok (.aload_n 0, 1) := by decide +kernel
theorem dX5_init_5 : decode cX5_init 5 = .ok (.bipush 8, 2) := by decide +kernel
theorem dX5_init_7 : decode cX5_init 7 = .ok (.anewarray 9, 3) := by decide +kernel
theorem dX5_init_10 : decode cX5_init 10 = .ok (.putfield 11, 3) := by decide +kernel
theorem dX5_init_13 : decode cX5_init 13 = .ok (.aload_n 0, 1) := by decide +kernel
theorem dX5_init_14 : decode cX5_init 14 = .ok (.iconst 5, 1) := by decide +kernel
theorem dX5_init_15 : decode cX5_init 15 = .ok (.anewarray 17, 3) := by decide +kernel
theorem dX5_init_18 : decode cX5_init 18 = .ok (.putfield 19, 3) := by decide +kernel
theorem dX5_init_21 : decode cX5_init 21 = .ok (.aload_n 0, 1) := by decide +kernel
theorem dX5_init_22 : decode cX5_init 22 = .ok (.bipush 24, 2) := by decide +kernel
theorem dX5_init_24 : decode cX5_init 24 = .ok (.anewarray 23, 3) := by decide +kernel
theorem dX5_init_27 : decode cX5_init 27 = .ok (.putfield 25, 3) := by decide +kernel
theorem dX5_init_30 : decode cX5_init 30 = .ok (.aload_n 0, 1) := by decide +kernel
theorem dX5_init_31 : decode cX5_init 31 = .ok (.iconst 5, 1) := by decide +kernel
theorem dX5_init_32 : decode cX5_init 32 = .ok (.newarray .int, 2) := by decide +kernel
theorem dX5_init_34 : decode cX5_init 34 = .ok (.putfield 29, 3) := by decide +kernel
theorem dX5_init_37 : decode cX5_init 37 = .ok (.aload_n 0, 1) := by decide +kernel
theorem dX5_init_38 : decode cX5_init 38 = .ok (.iconst 0, 1) := by decide +kernel
theorem dX5_init_39 : decode cX5_init 39 = .ok (.putfield 33, 3) := by decide +kernel
theorem dX5_init_42 : decode cX5_init 42 = .ok (.aload_n 0, 1) := by decide +kernel
theorem dX5_init_43 : decode cX5_init 43 = .ok (.iconst 0, 1) := by decide +kernel
theorem dX5_init_44 : decode cX5_init 44 = .ok (.putfield 37, 3) := by decide +kernel
theorem dX5_init_47 : decode cX5_init 47 = .ok (.aload_n 0, 1) := by decide +kernel
theorem dX5_init_48 : decode cX5_init 48 = .ok (.iconst 0, 1) := by decide +kernel
theorem dX5_init_49 : decode cX5_init 49 = .ok (.putfield 40, 3) := by decide +kernel
theorem dX5_init_52 : decode cX5_init 52 = .ok (.aload_n 0, 1) := by decide +kernel
theorem dX5_init_53 : decode cX5_init 53 = .ok (.iconst 0, 1) := by decide +kernel
theorem dX5_init_54 : decode cX5_init 54 = .ok (.putfield 43, 3) := by decide +kernel
theorem dX5_init_57 : decode cX5_init 57 = .ok (.iconst 0, 1) := by decide +kernel
theorem dX5_init_58 : decode cX5_init 58 = .ok (.istore_n 1, 1) := by decide +kernel
theorem dX5_init_59 : decode cX5_init 59 = .ok (.iload_n 1, 1) := by decide +kernel
theorem dX5_init_60 : decode cX5_init 60 = .ok (.aload_n 0, 1) := by decide +kernel
theorem dX5_init_61 : decode cX5_init 61 = .ok (.getfield 11, 3) := by decide +kernel
theorem dX5_init_64 : decode cX5_init 64 = .ok (.arraylength, 1) := by decide +kernel
theorem dX5_init_65 : decode cX5_init 65 = .ok (.if_icmp .ge 22, 3) := by decide +kernel
theorem dX5_init_68 : decode cX5_init 68 = .ok (.aload_n 0, 1) := by decide +kernel
theorem dX5_init_69 : decode cX5_init 69 = .ok (.getfield 11, 3) := by decide +kernel
theorem dX5_init_72 : decode cX5_init 72 = .ok (.iload_n 1, 1) := by decide +kernel
theorem dX5_init_73 : decode cX5_init 73 = .ok (.new 9, 3) := by decide +kernel
theorem dX5_init_76 : decode cX5_init 76 = .ok (.dup, 1) := by decide +kernel
theorem dX5_init_77 : decode cX5_init 77 = .ok (.invokespecial 46, 3) := by decide +kernel
theorem dX5_init_80 : decode cX5_init 80 = .ok (.aastore, 1) := by decide +kernel
theorem dX5_init_81 : decode cX5_init 81 = .ok (.iinc 1 1, 3) := by decide +kernel
theorem dX5_init_84 : decode cX5_init 84 = .ok (.goto (-25), 3) := by decide +kernel
theorem dX5_init_87 : decode cX5_init 87 = .ok (.iconst 0, 1) := by decide +kernel
theorem dX5_init_88 : decode cX5_init 88 = .ok (.istore_n 1, 1) := by decide +kernel
theorem dX5_init_89 : decode cX5_init 89 = .ok (.iload_n 1, 1) := by decide +kernel
theorem dX5_init_90 : decode cX5_init 90 = .ok (.aload_n 0, 1) := by decide +kernel
theorem dX5_init_91 : decode cX5_init 91 = .ok (.getfield 19, 3) := by decide +kernel
theorem dX5_init_94 : decode cX5_init 94 = .ok (.arraylength, 1) := by decide +kernel
theorem dX5_init_95 : decode cX5_init 95 = .ok (.if_icmp .ge 22, 3) := by decide +kernel
theorem dX5_init_98 : decode cX5_init 98 = .ok (.aload_n 0, 1) := by decide +kernel
theorem dX5_init_99 : decode cX5_init 99 = .ok (.getfield 19, 3) := by decide +kernel
theorem dX5_init_102 : decode cX5_init 102 = .ok (.iload_n 1, 1) := by decide +kernel
theorem dX5_init_103 : decode cX5_init 103 = .ok (.new 17, 3) := by decide +kernel
theorem dX5_init_106 : decode cX5_init 106 = .ok (.dup, 1) := by decide +kernel
theorem dX5_init_107 : decode cX5_init 107 = .ok (.invokespecial 47, 3) := by decide +kernel
theorem dX5_init_110 : decode cX5_init 110 = .ok (.aastore, 1) := by decide +kernel
theorem dX5_init_111 : decode cX5_init 111 = .ok (.iinc 1 1, 3) := by decide +kernel
theorem dX5_init_114 : decode cX5_init 114 = .ok (.goto (-25), 3) := by decide +kernel
theorem dX5_init_117 : decode cX5_init 117 = .ok (.iconst 0, 1) := by decide +kernel
theorem dX5_init_118 : decode cX5_init 118 = .ok (.istore_n 1, 1) := by decide +kernel
theorem dX5_init_119 : decode cX5_init 119 = .ok (.iload_n 1, 1) := by decide +kernel
theorem dX5_init_120 : decode cX5_init 120 = .ok (.aload_n 0, 1) := by decide +kernel
theorem dX5_init_121 : decode cX5_init 121 = .ok (.getfield 25, 3) := by decide +kernel
theorem dX5_init_124 : decode cX5_init 124 = .ok (.arraylength, 1) := by decide +kernel
theorem dX5_init_125 : decode cX5_init 125 = .ok (.if_icmp .ge 22, 3) := by decide +kernel
theorem dX5_init_128 : decode cX5_init 128 = .ok (.aload_n 0, 1) := by decide +kernel
theorem dX5_init_129 : decode cX5_init 129 = .ok (.getfield 25, 3) := by decide +kernel
theorem dX5_init_132 : decode cX5_init 132 = .ok (.iload_n 1, 1) := by decide +kernel
theorem dX5_init_133 : decode cX5_init 133 = .ok (.new 23, 3) := by decide +kernel
theorem dX5_init_136 : decode cX5_init 136 = .ok (.dup, 1) := by decide +kernel
theorem dX5_init_137 : decode cX5_init 137 = .ok (.invokespecial 48, 3) := by decide +kernel
theorem dX5_init_140 : decode cX5_init 140 = .ok (.aastore, 1) := by decide +kernel
theorem dX5_init_141 : decode cX5_init 141 = .ok (.iinc 1 1, 3) := by decide +kernel
theorem dX5_init_144 : decode cX5_init 144 = .ok (.goto (-25), 3) := by decide +kernel
theorem dX5_init_147 : decode cX5_init 147 = .ok (.return_, 1) := by decide +kernel
theorem dX5_copyFrom_0 : decode cX5_copyFrom 0 = .ok (.iconst 0, 1) := by decide +kernel
theorem dX5_copyFrom_1 : decode cX5_copyFrom 1 = .ok (.istore_n 2, 1) := by decide +kernel
theorem dX5_copyFrom_2 : decode cX5_copyFrom 2 = .ok (.iload_n 2, 1) := by decide +kernel
theorem dX5_copyFrom_3 : decode cX5_copyFrom 3 = .ok (.aload_n 0, 1) := by decide +kernel
theorem dX5_copyFrom_4 : decode cX5_copyFrom 4 = .ok (.getfield 11, 3) := by decide +kernel
theorem dX5_copyFrom_7 : decode cX5_copyFrom 7 = .ok (.arraylength, 1) := by decide +kernel
theorem dX5_copyFrom_8 : decode cX5_copyFrom 8 = .ok (.if_icmp .ge 24, 3) := by decide +kernel
theorem dX5_copyFrom_11 : decode cX5_copyFrom 11 = .ok (.aload_n 0, 1) := by decide +kernel
theorem dX5_copyFrom_12 : decode cX5_copyFrom 12 = .ok (.getfield 11, 3) := by decide +kernel
theorem dX5_copyFrom_15 : decode cX5_copyFrom 15 = .ok (.iload_n 2, 1) := by decide +kernel
theorem dX5_copyFrom_16 : decode cX5_copyFrom 16 = .ok (.aaload, 1) := by decide +kernel
theorem dX5_copyFrom_17 : decode cX5_copyFrom 17 = .ok (.aload_n 1, 1) := by decide +kernel
theorem dX5_copyFrom_18 : decode cX5_copyFrom 18 = .ok (.getfield 11, 3) := by decide +kernel
theorem dX5_copyFrom_21 : decode cX5_copyFrom 21 = .ok (.iload_n 2, 1) := by decide +kernel
theorem dX5_copyFrom_22 : decode cX5_copyFrom 22 = .ok (.aaload, 1) := by decide +kernel
theorem dX5_copyFrom_23 : decode cX5_copyFrom 23 = .ok (.invokevirtual 49, 3) := by decide +kernel
theorem dX5_copyFrom_26 : decode cX5_copyFrom 26 = .ok (.iinc 2 1, 3) := by decide +kernel
theorem dX5_copyFrom_29 : decode cX5_copyFrom 29 = .ok (.goto (-27), 3) := by decide +kernel
theorem dX5_copyFrom_32 : decode cX5_copyFrom 32 = .ok (.iconst 0, 1) := by decide +kernel
theorem dX5_copyFrom_33 : decode cX5_copyFrom 33 = .ok (.istore_n 2, 1) := by decide +kernel
theorem dX5_copyFrom_34 : decode cX5_copyFrom 34 = .ok (.iload_n 2, 1) := by decide +kernel
theorem dX5_copyFrom_35 : decode cX5_copyFrom 35 = .ok (.aload_n 0, 1) := by decide +kernel
theorem dX5_copyFrom_36 : decode cX5_copyFrom 36 = .ok (.getfield 19, 3) := by decide +kernel
theorem dX5_copyFrom_39 : decode cX5_copyFrom 39 = .ok (.arraylength, 1) := by decide +kernel
theorem dX5_copyFrom_40 : decode cX5_copyFrom 40 = .ok (.if_icmp .ge 24, 3) := by decide +kernel
theorem dX5_copyFrom_43 : decode cX5_copyFrom 43 = .ok (.aload_n 0, 1) := by decide +kernel
theorem dX5_copyFrom_44 : decode cX5_copyFrom 44 = .ok (.getfield 19, 3) := by decide +kernel
theorem dX5_copyFrom_47 : decode cX5_copyFrom 47 = .ok (.iload_n 2, 1) := by decide +kernel
theorem dX5_copyFrom_48 : decode cX5_copyFrom 48 = .ok (.aaload, 1) := by decide +kernel
theorem dX5_copyFrom_49 : decode cX5_copyFrom 49 = .ok (.aload_n 1, 1) := by decide +kernel
theorem dX5_copyFrom_50 : decode cX5_copyFrom 50 = .ok (.getfield 19, 3) := by decide +kernel
theorem dX5_copyFrom_53 : decode cX5_copyFrom 53 = .ok (.iload_n 2, 1) := by decide +kernel
theorem dX5_copyFrom_54 : decode cX5_copyFrom 54 = .ok (.aaload, 1) := by decide +kernel
theorem dX5_copyFrom_55 : decode cX5_copyFrom 55 = .ok (.invokevirtual 53, 3) := by decide +kernel
theorem dX5_copyFrom_58 : decode cX5_copyFrom 58 = .ok (.iinc 2 1, 3) := by decide +kernel
theorem dX5_copyFrom_61 : decode cX5_copyFrom 61 = .ok (.goto (-27), 3) := by decide +kernel
theorem dX5_copyFrom_64 : decode cX5_copyFrom 64 = .ok (.iconst 0, 1) := by decide +kernel
theorem dX5_copyFrom_65 : decode cX5_copyFrom 65 = .ok (.istore_n 2, 1) := by decide +kernel
theorem dX5_copyFrom_66 : decode cX5_copyFrom 66 = .ok (.iload_n 2, 1) := by decide +kernel
theorem dX5_copyFrom_67 : decode cX5_copyFrom 67 = .ok (.aload_n 0, 1) := by decide +kernel
theorem dX5_copyFrom_68 : decode cX5_copyFrom 68 = .ok (.getfield 25, 3) := by decide +kernel
theorem dX5_copyFrom_71 : decode cX5_copyFrom 71 = .ok (.arraylength, 1) := by decide +kernel
theorem dX5_copyFrom_72 : decode cX5_copyFrom 72 = .ok (.if_icmp .ge 24, 3) := by decide +kernel
theorem dX5_copyFrom_75 : decode cX5_copyFrom 75 = .ok (.aload_n 0, 1) := by decide +kernel
theorem dX5_copyFrom_76 : decode cX5_copyFrom 76 = .ok (.getfield 25, 3) := by decide +kernel
theorem dX5_copyFrom_79 : decode cX5_copyFrom 79 = .ok (.iload_n 2, 1) := by decide +kernel
theorem dX5_copyFrom_80 : decode cX5_copyFrom 80 = .ok (.aaload, 1) := by decide +kernel
theorem dX5_copyFrom_81 : decode cX5_copyFrom 81 = .ok (.aload_n 1, 1) := by decide +kernel
theorem dX5_copyFrom_82 : decode cX5_copyFrom 82 = .ok (.getfield 25, 3) := by decide +kernel
theorem dX5_copyFrom_85 : decode cX5_copyFrom 85 = .ok (.iload_n 2, 1) := by decide +kernel
theorem dX5_copyFrom_86 : decode cX5_copyFrom 86 = .ok (.aaload, 1) := by decide +kernel
theorem dX5_copyFrom_87 : decode cX5_copyFrom 87 = .ok (.invokevirtual 56, 3) := by decide +kernel
theorem dX5_copyFrom_90 : decode cX5_copyFrom 90 = .ok (.iinc 2 1, 3) := by decide +kernel
theorem dX5_copyFrom_93 : decode cX5_copyFrom 93 = .ok (.goto (-27), 3) := by decide +kernel
theorem dX5_copyFrom_96 : decode cX5_copyFrom 96 = .ok (.iconst 0, 1) := by decide +kernel
theorem dX5_copyFrom_97 : decode cX5_copyFrom 97 = .ok (.istore_n 2, 1) := by decide +kernel
theorem dX5_copyFrom_98 : decode cX5_copyFrom 98 = .ok (.iload_n 2, 1) := by decide +kernel
theorem dX5_copyFrom_99 : decode cX5_copyFrom 99 = .ok (.aload_n 0, 1) := by decide +kernel
theorem dX5_copyFrom_100 : decode cX5_copyFrom 100 = .ok (.getfield 29, 3) := by decide +kernel
theorem dX5_copyFrom_103 : decode cX5_copyFrom 103 = .ok (.arraylength, 1) := by decide +kernel
theorem dX5_copyFrom_104 : decode cX5_copyFrom 104 = .ok (.if_icmp .ge 21, 3) := by decide +kernel
theorem dX5_copyFrom_107 : decode cX5_copyFrom 107 = .ok (.aload_n 0, 1) := by decide +kernel
theorem dX5_copyFrom_108 : decode cX5_copyFrom 108 = .ok (.getfield 29, 3) := by decide +kernel
theorem dX5_copyFrom_111 : decode cX5_copyFrom 111 = .ok (.iload_n 2, 1) := by decide +kernel
theorem dX5_copyFrom_112 : decode cX5_copyFrom 112 = .ok (.aload_n 1, 1) := by decide +kernel
theorem dX5_copyFrom_113 : decode cX5_copyFrom 113 = .ok (.getfield 29, 3) := by decide +kernel
theorem dX5_copyFrom_116 : decode cX5_copyFrom 116 = .ok (.iload_n 2, 1) := by decide +kernel
theorem dX5_copyFrom_117 : decode cX5_copyFrom 117 = .ok (.iaload, 1) := by decide +kernel
theorem dX5_copyFrom_118 : decode cX5_copyFrom 118 = .ok (.iastore, 1) := by decide +kernel
theorem dX5_copyFrom_119 : decode cX5_copyFrom 119 = .ok (.iinc 2 1, 3) := by decide +kernel
theorem dX5_copyFrom_122 : decode cX5_copyFrom 122 = .ok (.goto (-24), 3) := by decide +kernel
theorem dX5_copyFrom_125 : decode cX5_copyFrom 125 = .ok (.aload_n 0, 1) := by decide +kernel
theorem dX5_copyFrom_126 : decode cX5_copyFrom 126 = .ok (.aload_n 1, 1) := by decide +kernel
theorem dX5_copyFrom_127 : decode cX5_copyFrom 127 = .ok (.getfield 33, 3) := by decide +kernel
theorem dX5_copyFrom_130 : decode cX5_copyFrom 130 = .ok (.putfield 33, 3) := by decide +kernel
theorem dX5_copyFrom_133 : decode cX5_copyFrom 133 = .ok (.aload_n 0, 1) := by decide +kernel
theorem dX5_copyFrom_134 : decode cX5_copyFrom 134 = .ok (.aload_n 1, 1) := by decide +kernel
theorem dX5_copyFrom_135 : decode cX5_copyFrom 135 = .ok (.getfield 37, 3) := by decide +kernel
theorem dX5_copyFrom_138 : decode cX5_copyFrom 138 = .ok (.putfield 37, 3) := by decide +kernel
theorem dX5_copyFrom_141 : decode cX5_copyFrom 141 = .ok (.aload_n 0, 1) := by decide +kernel
theorem dX5_copyFrom_142 : decode cX5_copyFrom 142 = .ok (.aload_n 1, 1) := by decide +kernel
theorem dX5_copyFrom_143 : decode cX5_copyFrom 143 = .ok (.getfield 40, 3) := by decide +kernel
theorem dX5_copyFrom_146 : decode cX5_copyFrom 146 = .ok (.putfield 40, 3) := by decide +kernel
theorem dX5_copyFrom_149 : decode cX5_copyFrom 149 = .ok (.aload_n 0, 1) := by decide +kernel
theorem dX5_copyFrom_150 : decode cX5_copyFrom 150 = .ok (.aload_n 1, 1) := by decide +kernel
theorem dX5_copyFrom_151 : decode cX5_copyFrom 151 = .ok (.getfield 43, 3) := by decide +kernel
theorem dX5_copyFrom_154 : decode cX5_copyFrom 154 = .ok (.putfield 43, 3) := by decide +kernel
theorem dX5_copyFrom_157 : decode cX5_copyFrom 157 = .ok (.return_, 1) := by decide +kernel
theorem dX5_hasAsset_0 : decode cX5_hasAsset 0 = .ok (.iload_n 1, 1) := by decide +kernel
theorem dX5_hasAsset_1 : decode cX5_hasAsset 1 = .ok (.ifCond .lt 15, 3) := by decide +kernel
theorem dX5_hasAsset_4 : decode cX5_hasAsset 4 = .ok (.iload_n 1, 1) := by decide +kernel
theorem dX5_hasAsset_5 : decode cX5_hasAsset 5 = .ok (.aload_n 0, 1) := by decide +kernel
theorem dX5_hasAsset_6 : decode cX5_hasAsset 6 = .ok (.getfield 33, 3) := by decide +kernel
theorem dX5_hasAsset_9 : decode cX5_hasAsset 9 = .ok (.if_icmp .ge 7, 3) := by decide +kernel
theorem dX5_hasAsset_12 : decode cX5_hasAsset 12 = .ok (.iconst 1, 1) := by decide +kernel
theorem dX5_hasAsset_13 : decode cX5_hasAsset 13 = .ok (.goto 4, 3) := by decide +kernel
theorem dX5_hasAsset_16 : decode cX5_hasAsset 16 = .ok (.iconst 0, 1) := by decide +kernel
theorem dX5_hasAsset_17 : decode cX5_hasAsset 17 = .ok (.ireturn, 1) := by decide +kernel
theorem dX5_hasCrew_0 : decode cX5_hasCrew 0 = .ok (.iload_n 1, 1) := by decide +kernel
theorem dX5_hasCrew_1 : decode cX5_hasCrew 1 = .ok (.ifCond .lt 15, 3) := by decide +kernel
theorem dX5_hasCrew_4 : decode cX5_hasCrew 4 = .ok (.iload_n 1, 1) := by decide +kernel
theorem dX5_hasCrew_5 : decode cX5_hasCrew 5 = .ok (.aload_n 0, 1) := by decide +kernel
theorem dX5_hasCrew_6 : decode cX5_hasCrew 6 = .ok (.getfield 37, 3) := by decide +kernel
theorem dX5_hasCrew_9 : decode cX5_hasCrew 9 = .ok (.if_icmp .ge 7, 3) := by decide +kernel
theorem dX5_hasCrew_12 : decode cX5_hasCrew 12 = .ok (.iconst 1, 1) := by decide +kernel
theorem dX5_hasCrew_13 : decode cX5_hasCrew 13 = .ok (.goto 4, 3) := by decide +kernel
theorem dX5_hasCrew_16 : decode cX5_hasCrew 16 = .ok (.iconst 0, 1) := by decide +kernel
theorem dX5_hasCrew_17 : decode cX5_hasCrew 17 = .ok (.ireturn, 1) := by decide +kernel
theorem dX5_hasTask_0 : decode cX5_hasTask 0 = .ok (.iload_n 1, 1) := by decide +kernel
theorem dX5_hasTask_1 : decode cX5_hasTask 1 = .ok (.ifCond .lt 15, 3) := by decide +kernel
theorem dX5_hasTask_4 : decode cX5_hasTask 4 = .ok (.iload_n 1, 1) := by decide +kernel
theorem dX5_hasTask_5 : decode cX5_hasTask 5 = .ok (.aload_n 0, 1) := by decide +kernel
theorem dX5_hasTask_6 : decode cX5_hasTask 6 = .ok (.getfield 40, 3) := by decide +kernel
theorem dX5_hasTask_9 : decode cX5_hasTask 9 = .ok (.if_icmp .ge 7, 3) := by decide +kernel
theorem dX5_hasTask_12 : decode cX5_hasTask 12 = .ok (.iconst 1, 1) := by decide +kernel
theorem dX5_hasTask_13 : decode cX5_hasTask 13 = .ok (.goto 4, 3) := by decide +kernel
theorem dX5_hasTask_16 : decode cX5_hasTask 16 = .ok (.iconst 0, 1) := by decide +kernel
theorem dX5_hasTask_17 : decode cX5_hasTask 17 = .ok (.ireturn, 1) := by decide +kernel
theorem dX5_newAsset_0 : decode cX5_newAsset 0 = .ok (.iload_n 1, 1) := by decide +kernel
theorem dX5_newAsset_1 : decode cX5_newAsset 1 = .ok (.iconst 1, 1) := by decide +kernel
theorem dX5_newAsset_2 : decode cX5_newAsset 2 = .ok (.bipush 100, 2) := by decide +kernel
theorem dX5_newAsset_4 : decode cX5_newAsset 4 = .ok (.invokestatic 59, 3) := by decide +kernel
theorem dX5_newAsset_7 : decode cX5_newAsset 7 = .ok (.ifCond .eq 14, 3) := by decide +kernel
theorem dX5_newAsset_10 : decode cX5_newAsset 10 = .ok (.iload_n 2, 1) := by decide +kernel
theorem dX5_newAsset_11 : decode cX5_newAsset 11 = .ok (.iconst 1, 1) := by decide +kernel
theorem dX5_newAsset_12 : decode cX5_newAsset 12 = .ok (.sipush 200, 3) := by decide +kernel
theorem dX5_newAsset_15 : decode cX5_newAsset 15 = .ok (.invokestatic 59, 3) := by decide +kernel
theorem dX5_newAsset_18 : decode cX5_newAsset 18 = .ok (.ifCond .ne 6, 3) := by decide +kernel
theorem dX5_newAsset_21 : decode cX5_newAsset 21 = .ok (.bipush (-2), 2) := by decide +kernel
theorem dX5_newAsset_23 : decode cX5_newAsset 23 = .ok (.ireturn, 1) := by decide +kernel
theorem dX5_newAsset_24 : decode cX5_newAsset 24 = .ok (.aload_n 0, 1) := by decide +kernel
theorem dX5_newAsset_25 : decode cX5_newAsset 25 = .ok (.getfield 33, 3) := by decide +kernel
theorem dX5_newAsset_28 : decode cX5_newAsset 28 = .ok (.aload_n 0, 1) := by decide +kernel
theorem dX5_newAsset_29 : decode cX5_newAsset 29 = .ok (.getfield 11, 3) := by decide +kernel
theorem dX5_newAsset_32 : decode cX5_newAsset 32 = .ok (.arraylength, 1) := by decide +kernel
theorem dX5_newAsset_33 : decode cX5_newAsset 33 = .ok (.if_icmp .lt 6, 3) := by decide +kernel
theorem dX5_newAsset_36 : decode cX5_newAsset 36 = .ok (.bipush (-3), 2) := by decide +kernel
theorem dX5_newAsset_38 : decode cX5_newAsset 38 = .ok (.ireturn, 1) := by decide +kernel
theorem dX5_newAsset_39 : decode cX5_newAsset 39 = .ok (.aload_n 0, 1) := by decide +kernel
theorem dX5_newAsset_40 : decode cX5_newAsset 40 = .ok (.getfield 11, 3) := by decide +kernel
theorem dX5_newAsset_43 : decode cX5_newAsset 43 = .ok (.aload_n 0, 1) := by decide +kernel
theorem dX5_newAsset_44 : decode cX5_newAsset 44 = .ok (.getfield 33, 3) := by decide +kernel
theorem dX5_newAsset_47 : decode cX5_newAsset 47 = .ok (.aaload, 1) := by decide +kernel
theorem dX5_newAsset_48 : decode cX5_newAsset 48 = .ok (.iload_n 1, 1) := by decide +kernel
theorem dX5_newAsset_49 : decode cX5_newAsset 49 = .ok (.iload_n 2, 1) := by decide +kernel
theorem dX5_newAsset_50 : decode cX5_newAsset 50 = .ok (.invokevirtual 63, 3) := by decide +kernel
theorem dX5_newAsset_53 : decode cX5_newAsset 53 = .ok (.aload_n 0, 1) := by decide +kernel
theorem dX5_newAsset_54 : decode cX5_newAsset 54 = .ok (.dup, 1) := by decide +kernel
theorem dX5_newAsset_55 : decode cX5_newAsset 55 = .ok (.getfield 33, 3) := by decide +kernel
theorem dX5_newAsset_58 : decode cX5_newAsset 58 = .ok (.iconst 1, 1) := by decide +kernel
theorem dX5_newAsset_59 : decode cX5_newAsset 59 = .ok (.iadd, 1) := by decide +kernel
theorem dX5_newAsset_60 : decode cX5_newAsset 60 = .ok (.putfield 33, 3) := by decide +kernel
theorem dX5_newAsset_63 : decode cX5_newAsset 63 = .ok (.aload_n 0, 1) := by decide +kernel
theorem dX5_newAsset_64 : decode cX5_newAsset 64 = .ok (.getfield 33, 3) := by decide +kernel
theorem dX5_newAsset_67 : decode cX5_newAsset 67 = .ok (.iconst 1, 1) := by decide +kernel
theorem dX5_newAsset_68 : decode cX5_newAsset 68 = .ok (.isub, 1) := by decide +kernel
theorem dX5_newAsset_69 : decode cX5_newAsset 69 = .ok (.ireturn, 1) := by decide +kernel
theorem dX5_setLink_0 : decode cX5_setLink 0 = .ok (.aload_n 0, 1) := by decide +kernel
theorem dX5_setLink_1 : decode cX5_setLink 1 = .ok (.iload_n 1, 1) := by decide +kernel
theorem dX5_setLink_2 : decode cX5_setLink 2 = .ok (.invokevirtual 67, 3) := by decide +kernel
theorem dX5_setLink_5 : decode cX5_setLink 5 = .ok (.ifCond .eq 11, 3) := by decide +kernel
theorem dX5_setLink_8 : decode cX5_setLink 8 = .ok (.aload_n 0, 1) := by decide +kernel
theorem dX5_setLink_9 : decode cX5_setLink 9 = .ok (.iload_n 2, 1) := by decide +kernel
theorem dX5_setLink_10 : decode cX5_setLink 10 = .ok (.invokevirtual 67, 3) := by decide +kernel
theorem dX5_setLink_13 : decode cX5_setLink 13 = .ok (.ifCond .ne 5, 3) := by decide +kernel
theorem dX5_setLink_16 : decode cX5_setLink 16 = .ok (.iconst (-1), 1) := by decide +kernel
theorem dX5_setLink_17 : decode cX5_setLink 17 = .ok (.ireturn, 1) := by decide +kernel
theorem dX5_setLink_18 : decode cX5_setLink 18 = .ok (.iload_n 1, 1) := by decide +kernel
theorem dX5_setLink_19 : decode cX5_setLink 19 = .ok (.iload_n 2, 1) := by decide +kernel
theorem dX5_setLink_20 : decode cX5_setLink 20 = .ok (.if_icmp .ne 6, 3) := by decide +kernel
theorem dX5_setLink_23 : decode cX5_setLink 23 = .ok (.bipush (-2), 2) := by decide +kernel
theorem dX5_setLink_25 : decode cX5_setLink 25 = .ok (.ireturn, 1) := by decide +kernel
theorem dX5_setLink_26 : decode cX5_setLink 26 = .ok (.aload_n 0, 1) := by decide +kernel
theorem dX5_setLink_27 : decode cX5_setLink 27 = .ok (.getfield 11, 3) := by decide +kernel
theorem dX5_setLink_30 : decode cX5_setLink 30 = .ok (.iload_n 1, 1) := by decide +kernel
theorem dX5_setLink_31 : decode cX5_setLink 31 = .ok (.aaload, 1) := by decide +kernel
theorem dX5_setLink_32 : decode cX5_setLink 32 = .ok (.iload_n 2, 1) := by decide +kernel
theorem dX5_setLink_33 : decode cX5_setLink 33 = .ok (.invokevirtual 71, 3) := by decide +kernel
theorem dX5_setLink_36 : decode cX5_setLink 36 = .ok (.iload_n 3, 1) := by decide +kernel
theorem dX5_setLink_37 : decode cX5_setLink 37 = .ok (.if_icmp .ne 6, 3) := by decide +kernel
theorem dX5_setLink_40 : decode cX5_setLink 40 = .ok (.bipush (-5), 2) := by decide +kernel
theorem dX5_setLink_42 : decode cX5_setLink 42 = .ok (.ireturn, 1) := by decide +kernel
theorem dX5_setLink_43 : decode cX5_setLink 43 = .ok (.aload_n 0, 1) := by decide +kernel
theorem dX5_setLink_44 : decode cX5_setLink 44 = .ok (.getfield 11, 3) := by decide +kernel
theorem dX5_setLink_47 : decode cX5_setLink 47 = .ok (.iload_n 1, 1) := by decide +kernel
theorem dX5_setLink_48 : decode cX5_setLink 48 = .ok (.aaload, 1) := by decide +kernel
theorem dX5_setLink_49 : decode cX5_setLink 49 = .ok (.dup, 1) := by decide +kernel
theorem dX5_setLink_50 : decode cX5_setLink 50 = .ok (.getfield 74, 3) := by decide +kernel
theorem dX5_setLink_53 : decode cX5_setLink 53 = .ok (.iconst 1, 1) := by decide +kernel
theorem dX5_setLink_54 : decode cX5_setLink 54 = .ok (.iload_n 2, 1) := by decide +kernel
theorem dX5_setLink_55 : decode cX5_setLink 55 = .ok (.ishl, 1) := by decide +kernel
theorem dX5_setLink_56 : decode cX5_setLink 56 = .ok (.ixor, 1) := by decide +kernel
theorem dX5_setLink_57 : decode cX5_setLink 57 = .ok (.putfield 74, 3) := by decide +kernel
theorem dX5_setLink_60 : decode cX5_setLink 60 = .ok (.aload_n 0, 1) := by decide +kernel
theorem dX5_setLink_61 : decode cX5_setLink 61 = .ok (.getfield 11, 3) := by decide +kernel
theorem dX5_setLink_64 : decode cX5_setLink 64 = .ok (.iload_n 2, 1) := by decide +kernel
theorem dX5_setLink_65 : decode cX5_setLink 65 = .ok (.aaload, 1) := by decide +kernel
theorem dX5_setLink_66 : decode cX5_setLink 66 = .ok (.dup, 1) := by decide +kernel
theorem dX5_setLink_67 : decode cX5_setLink 67 = .ok (.getfield 74, 3) := by decide +kernel
theorem dX5_setLink_70 : decode cX5_setLink 70 = .ok (.iconst 1, 1) := by decide +kernel
theorem dX5_setLink_71 : decode cX5_setLink 71 = .ok (.iload_n 1, 1) := by decide +kernel
theorem dX5_setLink_72 : decode cX5_setLink 72 = .ok (.ishl, 1) := by decide +kernel
theorem dX5_setLink_73 : decode cX5_setLink 73 = .ok (.ixor, 1) := by decide +kernel
theorem dX5_setLink_74 : decode cX5_setLink 74 = .ok (.putfield 74, 3) := by decide +kernel
theorem dX5_setLink_77 : decode cX5_setLink 77 = .ok (.aload_n 0, 1) := by decide +kernel
theorem dX5_setLink_78 : decode cX5_setLink 78 = .ok (.getfield 11, 3) := by decide +kernel
theorem dX5_setLink_81 : decode cX5_setLink 81 = .ok (.iload_n 1, 1) := by decide +kernel
theorem dX5_setLink_82 : decode cX5_setLink 82 = .ok (.aaload, 1) := by decide +kernel
theorem dX5_setLink_83 : decode cX5_setLink 83 = .ok (.getfield 74, 3) := by decide +kernel
theorem dX5_setLink_86 : decode cX5_setLink 86 = .ok (.invokestatic 77, 3) := by decide +kernel
theorem dX5_setLink_89 : decode cX5_setLink 89 = .ok (.ireturn, 1) := by decide +kernel
theorem dX5_setBar_0 : decode cX5_setBar 0 = .ok (.iload_n 1, 1) := by decide +kernel
theorem dX5_setBar_1 : decode cX5_setBar 1 = .ok (.iconst 0, 1) := by decide +kernel
theorem dX5_setBar_2 : decode cX5_setBar 2 = .ok (.aload_n 0, 1) := by decide +kernel
theorem dX5_setBar_3 : decode cX5_setBar 3 = .ok (.getfield 29, 3) := by decide +kernel
theorem dX5_setBar_6 : decode cX5_setBar 6 = .ok (.arraylength, 1) := by decide +kernel
theorem dX5_setBar_7 : decode cX5_setBar 7 = .ok (.iconst 1, 1) := by decide +kernel
theorem dX5_setBar_8 : decode cX5_setBar 8 = .ok (.isub, 1) := by decide +kernel
theorem dX5_setBar_9 : decode cX5_setBar 9 = .ok (.invokestatic 59, 3) := by decide +kernel
theorem dX5_setBar_12 : decode cX5_setBar 12 = .ok (.ifCond .eq 18, 3) := by decide +kernel
theorem dX5_setBar_15 : decode cX5_setBar 15 = .ok (.iload_n 2, 1) := by decide +kernel
theorem dX5_setBar_16 : decode cX5_setBar 16 = .ok (.iconst 0, 1) := by decide +kernel
theorem dX5_setBar_17 : decode cX5_setBar 17 = .ok (.aload_n 0, 1) := by decide +kernel
theorem dX5_setBar_18 : decode cX5_setBar 18 = .ok (.getfield 29, 3) := by decide +kernel
theorem dX5_setBar_21 : decode cX5_setBar 21 = .ok (.arraylength, 1) := by decide +kernel
theorem dX5_setBar_22 : decode cX5_setBar 22 = .ok (.iconst 1, 1) := by decide +kernel
theorem dX5_setBar_23 : decode cX5_setBar 23 = .ok (.isub, 1) := by decide +kernel
theorem dX5_setBar_24 : decode cX5_setBar 24 = .ok (.invokestatic 59, 3) := by decide +kernel
theorem dX5_setBar_27 : decode cX5_setBar 27 = .ok (.ifCond .ne 6, 3) := by decide +kernel
theorem dX5_setBar_30 : decode cX5_setBar 30 = .ok (.bipush (-2), 2) := by decide +kernel
theorem dX5_setBar_32 : decode cX5_setBar 32 = .ok (.ireturn, 1) := by decide +kernel
theorem dX5_setBar_33 : decode cX5_setBar 33 = .ok (.aload_n 0, 1) := by decide +kernel
theorem dX5_setBar_34 : decode cX5_setBar 34 = .ok (.iload_n 1, 1) := by decide +kernel
theorem dX5_setBar_35 : decode cX5_setBar 35 = .ok (.iload_n 2, 1) := by decide +kernel
theorem dX5_setBar_36 : decode cX5_setBar 36 = .ok (.invokevirtual 83, 3) := by decide +kernel
theorem dX5_setBar_39 : decode cX5_setBar 39 = .ok (.iload_n 3, 1) := by decide +kernel
theorem dX5_setBar_40 : decode cX5_setBar 40 = .ok (.if_icmp .ne 6, 3) := by decide +kernel
theorem dX5_setBar_43 : decode cX5_setBar 43 = .ok (.bipush (-5), 2) := by decide +kernel
theorem dX5_setBar_45 : decode cX5_setBar 45 = .ok (.ireturn, 1) := by decide +kernel
theorem dX5_setBar_46 : decode cX5_setBar 46 = .ok (.aload_n 0, 1) := by decide +kernel
theorem dX5_setBar_47 : decode cX5_setBar 47 = .ok (.getfield 29, 3) := by decide +kernel
theorem dX5_setBar_50 : decode cX5_setBar 50 = .ok (.iload_n 1, 1) := by decide +kernel
theorem dX5_setBar_51 : decode cX5_setBar 51 = .ok (.dup2, 1) := by decide +kernel
theorem dX5_setBar_52 : decode cX5_setBar 52 = .ok (.iaload, 1) := by decide +kernel
theorem dX5_setBar_53 : decode cX5_setBar 53 = .ok (.iconst 1, 1) := by decide +kernel
theorem dX5_setBar_54 : decode cX5_setBar 54 = .ok (.iload_n 2, 1) := by decide +kernel
theorem dX5_setBar_55 : decode cX5_setBar 55 = .ok (.ishl, 1) := by decide +kernel
theorem dX5_setBar_56 : decode cX5_setBar 56 = .ok (.ixor, 1) := by decide +kernel
theorem dX5_setBar_57 : decode cX5_setBar 57 = .ok (.iastore, 1) := by decide +kernel
theorem dX5_setBar_58 : decode cX5_setBar 58 = .ok (.iload_n 1, 1) := by decide +kernel
theorem dX5_setBar_59 : decode cX5_setBar 59 = .ok (.iload_n 2, 1) := by decide +kernel
theorem dX5_setBar_60 : decode cX5_setBar 60 = .ok (.if_icmp .eq 15, 3) := by decide +kernel
theorem dX5_setBar_63 : decode cX5_setBar 63 = .ok (.aload_n 0, 1) := by decide +kernel
theorem dX5_setBar_64 : decode cX5_setBar 64 = .ok (.getfield 29, 3) := by decide +kernel
theorem dX5_setBar_67 : decode cX5_setBar 67 = .ok (.iload_n 2, 1) := by decide +kernel
theorem dX5_setBar_68 : decode cX5_setBar 68 = .ok (.dup2, 1) := by decide +kernel
theorem dX5_setBar_69 : decode cX5_setBar 69 = .ok (.iaload, 1) := by decide +kernel
theorem dX5_setBar_70 : decode cX5_setBar 70 = .ok (.iconst 1, 1) := by decide +kernel
theorem dX5_setBar_71 : decode cX5_setBar 71 = .ok (.iload_n 1, 1) := by decide +kernel
theorem dX5_setBar_72 : decode cX5_setBar 72 = .ok (.ishl, 1) := by decide +kernel
theorem dX5_setBar_73 : decode cX5_setBar 73 = .ok (.ixor, 1) := by decide +kernel
theorem dX5_setBar_74 : decode cX5_setBar 74 = .ok (.iastore, 1) := by decide +kernel
theorem dX5_setBar_75 : decode cX5_setBar 75 = .ok (.aload_n 0, 1) := by decide +kernel
theorem dX5_setBar_76 : decode cX5_setBar 76 = .ok (.getfield 29, 3) := by decide +kernel
theorem dX5_setBar_79 : decode cX5_setBar 79 = .ok (.iload_n 1, 1) := by decide +kernel
theorem dX5_setBar_80 : decode cX5_setBar 80 = .ok (.iaload, 1) := by decide +kernel
theorem dX5_setBar_81 : decode cX5_setBar 81 = .ok (.invokestatic 77, 3) := by decide +kernel
theorem dX5_setBar_84 : decode cX5_setBar 84 = .ok (.ireturn, 1) := by decide +kernel
theorem dX5_newCrew_0 : decode cX5_newCrew 0 = .ok (.iload_n 1, 1) := by decide +kernel
theorem dX5_newCrew_1 : decode cX5_newCrew 1 = .ok (.iconst 1, 1) := by decide +kernel
theorem dX5_newCrew_2 : decode cX5_newCrew 2 = .ok (.bipush 6, 2) := by decide +kernel
theorem dX5_newCrew_4 : decode cX5_newCrew 4 = .ok (.invokestatic 59, 3) := by decide +kernel
theorem dX5_newCrew_7 : decode cX5_newCrew 7 = .ok (.ifCond .eq 13, 3) := by decide +kernel
theorem dX5_newCrew_10 : decode cX5_newCrew 10 = .ok (.iload_n 2, 1) := by decide +kernel
theorem dX5_newCrew_11 : decode cX5_newCrew 11 = .ok (.iconst 0, 1) := by decide +kernel
theorem dX5_newCrew_12 : decode cX5_newCrew 12 = .ok (.bipush 15, 2) := by decide +kernel
theorem dX5_newCrew_14 : decode cX5_newCrew 14 = .ok (.invokestatic 59, 3) := by decide +kernel
theorem dX5_newCrew_17 : decode cX5_newCrew 17 = .ok (.ifCond .ne 6, 3) := by decide +kernel
theorem dX5_newCrew_20 : decode cX5_newCrew 20 = .ok (.bipush (-2), 2) := by decide +kernel
theorem dX5_newCrew_22 : decode cX5_newCrew 22 = .ok (.ireturn, 1) := by decide +kernel
theorem dX5_newCrew_23 : decode cX5_newCrew 23 = .ok (.aload_n 0, 1) := by decide +kernel
theorem dX5_newCrew_24 : decode cX5_newCrew 24 = .ok (.getfield 37, 3) := by decide +kernel
theorem dX5_newCrew_27 : decode cX5_newCrew 27 = .ok (.aload_n 0, 1) := by decide +kernel
theorem dX5_newCrew_28 : decode cX5_newCrew 28 = .ok (.getfield 19, 3) := by decide +kernel
theorem dX5_newCrew_31 : decode cX5_newCrew 31 = .ok (.arraylength, 1) := by decide +kernel
theorem dX5_newCrew_32 : decode cX5_newCrew 32 = .ok (.if_icmp .lt 6, 3) := by decide +kernel
theorem dX5_newCrew_35 : decode cX5_newCrew 35 = .ok (.bipush (-3), 2) := by decide +kernel
theorem dX5_newCrew_37 : decode cX5_newCrew 37 = .ok (.ireturn, 1) := by decide +kernel
theorem dX5_newCrew_38 : decode cX5_newCrew 38 = .ok (.aload_n 0, 1) := by decide +kernel
theorem dX5_newCrew_39 : decode cX5_newCrew 39 = .ok (.getfield 19, 3) := by decide +kernel
theorem dX5_newCrew_42 : decode cX5_newCrew 42 = .ok (.aload_n 0, 1) := by decide +kernel
theorem dX5_newCrew_43 : decode cX5_newCrew 43 = .ok (.getfield 37, 3) := by decide +kernel
theorem dX5_newCrew_46 : decode cX5_newCrew 46 = .ok (.aaload, 1) := by decide +kernel
theorem dX5_newCrew_47 : decode cX5_newCrew 47 = .ok (.iload_n 1, 1) := by decide +kernel
theorem dX5_newCrew_48 : decode cX5_newCrew 48 = .ok (.iload_n 2, 1) := by decide +kernel
theorem dX5_newCrew_49 : decode cX5_newCrew 49 = .ok (.invokevirtual 87, 3) := by decide +kernel
theorem dX5_newCrew_52 : decode cX5_newCrew 52 = .ok (.aload_n 0, 1) := by decide +kernel
theorem dX5_newCrew_53 : decode cX5_newCrew 53 = .ok (.dup, 1) := by decide +kernel
theorem dX5_newCrew_54 : decode cX5_newCrew 54 = .ok (.getfield 37, 3) := by decide +kernel
theorem dX5_newCrew_57 : decode cX5_newCrew 57 = .ok (.iconst 1, 1) := by decide +kernel
theorem dX5_newCrew_58 : decode cX5_newCrew 58 = .ok (.iadd, 1) := by decide +kernel
theorem dX5_newCrew_59 : decode cX5_newCrew 59 = .ok (.putfield 37, 3) := by decide +kernel
theorem dX5_newCrew_62 : decode cX5_newCrew 62 = .ok (.aload_n 0, 1) := by decide +kernel
theorem dX5_newCrew_63 : decode cX5_newCrew 63 = .ok (.getfield 37, 3) := by decide +kernel
theorem dX5_newCrew_66 : decode cX5_newCrew 66 = .ok (.iconst 1, 1) := by decide +kernel
theorem dX5_newCrew_67 : decode cX5_newCrew 67 = .ok (.isub, 1) := by decide +kernel
theorem dX5_newCrew_68 : decode cX5_newCrew 68 = .ok (.ireturn, 1) := by decide +kernel
theorem dX5_newTask_0 : decode cX5_newTask 0 = .ok (.aload_n 0, 1) := by decide +kernel
theorem dX5_newTask_1 : decode cX5_newTask 1 = .ok (.iload_n 1, 1) := by decide +kernel
theorem dX5_newTask_2 : decode cX5_newTask 2 = .ok (.invokevirtual 67, 3) := by decide +kernel
theorem dX5_newTask_5 : decode cX5_newTask 5 = .ok (.ifCond .ne 5, 3) := by decide +kernel
theorem dX5_newTask_8 : decode cX5_newTask 8 = .ok (.iconst (-1), 1) := by decide +kernel
theorem dX5_newTask_9 : decode cX5_newTask 9 = .ok (.ireturn, 1) := by decide +kernel
theorem dX5_newTask_10 : decode cX5_newTask 10 = .ok (.iload_n 2, 1) := by decide +kernel
theorem dX5_newTask_11 : decode cX5_newTask 11 = .ok (.iconst 0, 1) := by decide +kernel
theorem dX5_newTask_12 : decode cX5_newTask 12 = .ok (.iconst 3, 1) := by decide +kernel
theorem dX5_newTask_13 : decode cX5_newTask 13 = .ok (.invokestatic 59, 3) := by decide +kernel
theorem dX5_newTask_16 : decode cX5_newTask 16 = .ok (.ifCond .eq 49, 3) := by decide +kernel
theorem dX5_newTask_19 : decode cX5_newTask 19 = .ok (.iload_n 3, 1) := by decide +kernel
theorem dX5_newTask_20 : decode cX5_newTask 20 = .ok (.iconst 1, 1) := by decide +kernel
theorem dX5_newTask_21 : decode cX5_newTask 21 = .ok (.bipush 6, 2) := by decide +kernel
theorem dX5_newTask_23 : decode cX5_newTask 23 = .ok (.invokestatic 59, 3) := by decide +kernel
theorem dX5_newTask_26 : decode cX5_newTask 26 = .ok (.ifCond .eq 39, 3) := by decide +kernel
theorem dX5_newTask_29 : decode cX5_newTask 29 = .ok (.iload 4, 2) := by decide +kernel
theorem dX5_newTask_31 : decode cX5_newTask 31 = .ok (.iconst 0, 1) := by decide +kernel
theorem dX5_newTask_32 : decode cX5_newTask 32 = .ok (.iconst 4, 1) := by decide +kernel
theorem dX5_newTask_33 : decode cX5_newTask 33 = .ok (.invokestatic 59, 3) := by decide +kernel
theorem dX5_newTask_36 : decode cX5_newTask 36 = .ok (.ifCond .eq 29, 3) := by decide +kernel
theorem dX5_newTask_39 : decode cX5_newTask 39 = .ok (.iload 5, 2) := by decide +kernel
theorem dX5_newTask_41 : decode cX5_newTask 41 = .ok (.iconst 1, 1) := by decide +kernel
theorem dX5_newTask_42 : decode cX5_newTask 42 = .ok (.bipush 48, 2) := by decide +kernel
theorem dX5_newTask_44 : decode cX5_newTask 44 = .ok (.invokestatic 59, 3) := by decide +kernel
theorem dX5_newTask_47 : decode cX5_newTask 47 = .ok (.ifCond .eq 18, 3) := by decide +kernel
theorem dX5_newTask_50 : decode cX5_newTask 50 = .ok (.iload 6, 2) := by decide +kernel
theorem dX5_newTask_52 : decode cX5_newTask 52 = .ok (.aload_n 0, 1) := by decide +kernel
theorem dX5_newTask_53 : decode cX5_newTask 53 = .ok (.getfield 43, 3) := by decide +kernel
theorem dX5_newTask_56 : decode cX5_newTask 56 = .ok (.sipush 2000, 3) := by decide +kernel
theorem dX5_newTask_59 : decode cX5_newTask 59 = .ok (.invokestatic 59, 3) := by decide +kernel
theorem dX5_newTask_62 : decode cX5_newTask 62 = .ok (.ifCond .ne 6, 3) := by decide +kernel
theorem dX5_newTask_65 : decode cX5_newTask 65 = .ok (.bipush (-2), 2) := by decide +kernel
theorem dX5_newTask_67 : decode cX5_newTask 67 = .ok (.ireturn, 1) := by decide +kernel
theorem dX5_newTask_68 : decode cX5_newTask 68 = .ok (.aload_n 0, 1) := by decide +kernel
theorem dX5_newTask_69 : decode cX5_newTask 69 = .ok (.getfield 40, 3) := by decide +kernel
theorem dX5_newTask_72 : decode cX5_newTask 72 = .ok (.aload_n 0, 1) := by decide +kernel
theorem dX5_newTask_73 : decode cX5_newTask 73 = .ok (.getfield 25, 3) := by decide +kernel
theorem dX5_newTask_76 : decode cX5_newTask 76 = .ok (.arraylength, 1) := by decide +kernel
theorem dX5_newTask_77 : decode cX5_newTask 77 = .ok (.if_icmp .lt 6, 3) := by decide +kernel
theorem dX5_newTask_80 : decode cX5_newTask 80 = .ok (.bipush (-3), 2) := by decide +kernel
theorem dX5_newTask_82 : decode cX5_newTask 82 = .ok (.ireturn, 1) := by decide +kernel
theorem dX5_newTask_83 : decode cX5_newTask 83 = .ok (.aload_n 0, 1) := by decide +kernel
theorem dX5_newTask_84 : decode cX5_newTask 84 = .ok (.getfield 25, 3) := by decide +kernel
theorem dX5_newTask_87 : decode cX5_newTask 87 = .ok (.aload_n 0, 1) := by decide +kernel
theorem dX5_newTask_88 : decode cX5_newTask 88 = .ok (.getfield 40, 3) := by decide +kernel
theorem dX5_newTask_91 : decode cX5_newTask 91 = .ok (.aaload, 1) := by decide +kernel
theorem dX5_newTask_92 : decode cX5_newTask 92 = .ok (.iload_n 1, 1) := by decide +kernel
theorem dX5_newTask_93 : decode cX5_newTask 93 = .ok (.iload_n 2, 1) := by decide +kernel
theorem dX5_newTask_94 : decode cX5_newTask 94 = .ok (.iload_n 3, 1) := by decide +kernel
theorem dX5_newTask_95 : decode cX5_newTask 95 = .ok (.iload 4, 2) := by decide +kernel
theorem dX5_newTask_97 : decode cX5_newTask 97 = .ok (.iload 5, 2) := by decide +kernel
theorem dX5_newTask_99 : decode cX5_newTask 99 = .ok (.iload 6, 2) := by decide +kernel
theorem dX5_newTask_101 : decode cX5_newTask 101 = .ok (.invokevirtual 88, 3) := by decide +kernel
theorem dX5_newTask_104 : decode cX5_newTask 104 = .ok (.aload_n 0, 1) := by decide +kernel
theorem dX5_newTask_105 : decode cX5_newTask 105 = .ok (.dup, 1) := by decide +kernel
theorem dX5_newTask_106 : decode cX5_newTask 106 = .ok (.getfield 40, 3) := by decide +kernel
theorem dX5_newTask_109 : decode cX5_newTask 109 = .ok (.iconst 1, 1) := by decide +kernel
theorem dX5_newTask_110 : decode cX5_newTask 110 = .ok (.iadd, 1) := by decide +kernel
theorem dX5_newTask_111 : decode cX5_newTask 111 = .ok (.putfield 40, 3) := by decide +kernel
theorem dX5_newTask_114 : decode cX5_newTask 114 = .ok (.aload_n 0, 1) := by decide +kernel
theorem dX5_newTask_115 : decode cX5_newTask 115 = .ok (.getfield 40, 3) := by decide +kernel
theorem dX5_newTask_118 : decode cX5_newTask 118 = .ok (.iconst 1, 1) := by decide +kernel
theorem dX5_newTask_119 : decode cX5_newTask 119 = .ok (.isub, 1) := by decide +kernel
theorem dX5_newTask_120 : decode cX5_newTask 120 = .ok (.ireturn, 1) := by decide +kernel
theorem dX5_startAsset_0 : decode cX5_startAsset 0 = .ok (.aload_n 0, 1) := by decide +kernel
theorem dX5_startAsset_1 : decode cX5_startAsset 1 = .ok (.iload_n 1, 1) := by decide +kernel
theorem dX5_startAsset_2 : decode cX5_startAsset 2 = .ok (.invokevirtual 67, 3) := by decide +kernel
theorem dX5_startAsset_5 : decode cX5_startAsset 5 = .ok (.ifCond .ne 5, 3) := by decide +kernel
theorem dX5_startAsset_8 : decode cX5_startAsset 8 = .ok (.iconst (-1), 1) := by decide +kernel
theorem dX5_startAsset_9 : decode cX5_startAsset 9 = .ok (.ireturn, 1) := by decide +kernel
theorem dX5_startAsset_10 : decode cX5_startAsset 10 = .ok (.aload_n 0, 1) := by decide +kernel
theorem dX5_startAsset_11 : decode cX5_startAsset 11 = .ok (.iload_n 1, 1) := by decide +kernel
theorem dX5_startAsset_12 : decode cX5_startAsset 12 = .ok (.invokevirtual 91, 3) := by decide +kernel
theorem dX5_startAsset_15 : decode cX5_startAsset 15 = .ok (.ifCond .le 6, 3) := by decide +kernel
theorem dX5_startAsset_18 : decode cX5_startAsset 18 = .ok (.bipush (-4), 2) := by decide +kernel
theorem dX5_startAsset_20 : decode cX5_startAsset 20 = .ok (.ireturn, 1) := by decide +kernel
theorem dX5_startAsset_21 : decode cX5_startAsset 21 = .ok (.aload_n 0, 1) := by decide +kernel
theorem dX5_startAsset_22 : decode cX5_startAsset 22 = .ok (.getfield 11, 3) := by decide +kernel
theorem dX5_startAsset_25 : decode cX5_startAsset 25 = .ok (.iload_n 1, 1) := by decide +kernel
theorem dX5_startAsset_26 : decode cX5_startAsset 26 = .ok (.aaload, 1) := by decide +kernel
theorem dX5_startAsset_27 : decode cX5_startAsset 27 = .ok (.getfield 94, 3) := by decide +kernel
theorem dX5_startAsset_30 : decode cX5_startAsset 30 = .ok (.ifCond .eq 6, 3) := by decide +kernel
theorem dX5_startAsset_33 : decode cX5_startAsset 33 = .ok (.bipush (-5), 2) := by decide +kernel
theorem dX5_startAsset_35 : decode cX5_startAsset 35 = .ok (.ireturn, 1) := by decide +kernel
theorem dX5_startAsset_36 : decode cX5_startAsset 36 = .ok (.aload_n 0, 1) := by decide +kernel
theorem dX5_startAsset_37 : decode cX5_startAsset 37 = .ok (.getfield 11, 3) := by decide +kernel
theorem dX5_startAsset_40 : decode cX5_startAsset 40 = .ok (.iload_n 1, 1) := by decide +kernel
theorem dX5_startAsset_41 : decode cX5_startAsset 41 = .ok (.aaload, 1) := by decide +kernel
theorem dX5_startAsset_42 : decode cX5_startAsset 42 = .ok (.iconst 1, 1) := by decide +kernel
theorem dX5_startAsset_43 : decode cX5_startAsset 43 = .ok (.putfield 94, 3) := by decide +kernel
theorem dX5_startAsset_46 : decode cX5_startAsset 46 = .ok (.aload_n 0, 1) := by decide +kernel
theorem dX5_startAsset_47 : decode cX5_startAsset 47 = .ok (.invokevirtual 98, 3) := by decide +kernel
theorem dX5_startAsset_50 : decode cX5_startAsset 50 = .ok (.ireturn, 1) := by decide +kernel
theorem dX5_stopAsset_0 : decode cX5_stopAsset 0 = .ok (.aload_n 0, 1) := by decide +kernel
theorem dX5_stopAsset_1 : decode cX5_stopAsset 1 = .ok (.iload_n 1, 1) := by decide +kernel
theorem dX5_stopAsset_2 : decode cX5_stopAsset 2 = .ok (.invokevirtual 67, 3) := by decide +kernel
theorem dX5_stopAsset_5 : decode cX5_stopAsset 5 = .ok (.ifCond .ne 5, 3) := by decide +kernel
theorem dX5_stopAsset_8 : decode cX5_stopAsset 8 = .ok (.iconst (-1), 1) := by decide +kernel
theorem dX5_stopAsset_9 : decode cX5_stopAsset 9 = .ok (.ireturn, 1) := by decide +kernel
theorem dX5_stopAsset_10 : decode cX5_stopAsset 10 = .ok (.aload_n 0, 1) := by decide +kernel
theorem dX5_stopAsset_11 : decode cX5_stopAsset 11 = .ok (.getfield 11, 3) := by decide +kernel
theorem dX5_stopAsset_14 : decode cX5_stopAsset 14 = .ok (.iload_n 1, 1) := by decide +kernel
theorem dX5_stopAsset_15 : decode cX5_stopAsset 15 = .ok (.aaload, 1) := by decide +kernel
theorem dX5_stopAsset_16 : decode cX5_stopAsset 16 = .ok (.getfield 94, 3) := by decide +kernel
theorem dX5_stopAsset_19 : decode cX5_stopAsset 19 = .ok (.ifCond .ne 6, 3) := by decide +kernel
theorem dX5_stopAsset_22 : decode cX5_stopAsset 22 = .ok (.bipush (-5), 2) := by decide +kernel
theorem dX5_stopAsset_24 : decode cX5_stopAsset 24 = .ok (.ireturn, 1) := by decide +kernel
theorem dX5_stopAsset_25 : decode cX5_stopAsset 25 = .ok (.aload_n 0, 1) := by decide +kernel
theorem dX5_stopAsset_26 : decode cX5_stopAsset 26 = .ok (.getfield 11, 3) := by decide +kernel
theorem dX5_stopAsset_29 : decode cX5_stopAsset 29 = .ok (.iload_n 1, 1) := by decide +kernel
theorem dX5_stopAsset_30 : decode cX5_stopAsset 30 = .ok (.aaload, 1) := by decide +kernel
theorem dX5_stopAsset_31 : decode cX5_stopAsset 31 = .ok (.iconst 0, 1) := by decide +kernel
theorem dX5_stopAsset_32 : decode cX5_stopAsset 32 = .ok (.putfield 94, 3) := by decide +kernel
theorem dX5_stopAsset_35 : decode cX5_stopAsset 35 = .ok (.aload_n 0, 1) := by decide +kernel
theorem dX5_stopAsset_36 : decode cX5_stopAsset 36 = .ok (.invokevirtual 98, 3) := by decide +kernel
theorem dX5_stopAsset_39 : decode cX5_stopAsset 39 = .ok (.ireturn, 1) := by decide +kernel
theorem dX5_hangTag_0 : decode cX5_hangTag 0 = .ok (.aload_n 0, 1) := by decide +kernel
theorem dX5_hangTag_1 : decode cX5_hangTag 1 = .ok (.iload_n 1, 1) := by decide +kernel
theorem dX5_hangTag_2 : decode cX5_hangTag 2 = .ok (.invokevirtual 102, 3) := by decide +kernel
theorem dX5_hangTag_5 : decode cX5_hangTag 5 = .ok (.ifCond .eq 11, 3) := by decide +kernel
theorem dX5_hangTag_8 : decode cX5_hangTag 8 = .ok (.aload_n 0, 1) := by decide +kernel
theorem dX5_hangTag_9 : decode cX5_hangTag 9 = .ok (.iload_n 2, 1) := by decide +kernel
theorem dX5_hangTag_10 : decode cX5_hangTag 10 = .ok (.invokevirtual 105, 3) := by decide +kernel
theorem dX5_hangTag_13 : decode cX5_hangTag 13 = .ok (.ifCond .ne 5, 3) := by decide +kernel
theorem dX5_hangTag_16 : decode cX5_hangTag 16 = .ok (.iconst (-1), 1) := by decide +kernel
theorem dX5_hangTag_17 : decode cX5_hangTag 17 = .ok (.ireturn, 1) := by decide +kernel
theorem dX5_hangTag_18 : decode cX5_hangTag 18 = .ok (.aload_n 0, 1) := by decide +kernel
theorem dX5_hangTag_19 : decode cX5_hangTag 19 = .ok (.getfield 25, 3) := by decide +kernel
theorem dX5_hangTag_22 : decode cX5_hangTag 22 = .ok (.iload_n 1, 1) := by decide +kernel
theorem dX5_hangTag_23 : decode cX5_hangTag 23 = .ok (.aaload, 1) := by decide +kernel
theorem dX5_hangTag_24 : decode cX5_hangTag 24 = .ok (.astore_n 3, 1) := by decide +kernel
theorem dX5_hangTag_25 : decode cX5_hangTag 25 = .ok (.aload_n 3, 1) := by decide +kernel
theorem dX5_hangTag_26 : decode cX5_hangTag 26 = .ok (.getfield 108, 3) := by decide +kernel
theorem dX5_hangTag_29 : decode cX5_hangTag 29 = .ok (.ifCond .ne 23, 3) := by decide +kernel
theorem dX5_hangTag_32 : decode cX5_hangTag 32 = .ok (.aload_n 0, 1) := by decide +kernel
theorem dX5_hangTag_33 : decode cX5_hangTag 33 = .ok (.aload_n 3, 1) := by decide +kernel
theorem dX5_hangTag_34 : decode cX5_hangTag 34 = .ok (.getfield 111, 3) := by decide +kernel
theorem dX5_hangTag_37 : decode cX5_hangTag 37 = .ok (.invokevirtual 114, 3) := by decide +kernel
theorem dX5_hangTag_40 : decode cX5_hangTag 40 = .ok (.ifCond .ne 12, 3) := by decide +kernel
theorem dX5_hangTag_43 : decode cX5_hangTag 43 = .ok (.aload_n 0, 1) := by decide +kernel
theorem dX5_hangTag_44 : decode cX5_hangTag 44 = .ok (.iload_n 2, 1) := by decide +kernel
theorem dX5_hangTag_45 : decode cX5_hangTag 45 = .ok (.aload_n 3, 1) := by decide +kernel
theorem dX5_hangTag_46 : decode cX5_hangTag 46 = .ok (.invokevirtual 117, 3) := by decide +kernel
theorem dX5_hangTag_49 : decode cX5_hangTag 49 = .ok (.ifCond .ne 6, 3) := by decide +kernel
theorem dX5_hangTag_52 : decode cX5_hangTag 52 = .ok (.bipush (-4), 2) := by decide +kernel
theorem dX5_hangTag_54 : decode cX5_hangTag 54 = .ok (.ireturn, 1) := by decide +kernel
theorem dX5_hangTag_55 : decode cX5_hangTag 55 = .ok (.aload_n 3, 1) := by decide +kernel
theorem dX5_hangTag_56 : decode cX5_hangTag 56 = .ok (.aload_n 0, 1) := by decide +kernel
theorem dX5_hangTag_57 : decode cX5_hangTag 57 = .ok (.aload_n 3, 1) := by decide +kernel
theorem dX5_hangTag_58 : decode cX5_hangTag 58 = .ok (.getfield 111, 3) := by decide +kernel
theorem dX5_hangTag_61 : decode cX5_hangTag 61 = .ok (.invokevirtual 91, 3) := by decide +kernel
theorem dX5_hangTag_64 : decode cX5_hangTag 64 = .ok (.putfield 121, 3) := by decide +kernel
theorem dX5_hangTag_67 : decode cX5_hangTag 67 = .ok (.aload_n 3, 1) := by decide +kernel
theorem dX5_hangTag_68 : decode cX5_hangTag 68 = .ok (.iconst 1, 1) := by decide +kernel
theorem dX5_hangTag_69 : decode cX5_hangTag 69 = .ok (.putfield 108, 3) := by decide +kernel
theorem dX5_hangTag_72 : decode cX5_hangTag 72 = .ok (.aload_n 3, 1) := by decide +kernel
theorem dX5_hangTag_73 : decode cX5_hangTag 73 = .ok (.iload_n 2, 1) := by decide +kernel
theorem dX5_hangTag_74 : decode cX5_hangTag 74 = .ok (.putfield 124, 3) := by decide +kernel
theorem dX5_hangTag_77 : decode cX5_hangTag 77 = .ok (.aload_n 3, 1) := by decide +kernel
theorem dX5_hangTag_78 : decode cX5_hangTag 78 = .ok (.getfield 121, 3) := by decide +kernel
theorem dX5_hangTag_81 : decode cX5_hangTag 81 = .ok (.iconst 1, 1) := by decide +kernel
theorem dX5_hangTag_82 : decode cX5_hangTag 82 = .ok (.iadd, 1) := by decide +kernel
theorem dX5_hangTag_83 : decode cX5_hangTag 83 = .ok (.ireturn, 1) := by decide +kernel
theorem dX5_beginTask_0 : decode cX5_beginTask 0 = .ok (.aload_n 0, 1) := by decide +kernel
theorem dX5_beginTask_1 : decode cX5_beginTask 1 = .ok (.iload_n 1, 1) := by decide +kernel
theorem dX5_beginTask_2 : decode cX5_beginTask 2 = .ok (.invokevirtual 102, 3) := by decide +kernel
theorem dX5_beginTask_5 : decode cX5_beginTask 5 = .ok (.ifCond .ne 5, 3) := by decide +kernel
theorem dX5_beginTask_8 : decode cX5_beginTask 8 = .ok (.iconst (-1), 1) := by decide +kernel
theorem dX5_beginTask_9 : decode cX5_beginTask 9 = .ok (.ireturn, 1) := by decide +kernel
theorem dX5_beginTask_10 : decode cX5_beginTask 10 = .ok (.aload_n 0, 1) := by decide +kernel
theorem dX5_beginTask_11 : decode cX5_beginTask 11 = .ok (.iload_n 1, 1) := by decide +kernel
theorem dX5_beginTask_12 : decode cX5_beginTask 12 = .ok (.invokevirtual 127, 3) := by decide +kernel
theorem dX5_beginTask_15 : decode cX5_beginTask 15 = .ok (.ifCond .eq 6, 3) := by decide +kernel
theorem dX5_beginTask_18 : decode cX5_beginTask 18 = .ok (.bipush (-4), 2) := by decide +kernel
theorem dX5_beginTask_20 : decode cX5_beginTask 20 = .ok (.ireturn, 1) := by decide +kernel
theorem dX5_beginTask_21 : decode cX5_beginTask 21 = .ok (.aload_n 0, 1) := by decide +kernel
theorem dX5_beginTask_22 : decode cX5_beginTask 22 = .ok (.getfield 25, 3) := by decide +kernel
theorem dX5_beginTask_25 : decode cX5_beginTask 25 = .ok (.iload_n 1, 1) := by decide +kernel
theorem dX5_beginTask_26 : decode cX5_beginTask 26 = .ok (.aaload, 1) := by decide +kernel
theorem dX5_beginTask_27 : decode cX5_beginTask 27 = .ok (.astore_n 2, 1) := by decide +kernel
theorem dX5_beginTask_28 : decode cX5_beginTask 28 = .ok (.aload_n 2, 1) := by decide +kernel
theorem dX5_beginTask_29 : decode cX5_beginTask 29 = .ok (.iconst 2, 1) := by decide +kernel
theorem dX5_beginTask_30 : decode cX5_beginTask 30 = .ok (.putfield 108, 3) := by decide +kernel
theorem dX5_beginTask_33 : decode cX5_beginTask 33 = .ok (.aload_n 2, 1) := by decide +kernel
theorem dX5_beginTask_34 : decode cX5_beginTask 34 = .ok (.aload_n 2, 1) := by decide +kernel
theorem dX5_beginTask_35 : decode cX5_beginTask 35 = .ok (.getfield 130, 3) := by decide +kernel
theorem dX5_beginTask_38 : decode cX5_beginTask 38 = .ok (.putfield 133, 3) := by decide +kernel
theorem dX5_beginTask_41 : decode cX5_beginTask 41 = .ok (.aload_n 0, 1) := by decide +kernel
theorem dX5_beginTask_42 : decode cX5_beginTask 42 = .ok (.getfield 43, 3) := by decide +kernel
theorem dX5_beginTask_45 : decode cX5_beginTask 45 = .ok (.aload_n 2, 1) := by decide +kernel
theorem dX5_beginTask_46 : decode cX5_beginTask 46 = .ok (.getfield 130, 3) := by decide +kernel
theorem dX5_beginTask_49 : decode cX5_beginTask 49 = .ok (.iadd, 1) := by decide +kernel
theorem dX5_beginTask_50 : decode cX5_beginTask 50 = .ok (.ireturn, 1) := by decide +kernel
theorem dX5_liftTag_0 : decode cX5_liftTag 0 = .ok (.aload_n 0, 1) := by decide +kernel
theorem dX5_liftTag_1 : decode cX5_liftTag 1 = .ok (.iload_n 1, 1) := by decide +kernel
theorem dX5_liftTag_2 : decode cX5_liftTag 2 = .ok (.invokevirtual 102, 3) := by decide +kernel
theorem dX5_liftTag_5 : decode cX5_liftTag 5 = .ok (.ifCond .eq 11, 3) := by decide +kernel
theorem dX5_liftTag_8 : decode cX5_liftTag 8 = .ok (.aload_n 0, 1) := by decide +kernel
theorem dX5_liftTag_9 : decode cX5_liftTag 9 = .ok (.iload_n 2, 1) := by decide +kernel
theorem dX5_liftTag_10 : decode cX5_liftTag 10 = .ok (.invokevirtual 105, 3) := by decide +kernel
theorem dX5_liftTag_13 : decode cX5_liftTag 13 = .ok (.ifCond .ne 5, 3) := by decide +kernel
theorem dX5_liftTag_16 : decode cX5_liftTag 16 = .ok (.iconst (-1), 1) := by decide +kernel
theorem dX5_liftTag_17 : decode cX5_liftTag 17 = .ok (.ireturn, 1) := by decide +kernel
theorem dX5_liftTag_18 : decode cX5_liftTag 18 = .ok (.aload_n 0, 1) := by decide +kernel
theorem dX5_liftTag_19 : decode cX5_liftTag 19 = .ok (.getfield 25, 3) := by decide +kernel
theorem dX5_liftTag_22 : decode cX5_liftTag 22 = .ok (.iload_n 1, 1) := by decide +kernel
theorem dX5_liftTag_23 : decode cX5_liftTag 23 = .ok (.aaload, 1) := by decide +kernel
theorem dX5_liftTag_24 : decode cX5_liftTag 24 = .ok (.astore_n 3, 1) := by decide +kernel
theorem dX5_liftTag_25 : decode cX5_liftTag 25 = .ok (.aload_n 3, 1) := by decide +kernel
theorem dX5_liftTag_26 : decode cX5_liftTag 26 = .ok (.getfield 108, 3) := by decide +kernel
theorem dX5_liftTag_29 : decode cX5_liftTag 29 = .ok (.iconst 1, 1) := by decide +kernel
theorem dX5_liftTag_30 : decode cX5_liftTag 30 = .ok (.if_icmp .eq 14, 3) := by decide +kernel
theorem dX5_liftTag_33 : decode cX5_liftTag 33 = .ok (.aload_n 3, 1) := by decide +kernel
theorem dX5_liftTag_34 : decode cX5_liftTag 34 = .ok (.getfield 108, 3) := by decide +kernel
theorem dX5_liftTag_37 : decode cX5_liftTag 37 = .ok (.iconst 3, 1) := by decide +kernel
theorem dX5_liftTag_38 : decode cX5_liftTag 38 = .ok (.if_icmp .eq 6, 3) := by decide +kernel
theorem dX5_liftTag_41 : decode cX5_liftTag 41 = .ok (.bipush (-4), 2) := by decide +kernel
theorem dX5_liftTag_43 : decode cX5_liftTag 43 = .ok (.ireturn, 1) := by decide +kernel
theorem dX5_liftTag_44 : decode cX5_liftTag 44 = .ok (.aload_n 3, 1) := by decide +kernel
theorem dX5_liftTag_45 : decode cX5_liftTag 45 = .ok (.getfield 124, 3) := by decide +kernel
theorem dX5_liftTag_48 : decode cX5_liftTag 48 = .ok (.iload_n 2, 1) := by decide +kernel
theorem dX5_liftTag_49 : decode cX5_liftTag 49 = .ok (.if_icmp .ne 16, 3) := by decide +kernel
theorem dX5_liftTag_52 : decode cX5_liftTag 52 = .ok (.aload_n 0, 1) := by decide +kernel
theorem dX5_liftTag_53 : decode cX5_liftTag 53 = .ok (.aload_n 3, 1) := by decide +kernel
theorem dX5_liftTag_54 : decode cX5_liftTag 54 = .ok (.getfield 111, 3) := by decide +kernel
theorem dX5_liftTag_57 : decode cX5_liftTag 57 = .ok (.iconst 0, 1) := by decide +kernel
theorem dX5_liftTag_58 : decode cX5_liftTag 58 = .ok (.invokevirtual 136, 3) := by decide +kernel
theorem dX5_liftTag_61 : decode cX5_liftTag 61 = .ok (.iload_n 1, 1) := by decide +kernel
theorem dX5_liftTag_62 : decode cX5_liftTag 62 = .ok (.if_icmp .eq 6, 3) := by decide +kernel
theorem dX5_liftTag_65 : decode cX5_liftTag 65 = .ok (.bipush (-4), 2) := by decide +kernel
theorem dX5_liftTag_67 : decode cX5_liftTag 67 = .ok (.ireturn, 1) := by decide +kernel
theorem dX5_liftTag_68 : decode cX5_liftTag 68 = .ok (.aload_n 3, 1) := by decide +kernel
theorem dX5_liftTag_69 : decode cX5_liftTag 69 = .ok (.getfield 108, 3) := by decide +kernel
theorem dX5_liftTag_72 : decode cX5_liftTag 72 = .ok (.iconst 3, 1) := by decide +kernel
theorem dX5_liftTag_73 : decode cX5_liftTag 73 = .ok (.if_icmp .ne 11, 3) := by decide +kernel
theorem dX5_liftTag_76 : decode cX5_liftTag 76 = .ok (.aload_n 3, 1) := by decide +kernel
theorem dX5_liftTag_77 : decode cX5_liftTag 77 = .ok (.iconst 4, 1) := by decide +kernel
theorem dX5_liftTag_78 : decode cX5_liftTag 78 = .ok (.putfield 108, 3) := by decide +kernel
theorem dX5_liftTag_81 : decode cX5_liftTag 81 = .ok (.goto 14, 3) := by decide +kernel
theorem dX5_liftTag_84 : decode cX5_liftTag 84 = .ok (.aload_n 3, 1) := by decide +kernel
theorem dX5_liftTag_85 : decode cX5_liftTag 85 = .ok (.iconst 0, 1) := by decide +kernel
theorem dX5_liftTag_86 : decode cX5_liftTag 86 = .ok (.putfield 108, 3) := by decide +kernel
theorem dX5_liftTag_89 : decode cX5_liftTag 89 = .ok (.aload_n 3, 1) := by decide +kernel
theorem dX5_liftTag_90 : decode cX5_liftTag 90 = .ok (.bipush (-5), 2) := by decide +kernel
theorem dX5_liftTag_92 : decode cX5_liftTag 92 = .ok (.putfield 124, 3) := by decide +kernel
theorem dX5_liftTag_95 : decode cX5_liftTag 95 = .ok (.aload_n 0, 1) := by decide +kernel
theorem dX5_liftTag_96 : decode cX5_liftTag 96 = .ok (.aload_n 3, 1) := by decide +kernel
theorem dX5_liftTag_97 : decode cX5_liftTag 97 = .ok (.getfield 111, 3) := by decide +kernel
theorem dX5_liftTag_100 : decode cX5_liftTag 100 = .ok (.invokevirtual 91, 3) := by decide +kernel
theorem dX5_liftTag_103 : decode cX5_liftTag 103 = .ok (.ireturn, 1) := by decide +kernel
theorem dX5_cancelTask_0 : decode cX5_cancelTask 0 = .ok (.aload_n 0, 1) := by decide +kernel
theorem dX5_cancelTask_1 : decode cX5_cancelTask 1 = .ok (.iload_n 1, 1) := by decide +kernel
theorem dX5_cancelTask_2 : decode cX5_cancelTask 2 = .ok (.invokevirtual 102, 3) := by decide +kernel
theorem dX5_cancelTask_5 : decode cX5_cancelTask 5 = .ok (.ifCond .ne 5, 3) := by decide +kernel
theorem dX5_cancelTask_8 : decode cX5_cancelTask 8 = .ok (.iconst (-1), 1) := by decide +kernel
theorem dX5_cancelTask_9 : decode cX5_cancelTask 9 = .ok (.ireturn, 1) := by decide +kernel
theorem dX5_cancelTask_10 : decode cX5_cancelTask 10 = .ok (.aload_n 0, 1) := by decide +kernel
theorem dX5_cancelTask_11 : decode cX5_cancelTask 11 = .ok (.getfield 25, 3) := by decide +kernel
theorem dX5_cancelTask_14 : decode cX5_cancelTask 14 = .ok (.iload_n 1, 1) := by decide +kernel
theorem dX5_cancelTask_15 : decode cX5_cancelTask 15 = .ok (.aaload, 1) := by decide +kernel
theorem dX5_cancelTask_16 : decode cX5_cancelTask 16 = .ok (.getfield 108, 3) := by decide +kernel
theorem dX5_cancelTask_19 : decode cX5_cancelTask 19 = .ok (.ifCond .eq 6, 3) := by decide +kernel
theorem dX5_cancelTask_22 : decode cX5_cancelTask 22 = .ok (.bipush (-4), 2) := by decide +kernel
theorem dX5_cancelTask_24 : decode cX5_cancelTask 24 = .ok (.ireturn, 1) := by decide +kernel
theorem dX5_cancelTask_25 : decode cX5_cancelTask 25 = .ok (.aload_n 0, 1) := by decide +kernel
theorem dX5_cancelTask_26 : decode cX5_cancelTask 26 = .ok (.getfield 25, 3) := by decide +kernel
theorem dX5_cancelTask_29 : decode cX5_cancelTask 29 = .ok (.iload_n 1, 1) := by decide +kernel
theorem dX5_cancelTask_30 : decode cX5_cancelTask 30 = .ok (.aaload, 1) := by decide +kernel
theorem dX5_cancelTask_31 : decode cX5_cancelTask 31 = .ok (.bipush 6, 2) := by decide +kernel
theorem dX5_cancelTask_33 : decode cX5_cancelTask 33 = .ok (.putfield 108, 3) := by decide +kernel
theorem dX5_cancelTask_36 : decode cX5_cancelTask 36 = .ok (.aload_n 0, 1) := by decide +kernel
theorem dX5_cancelTask_37 : decode cX5_cancelTask 37 = .ok (.getfield 25, 3) := by decide +kernel
theorem dX5_cancelTask_40 : decode cX5_cancelTask 40 = .ok (.iload_n 1, 1) := by decide +kernel
theorem dX5_cancelTask_41 : decode cX5_cancelTask 41 = .ok (.aaload, 1) := by decide +kernel
theorem dX5_cancelTask_42 : decode cX5_cancelTask 42 = .ok (.getfield 140, 3) := by decide +kernel
theorem dX5_cancelTask_45 : decode cX5_cancelTask 45 = .ok (.ireturn, 1) := by decide +kernel
theorem dX5_passHours_0 : decode cX5_passHours 0 = .ok (.iload_n 1, 1) := by decide +kernel
theorem dX5_passHours_1 : decode cX5_passHours 1 = .ok (.iconst 1, 1) := by decide +kernel
theorem dX5_passHours_2 : decode cX5_passHours 2 = .ok (.bipush 48, 2) := by decide +kernel
theorem dX5_passHours_4 : decode cX5_passHours 4 = .ok (.invokestatic 59, 3) := by decide +kernel
theorem dX5_passHours_7 : decode cX5_passHours 7 = .ok (.ifCond .ne 6, 3) := by decide +kernel
theorem dX5_passHours_10 : decode cX5_passHours 10 = .ok (.bipush (-2), 2) := by decide +kernel
theorem dX5_passHours_12 : decode cX5_passHours 12 = .ok (.ireturn, 1) := by decide +kernel
theorem dX5_passHours_13 : decode cX5_passHours 13 = .ok (.aload_n 0, 1) := by decide +kernel
theorem dX5_passHours_14 : decode cX5_passHours 14 = .ok (.getfield 43, 3) := by decide +kernel
theorem dX5_passHours_17 : decode cX5_passHours 17 = .ok (.iload_n 1, 1) := by decide +kernel
theorem dX5_passHours_18 : decode cX5_passHours 18 = .ok (.iadd, 1) := by decide +kernel
theorem dX5_passHours_19 : decode cX5_passHours 19 = .ok (.sipush 2000, 3) := by decide +kernel
theorem dX5_passHours_22 : decode cX5_passHours 22 = .ok (.if_icmp .le 6, 3) := by decide +kernel
theorem dX5_passHours_25 : decode cX5_passHours 25 = .ok (.bipush (-4), 2) := by decide +kernel
theorem dX5_passHours_27 : decode cX5_passHours 27 = .ok (.ireturn, 1) := by decide +kernel
theorem dX5_passHours_28 : decode cX5_passHours 28 = .ok (.iconst 0, 1) := by decide +kernel
theorem dX5_passHours_29 : decode cX5_passHours 29 = .ok (.istore_n 2, 1) := by decide +kernel
theorem dX5_passHours_30 : decode cX5_passHours 30 = .ok (.iconst 0, 1) := by decide +kernel
theorem dX5_passHours_31 : decode cX5_passHours 31 = .ok (.istore_n 3, 1) := by decide +kernel
theorem dX5_passHours_32 : decode cX5_passHours 32 = .ok (.iload_n 3, 1) := by decide +kernel
theorem dX5_passHours_33 : decode cX5_passHours 33 = .ok (.iload_n 1, 1) := by decide +kernel
theorem dX5_passHours_34 : decode cX5_passHours 34 = .ok (.if_icmp .ge 34, 3) := by decide +kernel
theorem dX5_passHours_37 : decode cX5_passHours 37 = .ok (.aload_n 0, 1) := by decide +kernel
theorem dX5_passHours_38 : decode cX5_passHours 38 = .ok (.invokevirtual 143, 3) := by decide +kernel
theorem dX5_passHours_41 : decode cX5_passHours 41 = .ok (.iload_n 2, 1) := by decide +kernel
theorem dX5_passHours_42 : decode cX5_passHours 42 = .ok (.aload_n 0, 1) := by decide +kernel
theorem dX5_passHours_43 : decode cX5_passHours 43 = .ok (.invokevirtual 146, 3) := by decide +kernel
theorem dX5_passHours_46 : decode cX5_passHours 46 = .ok (.iadd, 1) := by decide +kernel
theorem dX5_passHours_47 : decode cX5_passHours 47 = .ok (.istore_n 2, 1) := by decide +kernel
theorem dX5_passHours_48 : decode cX5_passHours 48 = .ok (.aload_n 0, 1) := by decide +kernel
theorem dX5_passHours_49 : decode cX5_passHours 49 = .ok (.dup, 1) := by decide +kernel
theorem dX5_passHours_50 : decode cX5_passHours 50 = .ok (.getfield 43, 3) := by decide +kernel
theorem dX5_passHours_53 : decode cX5_passHours 53 = .ok (.iconst 1, 1) := by decide +kernel
theorem dX5_passHours_54 : decode cX5_passHours 54 = .ok (.iadd, 1) := by decide +kernel
theorem dX5_passHours_55 : decode cX5_passHours 55 = .ok (.putfield 43, 3) := by decide +kernel
theorem dX5_passHours_58 : decode cX5_passHours 58 = .ok (.aload_n 0, 1) := by decide +kernel
theorem dX5_passHours_59 : decode cX5_passHours 59 = .ok (.invokevirtual 149, 3) := by decide +kernel
theorem dX5_passHours_62 : decode cX5_passHours 62 = .ok (.iinc 3 1, 3) := by decide +kernel
theorem dX5_passHours_65 : decode cX5_passHours 65 = .ok (.goto (-33), 3) := by decide +kernel
theorem dX5_passHours_68 : decode cX5_passHours 68 = .ok (.iload_n 2, 1) := by decide +kernel
theorem dX5_passHours_69 : decode cX5_passHours 69 = .ok (.ireturn, 1) := by decide +kernel
theorem dX5_runAssets_0 : decode cX5_runAssets 0 = .ok (.iconst 0, 1) := by decide +kernel
theorem dX5_runAssets_1 : decode cX5_runAssets 1 = .ok (.istore_n 1, 1) := by decide +kernel
theorem dX5_runAssets_2 : decode cX5_runAssets 2 = .ok (.iload_n 1, 1) := by decide +kernel
theorem dX5_runAssets_3 : decode cX5_runAssets 3 = .ok (.aload_n 0, 1) := by decide +kernel
theorem dX5_runAssets_4 : decode cX5_runAssets 4 = .ok (.getfield 33, 3) := by decide +kernel
theorem dX5_runAssets_7 : decode cX5_runAssets 7 = .ok (.if_icmp .ge 30, 3) := by decide +kernel
theorem dX5_runAssets_10 : decode cX5_runAssets 10 = .ok (.aload_n 0, 1) := by decide +kernel
theorem dX5_runAssets_11 : decode cX5_runAssets 11 = .ok (.getfield 11, 3) := by decide +kernel
theorem dX5_runAssets_14 : decode cX5_runAssets 14 = .ok (.iload_n 1, 1) := by decide +kernel
theorem dX5_runAssets_15 : decode cX5_runAssets 15 = .ok (.aaload, 1) := by decide +kernel
theorem dX5_runAssets_16 : decode cX5_runAssets 16 = .ok (.getfield 94, 3) := by decide +kernel
theorem dX5_runAssets_19 : decode cX5_runAssets 19 = .ok (.ifCond .eq 12, 3) := by decide +kernel
theorem dX5_runAssets_22 : decode cX5_runAssets 22 = .ok (.aload_n 0, 1) := by decide +kernel
theorem dX5_runAssets_23 : decode cX5_runAssets 23 = .ok (.getfield 11, 3) := by decide +kernel
theorem dX5_runAssets_26 : decode cX5_runAssets 26 = .ok (.iload_n 1, 1) := by decide +kernel
theorem dX5_runAssets_27 : decode cX5_runAssets 27 = .ok (.aaload, 1) := by decide +kernel
theorem dX5_runAssets_28 : decode cX5_runAssets 28 = .ok (.invokevirtual 152, 3) := by decide +kernel
theorem dX5_runAssets_31 : decode cX5_runAssets 31 = .ok (.iinc 1 1, 3) := by decide +kernel
theorem dX5_runAssets_34 : decode cX5_runAssets 34 = .ok (.goto (-32), 3) := by decide +kernel
theorem dX5_runAssets_37 : decode cX5_runAssets 37 = .ok (.return_, 1) := by decide +kernel
theorem dX5_workOnTasks_0 : decode cX5_workOnTasks 0 = .ok (.iconst 0, 1) := by decide +kernel
theorem dX5_workOnTasks_1 : decode cX5_workOnTasks 1 = .ok (.istore_n 1, 1) := by decide +kernel
theorem dX5_workOnTasks_2 : decode cX5_workOnTasks 2 = .ok (.iconst 0, 1) := by decide +kernel
theorem dX5_workOnTasks_3 : decode cX5_workOnTasks 3 = .ok (.istore_n 2, 1) := by decide +kernel
theorem dX5_workOnTasks_4 : decode cX5_workOnTasks 4 = .ok (.iload_n 2, 1) := by decide +kernel
theorem dX5_workOnTasks_5 : decode cX5_workOnTasks 5 = .ok (.aload_n 0, 1) := by decide +kernel
theorem dX5_workOnTasks_6 : decode cX5_workOnTasks 6 = .ok (.getfield 40, 3) := by decide +kernel
theorem dX5_workOnTasks_9 : decode cX5_workOnTasks 9 = .ok (.if_icmp .ge 57, 3) := by decide +kernel
theorem dX5_workOnTasks_12 : decode cX5_workOnTasks 12 = .ok (.aload_n 0, 1) := by decide +kernel
theorem dX5_workOnTasks_13 : decode cX5_workOnTasks 13 = .ok (.getfield 25, 3) := by decide +kernel
theorem dX5_workOnTasks_16 : decode cX5_workOnTasks 16 = .ok (.iload_n 2, 1) := by decide +kernel
theorem dX5_workOnTasks_17 : decode cX5_workOnTasks 17 = .ok (.aaload, 1) := by decide +kernel
theorem dX5_workOnTasks_18 : decode cX5_workOnTasks 18 = .ok (.astore_n 3, 1) := by decide +kernel
theorem dX5_workOnTasks_19 : decode cX5_workOnTasks 19 = .ok (.aload_n 3, 1) := by decide +kernel
theorem dX5_workOnTasks_20 : decode cX5_workOnTasks 20 = .ok (.getfield 108, 3) := by decide +kernel
theorem dX5_workOnTasks_23 : decode cX5_workOnTasks 23 = .ok (.iconst 2, 1) := by decide +kernel
theorem dX5_workOnTasks_24 : decode cX5_workOnTasks 24 = .ok (.if_icmp .ne 36, 3) := by decide +kernel
theorem dX5_workOnTasks_27 : decode cX5_workOnTasks 27 = .ok (.aload_n 3, 1) := by decide +kernel
theorem dX5_workOnTasks_28 : decode cX5_workOnTasks 28 = .ok (.dup, 1) := by decide +kernel
theorem dX5_workOnTasks_29 : decode cX5_workOnTasks 29 = .ok (.getfield 133, 3) := by decide +kernel
theorem dX5_workOnTasks_32 : decode cX5_workOnTasks 32 = .ok (.iconst 1, 1) := by decide +kernel
theorem dX5_workOnTasks_33 : decode cX5_workOnTasks 33 = .ok (.isub, 1) := by decide +kernel
theorem dX5_workOnTasks_34 : decode cX5_workOnTasks 34 = .ok (.putfield 133, 3) := by decide +kernel
theorem dX5_workOnTasks_37 : decode cX5_workOnTasks 37 = .ok (.aload_n 3, 1) := by decide +kernel
theorem dX5_workOnTasks_38 : decode cX5_workOnTasks 38 = .ok (.getfield 133, 3) := by decide +kernel
theorem dX5_workOnTasks_41 : decode cX5_workOnTasks 41 = .ok (.ifCond .gt 19, 3) := by decide +kernel
theorem dX5_workOnTasks_44 : decode cX5_workOnTasks 44 = .ok (.aload_n 3, 1) := by decide +kernel
theorem dX5_workOnTasks_45 : decode cX5_workOnTasks 45 = .ok (.iconst 3, 1) := by decide +kernel
theorem dX5_workOnTasks_46 : decode cX5_workOnTasks 46 = .ok (.putfield 108, 3) := by decide +kernel
theorem dX5_workOnTasks_49 : decode cX5_workOnTasks 49 = .ok (.iinc 1 1, 3) := by decide +kernel
theorem dX5_workOnTasks_52 : decode cX5_workOnTasks 52 = .ok (.aload_n 0, 1) := by decide +kernel
theorem dX5_workOnTasks_53 : decode cX5_workOnTasks 53 = .ok (.aload_n 3, 1) := by decide +kernel
theorem dX5_workOnTasks_54 : decode cX5_workOnTasks 54 = .ok (.getfield 111, 3) := by decide +kernel
theorem dX5_workOnTasks_57 : decode cX5_workOnTasks 57 = .ok (.invokevirtual 155, 3) := by decide +kernel
theorem dX5_workOnTasks_60 : decode cX5_workOnTasks 60 = .ok (.iinc 2 1, 3) := by decide +kernel
theorem dX5_workOnTasks_63 : decode cX5_workOnTasks 63 = .ok (.goto (-59), 3) := by decide +kernel
theorem dX5_workOnTasks_66 : decode cX5_workOnTasks 66 = .ok (.iload_n 1, 1) := by decide +kernel
theorem dX5_workOnTasks_67 : decode cX5_workOnTasks 67 = .ok (.ireturn, 1) := by decide +kernel
theorem dX5_mendAsset_0 : decode cX5_mendAsset 0 = .ok (.aload_n 0, 1) := by decide +kernel
theorem dX5_mendAsset_1 : decode cX5_mendAsset 1 = .ok (.iload_n 1, 1) := by decide +kernel
theorem dX5_mendAsset_2 : decode cX5_mendAsset 2 = .ok (.invokevirtual 67, 3) := by decide +kernel
theorem dX5_mendAsset_5 : decode cX5_mendAsset 5 = .ok (.ifCond .eq 12, 3) := by decide +kernel
theorem dX5_mendAsset_8 : decode cX5_mendAsset 8 = .ok (.aload_n 0, 1) := by decide +kernel
theorem dX5_mendAsset_9 : decode cX5_mendAsset 9 = .ok (.getfield 11, 3) := by decide +kernel
theorem dX5_mendAsset_12 : decode cX5_mendAsset 12 = .ok (.iload_n 1, 1) := by decide +kernel
theorem dX5_mendAsset_13 : decode cX5_mendAsset 13 = .ok (.aaload, 1) := by decide +kernel
theorem dX5_mendAsset_14 : decode cX5_mendAsset 14 = .ok (.invokevirtual 159, 3) := by decide +kernel
theorem dX5_mendAsset_17 : decode cX5_mendAsset 17 = .ok (.return_, 1) := by decide +kernel
theorem dX5_slipTasks_0 : decode cX5_slipTasks 0 = .ok (.iconst 0, 1) := by decide +kernel
theorem dX5_slipTasks_1 : decode cX5_slipTasks 1 = .ok (.istore_n 1, 1) := by decide +kernel
theorem dX5_slipTasks_2 : decode cX5_slipTasks 2 = .ok (.iload_n 1, 1) := by decide +kernel
theorem dX5_slipTasks_3 : decode cX5_slipTasks 3 = .ok (.aload_n 0, 1) := by decide +kernel
theorem dX5_slipTasks_4 : decode cX5_slipTasks 4 = .ok (.getfield 40, 3) := by decide +kernel
theorem dX5_slipTasks_7 : decode cX5_slipTasks 7 = .ok (.if_icmp .ge 40, 3) := by decide +kernel
theorem dX5_slipTasks_10 : decode cX5_slipTasks 10 = .ok (.aload_n 0, 1) := by decide +kernel
theorem dX5_slipTasks_11 : decode cX5_slipTasks 11 = .ok (.getfield 25, 3) := by decide +kernel
theorem dX5_slipTasks_14 : decode cX5_slipTasks 14 = .ok (.iload_n 1, 1) := by decide +kernel
theorem dX5_slipTasks_15 : decode cX5_slipTasks 15 = .ok (.aaload, 1) := by decide +kernel
theorem dX5_slipTasks_16 : decode cX5_slipTasks 16 = .ok (.astore_n 2, 1) := by decide +kernel
theorem dX5_slipTasks_17 : decode cX5_slipTasks 17 = .ok (.aload_n 2, 1) := by decide +kernel
theorem dX5_slipTasks_18 : decode cX5_slipTasks 18 = .ok (.iconst 0, 1) := by decide +kernel
theorem dX5_slipTasks_19 : decode cX5_slipTasks 19 = .ok (.iconst 1, 1) := by decide +kernel
theorem dX5_slipTasks_20 : decode cX5_slipTasks 20 = .ok (.invokevirtual 162, 3) := by decide +kernel
theorem dX5_slipTasks_23 : decode cX5_slipTasks 23 = .ok (.ifCond .eq 18, 3) := by decide +kernel
theorem dX5_slipTasks_26 : decode cX5_slipTasks 26 = .ok (.aload_n 2, 1) := by decide +kernel
theorem dX5_slipTasks_27 : decode cX5_slipTasks 27 = .ok (.aload_n 0, 1) := by decide +kernel
theorem dX5_slipTasks_28 : decode cX5_slipTasks 28 = .ok (.getfield 43, 3) := by decide +kernel
theorem dX5_slipTasks_31 : decode cX5_slipTasks 31 = .ok (.invokevirtual 165, 3) := by decide +kernel
theorem dX5_slipTasks_34 : decode cX5_slipTasks 34 = .ok (.ifCond .eq 7, 3) := by decide +kernel
theorem dX5_slipTasks_37 : decode cX5_slipTasks 37 = .ok (.aload_n 2, 1) := by decide +kernel
theorem dX5_slipTasks_38 : decode cX5_slipTasks 38 = .ok (.invokevirtual 168, 3) := by decide +kernel
theorem dX5_slipTasks_41 : decode cX5_slipTasks 41 = .ok (.iinc 1 1, 3) := by decide +kernel
theorem dX5_slipTasks_44 : decode cX5_slipTasks 44 = .ok (.goto (-42), 3) := by decide +kernel
theorem dX5_slipTasks_47 : decode cX5_slipTasks 47 = .ok (.return_, 1) := by decide +kernel
theorem dX5_reasonAgainst_0 : decode cX5_reasonAgainst 0 = .ok (.aload_n 0, 1) := by decide +kernel
theorem dX5_reasonAgainst_1 : decode cX5_reasonAgainst 1 = .ok (.iload_n 1, 1) := by decide +kernel
theorem dX5_reasonAgainst_2 : decode cX5_reasonAgainst 2 = .ok (.invokevirtual 102, 3) := by decide +kernel
theorem dX5_reasonAgainst_5 : decode cX5_reasonAgainst 5 = .ok (.ifCond .ne 5, 3) := by decide +kernel
theorem dX5_reasonAgainst_8 : decode cX5_reasonAgainst 8 = .ok (.iconst 0, 1) := by decide +kernel
theorem dX5_reasonAgainst_9 : decode cX5_reasonAgainst 9 = .ok (.ireturn, 1) := by decide +kernel
theorem dX5_reasonAgainst_10 : decode cX5_reasonAgainst 10 = .ok (.aload_n 0, 1) := by decide +kernel
theorem dX5_reasonAgainst_11 : decode cX5_reasonAgainst 11 = .ok (.getfield 25, 3) := by decide +kernel
theorem dX5_reasonAgainst_14 : decode cX5_reasonAgainst 14 = .ok (.iload_n 1, 1) := by decide +kernel
theorem dX5_reasonAgainst_15 : decode cX5_reasonAgainst 15 = .ok (.aaload, 1) := by decide +kernel
theorem dX5_reasonAgainst_16 : decode cX5_reasonAgainst 16 = .ok (.astore_n 2, 1) := by decide +kernel
theorem dX5_reasonAgainst_17 : decode cX5_reasonAgainst 17 = .ok (.aload_n 2, 1) := by decide +kernel
theorem dX5_reasonAgainst_18 : decode cX5_reasonAgainst 18 = .ok (.getfield 108, 3) := by decide +kernel
theorem dX5_reasonAgainst_21 : decode cX5_reasonAgainst 21 = .ok (.iconst 1, 1) := by decide +kernel
theorem dX5_reasonAgainst_22 : decode cX5_reasonAgainst 22 = .ok (.if_icmp .eq 5, 3) := by decide +kernel
theorem dX5_reasonAgainst_25 : decode cX5_reasonAgainst 25 = .ok (.iconst 1, 1) := by decide +kernel
theorem dX5_reasonAgainst_26 : decode cX5_reasonAgainst 26 = .ok (.ireturn, 1) := by decide +kernel
theorem dX5_reasonAgainst_27 : decode cX5_reasonAgainst 27 = .ok (.aload_n 0, 1) := by decide +kernel
theorem dX5_reasonAgainst_28 : decode cX5_reasonAgainst 28 = .ok (.getfield 43, 3) := by decide +kernel
theorem dX5_reasonAgainst_31 : decode cX5_reasonAgainst 31 = .ok (.aload_n 2, 1) := by decide +kernel
theorem dX5_reasonAgainst_32 : decode cX5_reasonAgainst 32 = .ok (.getfield 171, 3) := by decide +kernel
theorem dX5_reasonAgainst_35 : decode cX5_reasonAgainst 35 = .ok (.if_icmp .ge 5, 3) := by decide +kernel
theorem dX5_reasonAgainst_38 : decode cX5_reasonAgainst 38 = .ok (.iconst 2, 1) := by decide +kernel
theorem dX5_reasonAgainst_39 : decode cX5_reasonAgainst 39 = .ok (.ireturn, 1) := by decide +kernel
theorem dX5_reasonAgainst_40 : decode cX5_reasonAgainst 40 = .ok (.aload_n 2, 1) := by decide +kernel
theorem dX5_reasonAgainst_41 : decode cX5_reasonAgainst 41 = .ok (.aload_n 0, 1) := by decide +kernel
theorem dX5_reasonAgainst_42 : decode cX5_reasonAgainst 42 = .ok (.getfield 43, 3) := by decide +kernel
theorem dX5_reasonAgainst_45 : decode cX5_reasonAgainst 45 = .ok (.invokevirtual 165, 3) := by decide +kernel
theorem dX5_reasonAgainst_48 : decode cX5_reasonAgainst 48 = .ok (.ifCond .eq 5, 3) := by decide +kernel
theorem dX5_reasonAgainst_51 : decode cX5_reasonAgainst 51 = .ok (.iconst 3, 1) := by decide +kernel
theorem dX5_reasonAgainst_52 : decode cX5_reasonAgainst 52 = .ok (.ireturn, 1) := by decide +kernel
theorem dX5_reasonAgainst_53 : decode cX5_reasonAgainst 53 = .ok (.aload_n 0, 1) := by decide +kernel
theorem dX5_reasonAgainst_54 : decode cX5_reasonAgainst 54 = .ok (.iload_n 1, 1) := by decide +kernel
theorem dX5_reasonAgainst_55 : decode cX5_reasonAgainst 55 = .ok (.invokevirtual 174, 3) := by decide +kernel
theorem dX5_reasonAgainst_58 : decode cX5_reasonAgainst 58 = .ok (.bipush (-5), 2) := by decide +kernel
theorem dX5_reasonAgainst_60 : decode cX5_reasonAgainst 60 = .ok (.if_icmp .eq 7, 3) := by decide +kernel
theorem dX5_reasonAgainst_63 : decode cX5_reasonAgainst 63 = .ok (.iconst 4, 1) := by decide +kernel
theorem dX5_reasonAgainst_64 : decode cX5_reasonAgainst 64 = .ok (.goto 4, 3) := by decide +kernel
theorem dX5_reasonAgainst_67 : decode cX5_reasonAgainst 67 = .ok (.iconst 0, 1) := by decide +kernel
theorem dX5_reasonAgainst_68 : decode cX5_reasonAgainst 68 = .ok (.ireturn, 1) := by decide +kernel
theorem dX5_barrierOf_0 : decode cX5_barrierOf 0 = .ok (.aload_n 0, 1) := by decide +kernel
theorem dX5_barrierOf_1 : decode cX5_barrierOf 1 = .ok (.iload_n 1, 1) := by decide +kernel
theorem dX5_barrierOf_2 : decode cX5_barrierOf 2 = .ok (.invokevirtual 102, 3) := by decide +kernel
theorem dX5_barrierOf_5 : decode cX5_barrierOf 5 = .ok (.ifCond .eq 16, 3) := by decide +kernel
theorem dX5_barrierOf_8 : decode cX5_barrierOf 8 = .ok (.aload_n 0, 1) := by decide +kernel
theorem dX5_barrierOf_9 : decode cX5_barrierOf 9 = .ok (.getfield 25, 3) := by decide +kernel
theorem dX5_barrierOf_12 : decode cX5_barrierOf 12 = .ok (.iload_n 1, 1) := by decide +kernel
theorem dX5_barrierOf_13 : decode cX5_barrierOf 13 = .ok (.aaload, 1) := by decide +kernel
theorem dX5_barrierOf_14 : decode cX5_barrierOf 14 = .ok (.getfield 108, 3) := by decide +kernel
theorem dX5_barrierOf_17 : decode cX5_barrierOf 17 = .ok (.iconst 2, 1) := by decide +kernel
theorem dX5_barrierOf_18 : decode cX5_barrierOf 18 = .ok (.if_icmp .ne 6, 3) := by decide +kernel
theorem dX5_barrierOf_21 : decode cX5_barrierOf 21 = .ok (.bipush (-5), 2) := by decide +kernel
theorem dX5_barrierOf_23 : decode cX5_barrierOf 23 = .ok (.ireturn, 1) := by decide +kernel
theorem dX5_barrierOf_24 : decode cX5_barrierOf 24 = .ok (.aload_n 0, 1) := by decide +kernel
theorem dX5_barrierOf_25 : decode cX5_barrierOf 25 = .ok (.getfield 25, 3) := by decide +kernel
theorem dX5_barrierOf_28 : decode cX5_barrierOf 28 = .ok (.iload_n 1, 1) := by decide +kernel
theorem dX5_barrierOf_29 : decode cX5_barrierOf 29 = .ok (.aaload, 1) := by decide +kernel
theorem dX5_barrierOf_30 : decode cX5_barrierOf 30 = .ok (.astore_n 2, 1) := by decide +kernel
theorem dX5_barrierOf_31 : decode cX5_barrierOf 31 = .ok (.iconst 0, 1) := by decide +kernel
theorem dX5_barrierOf_32 : decode cX5_barrierOf 32 = .ok (.istore_n 3, 1) := by decide +kernel
theorem dX5_barrierOf_33 : decode cX5_barrierOf 33 = .ok (.iload_n 3, 1) := by decide +kernel
theorem dX5_barrierOf_34 : decode cX5_barrierOf 34 = .ok (.aload_n 0, 1) := by decide +kernel
theorem dX5_barrierOf_35 : decode cX5_barrierOf 35 = .ok (.getfield 40, 3) := by decide +kernel
theorem dX5_barrierOf_38 : decode cX5_barrierOf 38 = .ok (.if_icmp .ge 60, 3) := by decide +kernel
theorem dX5_barrierOf_41 : decode cX5_barrierOf 41 = .ok (.aload_n 0, 1) := by decide +kernel
theorem dX5_barrierOf_42 : decode cX5_barrierOf 42 = .ok (.getfield 25, 3) := by decide +kernel
theorem dX5_barrierOf_45 : decode cX5_barrierOf 45 = .ok (.iload_n 3, 1) := by decide +kernel
theorem dX5_barrierOf_46 : decode cX5_barrierOf 46 = .ok (.aaload, 1) := by decide +kernel
theorem dX5_barrierOf_47 : decode cX5_barrierOf 47 = .ok (.astore 4, 2) := by decide +kernel
theorem dX5_barrierOf_49 : decode cX5_barrierOf 49 = .ok (.aload 4, 2) := by decide +kernel
theorem dX5_barrierOf_51 : decode cX5_barrierOf 51 = .ok (.getfield 108, 3) := by decide +kernel
theorem dX5_barrierOf_54 : decode cX5_barrierOf 54 = .ok (.iconst 2, 1) := by decide +kernel
theorem dX5_barrierOf_55 : decode cX5_barrierOf 55 = .ok (.if_icmp .ne 37, 3) := by decide +kernel
theorem dX5_barrierOf_58 : decode cX5_barrierOf 58 = .ok (.aload_n 0, 1) := by decide +kernel
theorem dX5_barrierOf_59 : decode cX5_barrierOf 59 = .ok (.aload_n 2, 1) := by decide +kernel
theorem dX5_barrierOf_60 : decode cX5_barrierOf 60 = .ok (.getfield 177, 3) := by decide +kernel
theorem dX5_barrierOf_63 : decode cX5_barrierOf 63 = .ok (.aload 4, 2) := by decide +kernel
theorem dX5_barrierOf_65 : decode cX5_barrierOf 65 = .ok (.getfield 177, 3) := by decide +kernel
theorem dX5_barrierOf_68 : decode cX5_barrierOf 68 = .ok (.invokevirtual 83, 3) := by decide +kernel
theorem dX5_barrierOf_71 : decode cX5_barrierOf 71 = .ok (.ifCond .eq 21, 3) := by decide +kernel
theorem dX5_barrierOf_74 : decode cX5_barrierOf 74 = .ok (.aload_n 0, 1) := by decide +kernel
theorem dX5_barrierOf_75 : decode cX5_barrierOf 75 = .ok (.aload_n 2, 1) := by decide +kernel
theorem dX5_barrierOf_76 : decode cX5_barrierOf 76 = .ok (.getfield 111, 3) := by decide +kernel
theorem dX5_barrierOf_79 : decode cX5_barrierOf 79 = .ok (.aload 4, 2) := by decide +kernel
theorem dX5_barrierOf_81 : decode cX5_barrierOf 81 = .ok (.getfield 111, 3) := by decide +kernel
theorem dX5_barrierOf_84 : decode cX5_barrierOf 84 = .ok (.invokevirtual 180, 3) := by decide +kernel
theorem dX5_barrierOf_87 : decode cX5_barrierOf 87 = .ok (.ifCond .eq 5, 3) := by decide +kernel
theorem dX5_barrierOf_90 : decode cX5_barrierOf 90 = .ok (.iload_n 3, 1) := by decide +kernel
theorem dX5_barrierOf_91 : decode cX5_barrierOf 91 = .ok (.ireturn, 1) := by decide +kernel
theorem dX5_barrierOf_92 : decode cX5_barrierOf 92 = .ok (.iinc 3 1, 3) := by decide +kernel
theorem dX5_barrierOf_95 : decode cX5_barrierOf 95 = .ok (.goto (-62), 3) := by decide +kernel
theorem dX5_barrierOf_98 : decode cX5_barrierOf 98 = .ok (.bipush (-5), 2) := by decide +kernel
theorem dX5_barrierOf_100 : decode cX5_barrierOf 100 = .ok (.ireturn, 1) := by decide +kernel
theorem dX5_doBar_0 : decode cX5_doBar 0 = .ok (.iload_n 1, 1) := by decide +kernel
theorem dX5_doBar_1 : decode cX5_doBar 1 = .ok (.ifCond .lt 30, 3) := by decide +kernel
theorem dX5_doBar_4 : decode cX5_doBar 4 = .ok (.iload_n 1, 1) := by decide +kernel
theorem dX5_doBar_5 : decode cX5_doBar 5 = .ok (.aload_n 0, 1) := by decide +kernel
theorem dX5_doBar_6 : decode cX5_doBar 6 = .ok (.getfield 29, 3) := by decide +kernel
theorem dX5_doBar_9 : decode cX5_doBar 9 = .ok (.arraylength, 1) := by decide +kernel
theorem dX5_doBar_10 : decode cX5_doBar 10 = .ok (.if_icmp .ge 21, 3) := by decide +kernel
theorem dX5_doBar_13 : decode cX5_doBar 13 = .ok (.aload_n 0, 1) := by decide +kernel
theorem dX5_doBar_14 : decode cX5_doBar 14 = .ok (.getfield 29, 3) := by decide +kernel
theorem dX5_doBar_17 : decode cX5_doBar 17 = .ok (.iload_n 1, 1) := by decide +kernel
theorem dX5_doBar_18 : decode cX5_doBar 18 = .ok (.iaload, 1) := by decide +kernel
theorem dX5_doBar_19 : decode cX5_doBar 19 = .ok (.iload_n 2, 1) := by decide +kernel
theorem dX5_doBar_20 : decode cX5_doBar 20 = .ok (.ishr, 1) := by decide +kernel
theorem dX5_doBar_21 : decode cX5_doBar 21 = .ok (.iconst 1, 1) := by decide +kernel
theorem dX5_doBar_22 : decode cX5_doBar 22 = .ok (.iand, 1) := by decide +kernel
theorem dX5_doBar_23 : decode cX5_doBar 23 = .ok (.iconst 1, 1) := by decide +kernel
theorem dX5_doBar_24 : decode cX5_doBar 24 = .ok (.if_icmp .ne 7, 3) := by decide +kernel
theorem dX5_doBar_27 : decode cX5_doBar 27 = .ok (.iconst 1, 1) := by decide +kernel
theorem dX5_doBar_28 : decode cX5_doBar 28 = .ok (.goto 4, 3) := by decide +kernel
theorem dX5_doBar_31 : decode cX5_doBar 31 = .ok (.iconst 0, 1) := by decide +kernel
theorem dX5_doBar_32 : decode cX5_doBar 32 = .ok (.ireturn, 1) := by decide +kernel
theorem dX5_areNear_0 : decode cX5_areNear 0 = .ok (.iload_n 1, 1) := by decide +kernel
theorem dX5_areNear_1 : decode cX5_areNear 1 = .ok (.iload_n 2, 1) := by decide +kernel
theorem dX5_areNear_2 : decode cX5_areNear 2 = .ok (.if_icmp .eq 28, 3) := by decide +kernel
theorem dX5_areNear_5 : decode cX5_areNear 5 = .ok (.iload_n 1, 1) := by decide +kernel
theorem dX5_areNear_6 : decode cX5_areNear 6 = .ok (.ifCond .lt 28, 3) := by decide +kernel
theorem dX5_areNear_9 : decode cX5_areNear 9 = .ok (.iload_n 1, 1) := by decide +kernel
theorem dX5_areNear_10 : decode cX5_areNear 10 = .ok (.aload_n 0, 1) := by decide +kernel
theorem dX5_areNear_11 : decode cX5_areNear 11 = .ok (.getfield 33, 3) := by decide +kernel
theorem dX5_areNear_14 : decode cX5_areNear 14 = .ok (.if_icmp .ge 20, 3) := by decide +kernel
theorem dX5_areNear_17 : decode cX5_areNear 17 = .ok (.aload_n 0, 1) := by decide +kernel
theorem dX5_areNear_18 : decode cX5_areNear 18 = .ok (.getfield 11, 3) := by decide +kernel
theorem dX5_areNear_21 : decode cX5_areNear 21 = .ok (.iload_n 1, 1) := by decide +kernel
theorem dX5_areNear_22 : decode cX5_areNear 22 = .ok (.aaload, 1) := by decide +kernel
theorem dX5_areNear_23 : decode cX5_areNear 23 = .ok (.iload_n 2, 1) := by decide +kernel
theorem dX5_areNear_24 : decode cX5_areNear 24 = .ok (.invokevirtual 71, 3) := by decide +kernel
theorem dX5_areNear_27 : decode cX5_areNear 27 = .ok (.ifCond .eq 7, 3) := by decide +kernel
theorem dX5_areNear_30 : decode cX5_areNear 30 = .ok (.iconst 1, 1) := by decide +kernel
theorem dX5_areNear_31 : decode cX5_areNear 31 = .ok (.goto 4, 3) := by decide +kernel
theorem dX5_areNear_34 : decode cX5_areNear 34 = .ok (.iconst 0, 1) := by decide +kernel
theorem dX5_areNear_35 : decode cX5_areNear 35 = .ok (.ireturn, 1) := by decide +kernel
theorem dX5_isRunning_0 : decode cX5_isRunning 0 = .ok (.aload_n 0, 1) := by decide +kernel
theorem dX5_isRunning_1 : decode cX5_isRunning 1 = .ok (.iload_n 1, 1) := by decide +kernel
theorem dX5_isRunning_2 : decode cX5_isRunning 2 = .ok (.invokevirtual 67, 3) := by decide +kernel
theorem dX5_isRunning_5 : decode cX5_isRunning 5 = .ok (.ifCond .eq 19, 3) := by decide +kernel
theorem dX5_isRunning_8 : decode cX5_isRunning 8 = .ok (.aload_n 0, 1) := by decide +kernel
theorem dX5_isRunning_9 : decode cX5_isRunning 9 = .ok (.getfield 11, 3) := by decide +kernel
theorem dX5_isRunning_12 : decode cX5_isRunning 12 = .ok (.iload_n 1, 1) := by decide +kernel
theorem dX5_isRunning_13 : decode cX5_isRunning 13 = .ok (.aaload, 1) := by decide +kernel
theorem dX5_isRunning_14 : decode cX5_isRunning 14 = .ok (.getfield 94, 3) := by decide +kernel
theorem dX5_isRunning_17 : decode cX5_isRunning 17 = .ok (.ifCond .eq 7, 3) := by decide +kernel
theorem dX5_isRunning_20 : decode cX5_isRunning 20 = .ok (.iconst 1, 1) := by decide +kernel
theorem dX5_isRunning_21 : decode cX5_isRunning 21 = .ok (.goto 4, 3) := by decide +kernel
theorem dX5_isRunning_24 : decode cX5_isRunning 24 = .ok (.iconst 0, 1) := by decide +kernel
theorem dX5_isRunning_25 : decode cX5_isRunning 25 = .ok (.ireturn, 1) := by decide +kernel
theorem dX5_canServe_0 : decode cX5_canServe 0 = .ok (.aload_n 0, 1) := by decide +kernel
theorem dX5_canServe_1 : decode cX5_canServe 1 = .ok (.getfield 19, 3) := by decide +kernel
theorem dX5_canServe_4 : decode cX5_canServe 4 = .ok (.iload_n 1, 1) := by decide +kernel
theorem dX5_canServe_5 : decode cX5_canServe 5 = .ok (.aaload, 1) := by decide +kernel
theorem dX5_canServe_6 : decode cX5_canServe 6 = .ok (.aload_n 2, 1) := by decide +kernel
theorem dX5_canServe_7 : decode cX5_canServe 7 = .ok (.getfield 183, 3) := by decide +kernel
theorem dX5_canServe_10 : decode cX5_canServe 10 = .ok (.invokevirtual 186, 3) := by decide +kernel
theorem dX5_canServe_13 : decode cX5_canServe 13 = .ok (.ifCond .eq 29, 3) := by decide +kernel
theorem dX5_canServe_16 : decode cX5_canServe 16 = .ok (.aload_n 0, 1) := by decide +kernel
theorem dX5_canServe_17 : decode cX5_canServe 17 = .ok (.getfield 19, 3) := by decide +kernel
theorem dX5_canServe_20 : decode cX5_canServe 20 = .ok (.iload_n 1, 1) := by decide +kernel
theorem dX5_canServe_21 : decode cX5_canServe 21 = .ok (.aaload, 1) := by decide +kernel
theorem dX5_canServe_22 : decode cX5_canServe 22 = .ok (.getfield 189, 3) := by decide +kernel
theorem dX5_canServe_25 : decode cX5_canServe 25 = .ok (.aload_n 0, 1) := by decide +kernel
theorem dX5_canServe_26 : decode cX5_canServe 26 = .ok (.iload_n 1, 1) := by decide +kernel
theorem dX5_canServe_27 : decode cX5_canServe 27 = .ok (.invokevirtual 192, 3) := by decide +kernel
theorem dX5_canServe_30 : decode cX5_canServe 30 = .ok (.isub, 1) := by decide +kernel
theorem dX5_canServe_31 : decode cX5_canServe 31 = .ok (.aload_n 2, 1) := by decide +kernel
theorem dX5_canServe_32 : decode cX5_canServe 32 = .ok (.getfield 195, 3) := by decide +kernel
theorem dX5_canServe_35 : decode cX5_canServe 35 = .ok (.if_icmp .lt 7, 3) := by decide +kernel
theorem dX5_canServe_38 : decode cX5_canServe 38 = .ok (.iconst 1, 1) := by decide +kernel
theorem dX5_canServe_39 : decode cX5_canServe 39 = .ok (.goto 4, 3) := by decide +kernel
theorem dX5_canServe_42 : decode cX5_canServe 42 = .ok (.iconst 0, 1) := by decide +kernel
theorem dX5_canServe_43 : decode cX5_canServe 43 = .ok (.ireturn, 1) := by decide +kernel
theorem dX5_firstCrewFor_0 : decode cX5_firstCrewFor 0 = .ok (.aload_n 0, 1) := by decide +kernel
theorem dX5_firstCrewFor_1 : decode cX5_firstCrewFor 1 = .ok (.iload_n 1, 1) := by decide +kernel
theorem dX5_firstCrewFor_2 : decode cX5_firstCrewFor 2 = .ok (.invokevirtual 102, 3) := by decide +kernel
theorem dX5_firstCrewFor_5 : decode cX5_firstCrewFor 5 = .ok (.ifCond .eq 15, 3) := by decide +kernel
theorem dX5_firstCrewFor_8 : decode cX5_firstCrewFor 8 = .ok (.aload_n 0, 1) := by decide +kernel
theorem dX5_firstCrewFor_9 : decode cX5_firstCrewFor 9 = .ok (.getfield 25, 3) := by decide +kernel
theorem dX5_firstCrewFor_12 : decode cX5_firstCrewFor 12 = .ok (.iload_n 1, 1) := by decide +kernel
theorem dX5_firstCrewFor_13 : decode cX5_firstCrewFor 13 = .ok (.aaload, 1) := by decide +kernel
theorem dX5_firstCrewFor_14 : decode cX5_firstCrewFor 14 = .ok (.getfield 108, 3) := by decide +kernel
theorem dX5_firstCrewFor_17 : decode cX5_firstCrewFor 17 = .ok (.ifCond .eq 6, 3) := by decide +kernel
theorem dX5_firstCrewFor_20 : decode cX5_firstCrewFor 20 = .ok (.bipush (-5), 2) := by decide +kernel
theorem dX5_firstCrewFor_22 : decode cX5_firstCrewFor 22 = .ok (.ireturn, 1) := by decide +kernel
theorem dX5_firstCrewFor_23 : decode cX5_firstCrewFor 23 = .ok (.iconst 0, 1) := by decide +kernel
theorem dX5_firstCrewFor_24 : decode cX5_firstCrewFor 24 = .ok (.istore_n 2, 1) := by decide +kernel
theorem dX5_firstCrewFor_25 : decode cX5_firstCrewFor 25 = .ok (.iload_n 2, 1) := by decide +kernel
theorem dX5_firstCrewFor_26 : decode cX5_firstCrewFor 26 = .ok (.aload_n 0, 1) := by decide +kernel
theorem dX5_firstCrewFor_27 : decode cX5_firstCrewFor 27 = .ok (.getfield 37, 3) := by decide +kernel
theorem dX5_firstCrewFor_30 : decode cX5_firstCrewFor 30 = .ok (.if_icmp .ge 25, 3) := by decide +kernel
theorem dX5_firstCrewFor_33 : decode cX5_firstCrewFor 33 = .ok (.aload_n 0, 1) := by decide +kernel
theorem dX5_firstCrewFor_34 : decode cX5_firstCrewFor 34 = .ok (.iload_n 2, 1) := by decide +kernel
theorem dX5_firstCrewFor_35 : decode cX5_firstCrewFor 35 = .ok (.aload_n 0, 1) := by decide +kernel
theorem dX5_firstCrewFor_36 : decode cX5_firstCrewFor 36 = .ok (.getfield 25, 3) := by decide +kernel
theorem dX5_firstCrewFor_39 : decode cX5_firstCrewFor 39 = .ok (.iload_n 1, 1) := by decide +kernel
theorem dX5_firstCrewFor_40 : decode cX5_firstCrewFor 40 = .ok (.aaload, 1) := by decide +kernel
theorem dX5_firstCrewFor_41 : decode cX5_firstCrewFor 41 = .ok (.invokevirtual 117, 3) := by decide +kernel
theorem dX5_firstCrewFor_44 : decode cX5_firstCrewFor 44 = .ok (.ifCond .eq 5, 3) := by decide +kernel
theorem dX5_firstCrewFor_47 : decode cX5_firstCrewFor 47 = .ok (.iload_n 2, 1) := by decide +kernel
theorem dX5_firstCrewFor_48 : decode cX5_firstCrewFor 48 = .ok (.ireturn, 1) := by decide +kernel
theorem dX5_firstCrewFor_49 : decode cX5_firstCrewFor 49 = .ok (.iinc 2 1, 3) := by decide +kernel
theorem dX5_firstCrewFor_52 : decode cX5_firstCrewFor 52 = .ok (.goto (-27), 3) := by decide +kernel
theorem dX5_firstCrewFor_55 : decode cX5_firstCrewFor 55 = .ok (.bipush (-5), 2) := by decide +kernel
theorem dX5_firstCrewFor_57 : decode cX5_firstCrewFor 57 = .ok (.ireturn, 1) := by decide +kernel
theorem dX5_tagsHanging_0 : decode cX5_tagsHanging 0 = .ok (.aload_n 0, 1) := by decide +kernel
theorem dX5_tagsHanging_1 : decode cX5_tagsHanging 1 = .ok (.iload_n 1, 1) := by decide +kernel
theorem dX5_tagsHanging_2 : decode cX5_tagsHanging 2 = .ok (.iconst 1, 1) := by decide +kernel
theorem dX5_tagsHanging_3 : decode cX5_tagsHanging 3 = .ok (.iconst 3, 1) := by decide +kernel
theorem dX5_tagsHanging_4 : decode cX5_tagsHanging 4 = .ok (.invokevirtual 196, 3) := by decide +kernel
theorem dX5_tagsHanging_7 : decode cX5_tagsHanging 7 = .ok (.ireturn, 1) := by decide +kernel
theorem dX5_taskOfTag_0 : decode cX5_taskOfTag 0 = .ok (.aload_n 0, 1) := by decide +kernel
theorem dX5_taskOfTag_1 : decode cX5_taskOfTag 1 = .ok (.iload_n 1, 1) := by decide +kernel
theorem dX5_taskOfTag_2 : decode cX5_taskOfTag 2 = .ok (.invokevirtual 91, 3) := by decide +kernel
theorem dX5_taskOfTag_5 : decode cX5_taskOfTag 5 = .ok (.iconst 1, 1) := by decide +kernel
theorem dX5_taskOfTag_6 : decode cX5_taskOfTag 6 = .ok (.isub, 1) := by decide +kernel
theorem dX5_taskOfTag_7 : decode cX5_taskOfTag 7 = .ok (.iload_n 2, 1) := by decide +kernel
theorem dX5_taskOfTag_8 : decode cX5_taskOfTag 8 = .ok (.isub, 1) := by decide +kernel
theorem dX5_taskOfTag_9 : decode cX5_taskOfTag 9 = .ok (.istore_n 3, 1) := by decide +kernel
theorem dX5_taskOfTag_10 : decode cX5_taskOfTag 10 = .ok (.iconst 0, 1) := by decide +kernel
theorem dX5_taskOfTag_11 : decode cX5_taskOfTag 11 = .ok (.istore 4, 2) := by decide +kernel
theorem dX5_taskOfTag_13 : decode cX5_taskOfTag 13 = .ok (.iload 4, 2) := by decide +kernel
theorem dX5_taskOfTag_15 : decode cX5_taskOfTag 15 = .ok (.aload_n 0, 1) := by decide +kernel
theorem dX5_taskOfTag_16 : decode cX5_taskOfTag 16 = .ok (.getfield 40, 3) := by decide +kernel
theorem dX5_taskOfTag_19 : decode cX5_taskOfTag 19 = .ok (.if_icmp .ge 47, 3) := by decide +kernel
theorem dX5_taskOfTag_22 : decode cX5_taskOfTag 22 = .ok (.aload_n 0, 1) := by decide +kernel
theorem dX5_taskOfTag_23 : decode cX5_taskOfTag 23 = .ok (.getfield 25, 3) := by decide +kernel
theorem dX5_taskOfTag_26 : decode cX5_taskOfTag 26 = .ok (.iload 4, 2) := by decide +kernel
theorem dX5_taskOfTag_28 : decode cX5_taskOfTag 28 = .ok (.aaload, 1) := by decide +kernel
theorem dX5_taskOfTag_29 : decode cX5_taskOfTag 29 = .ok (.astore 5, 2) := by decide +kernel
theorem dX5_taskOfTag_31 : decode cX5_taskOfTag 31 = .ok (.aload 5, 2) := by decide +kernel
theorem dX5_taskOfTag_33 : decode cX5_taskOfTag 33 = .ok (.getfield 111, 3) := by decide +kernel
theorem dX5_taskOfTag_36 : decode cX5_taskOfTag 36 = .ok (.iload_n 1, 1) := by decide +kernel
theorem dX5_taskOfTag_37 : decode cX5_taskOfTag 37 = .ok (.if_icmp .ne 23, 3) := by decide +kernel
theorem dX5_taskOfTag_40 : decode cX5_taskOfTag 40 = .ok (.aload 5, 2) := by decide +kernel
theorem dX5_taskOfTag_42 : decode cX5_taskOfTag 42 = .ok (.invokevirtual 200, 3) := by decide +kernel
theorem dX5_taskOfTag_45 : decode cX5_taskOfTag 45 = .ok (.ifCond .eq 15, 3) := by decide +kernel
theorem dX5_taskOfTag_48 : decode cX5_taskOfTag 48 = .ok (.aload 5, 2) := by decide +kernel
theorem dX5_taskOfTag_50 : decode cX5_taskOfTag 50 = .ok (.getfield 121, 3) := by decide +kernel
theorem dX5_taskOfTag_53 : decode cX5_taskOfTag 53 = .ok (.iload_n 3, 1) := by decide +kernel
theorem dX5_taskOfTag_54 : decode cX5_taskOfTag 54 = .ok (.if_icmp .ne 6, 3) := by decide +kernel
theorem dX5_taskOfTag_57 : decode cX5_taskOfTag 57 = .ok (.iload 4, 2) := by decide +kernel
theorem dX5_taskOfTag_59 : decode cX5_taskOfTag 59 = .ok (.ireturn, 1) := by decide +kernel
theorem dX5_taskOfTag_60 : decode cX5_taskOfTag 60 = .ok (.iinc 4 1, 3) := by decide +kernel
theorem dX5_taskOfTag_63 : decode cX5_taskOfTag 63 = .ok (.goto (-50), 3) := by decide +kernel
theorem dX5_taskOfTag_66 : decode cX5_taskOfTag 66 = .ok (.bipush (-5), 2) := by decide +kernel
theorem dX5_taskOfTag_68 : decode cX5_taskOfTag 68 = .ok (.ireturn, 1) := by decide +kernel
theorem dX5_tasksOfAsset_0 : decode cX5_tasksOfAsset 0 = .ok (.iconst 0, 1) := by decide +kernel
theorem dX5_tasksOfAsset_1 : decode cX5_tasksOfAsset 1 = .ok (.istore 4, 2) := by decide +kernel
theorem dX5_tasksOfAsset_3 : decode cX5_tasksOfAsset 3 = .ok (.iconst 0, 1) := by decide +kernel
theorem dX5_tasksOfAsset_4 : decode cX5_tasksOfAsset 4 = .ok (.istore 5, 2) := by decide +kernel
theorem dX5_tasksOfAsset_6 : decode cX5_tasksOfAsset 6 = .ok (.iload 5, 2) := by decide +kernel
theorem dX5_tasksOfAsset_8 : decode cX5_tasksOfAsset 8 = .ok (.aload_n 0, 1) := by decide +kernel
theorem dX5_tasksOfAsset_9 : decode cX5_tasksOfAsset 9 = .ok (.getfield 40, 3) := by decide +kernel
theorem dX5_tasksOfAsset_12 : decode cX5_tasksOfAsset 12 = .ok (.if_icmp .ge 41, 3) := by decide +kernel
theorem dX5_tasksOfAsset_15 : decode cX5_tasksOfAsset 15 = .ok (.aload_n 0, 1) := by decide +kernel
theorem dX5_tasksOfAsset_16 : decode cX5_tasksOfAsset 16 = .ok (.getfield 25, 3) := by decide +kernel
theorem dX5_tasksOfAsset_19 : decode cX5_tasksOfAsset 19 = .ok (.iload 5, 2) := by decide +kernel
theorem dX5_tasksOfAsset_21 : decode cX5_tasksOfAsset 21 = .ok (.aaload, 1) := by decide +kernel
theorem dX5_tasksOfAsset_22 : decode cX5_tasksOfAsset 22 = .ok (.getfield 111, 3) := by decide +kernel
theorem dX5_tasksOfAsset_25 : decode cX5_tasksOfAsset 25 = .ok (.iload_n 1, 1) := by decide +kernel
theorem dX5_tasksOfAsset_26 : decode cX5_tasksOfAsset 26 = .ok (.if_icmp .ne 21, 3) := by decide +kernel
theorem dX5_tasksOfAsset_29 : decode cX5_tasksOfAsset 29 = .ok (.aload_n 0, 1) := by decide +kernel
theorem dX5_tasksOfAsset_30 : decode cX5_tasksOfAsset 30 = .ok (.getfield 25, 3) := by decide +kernel
theorem dX5_tasksOfAsset_33 : decode cX5_tasksOfAsset 33 = .ok (.iload 5, 2) := by decide +kernel
theorem dX5_tasksOfAsset_35 : decode cX5_tasksOfAsset 35 = .ok (.aaload, 1) := by decide +kernel
theorem dX5_tasksOfAsset_36 : decode cX5_tasksOfAsset 36 = .ok (.iload_n 2, 1) := by decide +kernel
theorem dX5_tasksOfAsset_37 : decode cX5_tasksOfAsset 37 = .ok (.iload_n 3, 1) := by decide +kernel
theorem dX5_tasksOfAsset_38 : decode cX5_tasksOfAsset 38 = .ok (.invokevirtual 162, 3) := by decide +kernel
theorem dX5_tasksOfAsset_41 : decode cX5_tasksOfAsset 41 = .ok (.ifCond .eq 6, 3) := by decide +kernel
theorem dX5_tasksOfAsset_44 : decode cX5_tasksOfAsset 44 = .ok (.iinc 4 1, 3) := by decide +kernel
theorem dX5_tasksOfAsset_47 : decode cX5_tasksOfAsset 47 = .ok (.iinc 5 1, 3) := by decide +kernel
theorem dX5_tasksOfAsset_50 : decode cX5_tasksOfAsset 50 = .ok (.goto (-44), 3) := by decide +kernel
theorem dX5_tasksOfAsset_53 : decode cX5_tasksOfAsset 53 = .ok (.iload 4, 2) := by decide +kernel
theorem dX5_tasksOfAsset_55 : decode cX5_tasksOfAsset 55 = .ok (.ireturn, 1) := by decide +kernel
theorem dX5_tasksOfCrew_0 : decode cX5_tasksOfCrew 0 = .ok (.iconst 0, 1) := by decide +kernel
theorem dX5_tasksOfCrew_1 : decode cX5_tasksOfCrew 1 = .ok (.istore 4, 2) := by decide +kernel
theorem dX5_tasksOfCrew_3 : decode cX5_tasksOfCrew 3 = .ok (.iconst 0, 1) := by decide +kernel
theorem dX5_tasksOfCrew_4 : decode cX5_tasksOfCrew 4 = .ok (.istore 5, 2) := by decide +kernel
theorem dX5_tasksOfCrew_6 : decode cX5_tasksOfCrew 6 = .ok (.iload 5, 2) := by decide +kernel
theorem dX5_tasksOfCrew_8 : decode cX5_tasksOfCrew 8 = .ok (.aload_n 0, 1) := by decide +kernel
theorem dX5_tasksOfCrew_9 : decode cX5_tasksOfCrew 9 = .ok (.getfield 40, 3) := by decide +kernel
theorem dX5_tasksOfCrew_12 : decode cX5_tasksOfCrew 12 = .ok (.if_icmp .ge 41, 3) := by decide +kernel
theorem dX5_tasksOfCrew_15 : decode cX5_tasksOfCrew 15 = .ok (.aload_n 0, 1) := by decide +kernel
theorem dX5_tasksOfCrew_16 : decode cX5_tasksOfCrew 16 = .ok (.getfield 25, 3) := by decide +kernel
theorem dX5_tasksOfCrew_19 : decode cX5_tasksOfCrew 19 = .ok (.iload 5, 2) := by decide +kernel
theorem dX5_tasksOfCrew_21 : decode cX5_tasksOfCrew 21 = .ok (.aaload, 1) := by decide +kernel
theorem dX5_tasksOfCrew_22 : decode cX5_tasksOfCrew 22 = .ok (.getfield 124, 3) := by decide +kernel
theorem dX5_tasksOfCrew_25 : decode cX5_tasksOfCrew 25 = .ok (.iload_n 1, 1) := by decide +kernel
theorem dX5_tasksOfCrew_26 : decode cX5_tasksOfCrew 26 = .ok (.if_icmp .ne 21, 3) := by decide +kernel
theorem dX5_tasksOfCrew_29 : decode cX5_tasksOfCrew 29 = .ok (.aload_n 0, 1) := by decide +kernel
theorem dX5_tasksOfCrew_30 : decode cX5_tasksOfCrew 30 = .ok (.getfield 25, 3) := by decide +kernel
theorem dX5_tasksOfCrew_33 : decode cX5_tasksOfCrew 33 = .ok (.iload 5, 2) := by decide +kernel
theorem dX5_tasksOfCrew_35 : decode cX5_tasksOfCrew 35 = .ok (.aaload, 1) := by decide +kernel
theorem dX5_tasksOfCrew_36 : decode cX5_tasksOfCrew 36 = .ok (.iload_n 2, 1) := by decide +kernel
theorem dX5_tasksOfCrew_37 : decode cX5_tasksOfCrew 37 = .ok (.iload_n 3, 1) := by decide +kernel
theorem dX5_tasksOfCrew_38 : decode cX5_tasksOfCrew 38 = .ok (.invokevirtual 162, 3) := by decide +kernel
theorem dX5_tasksOfCrew_41 : decode cX5_tasksOfCrew 41 = .ok (.ifCond .eq 6, 3) := by decide +kernel
theorem dX5_tasksOfCrew_44 : decode cX5_tasksOfCrew 44 = .ok (.iinc 4 1, 3) := by decide +kernel
theorem dX5_tasksOfCrew_47 : decode cX5_tasksOfCrew 47 = .ok (.iinc 5 1, 3) := by decide +kernel
theorem dX5_tasksOfCrew_50 : decode cX5_tasksOfCrew 50 = .ok (.goto (-44), 3) := by decide +kernel
theorem dX5_tasksOfCrew_53 : decode cX5_tasksOfCrew 53 = .ok (.iload 4, 2) := by decide +kernel
theorem dX5_tasksOfCrew_55 : decode cX5_tasksOfCrew 55 = .ok (.ireturn, 1) := by decide +kernel
theorem dX5_tasksIn_0 : decode cX5_tasksIn 0 = .ok (.iconst 0, 1) := by decide +kernel
theorem dX5_tasksIn_1 : decode cX5_tasksIn 1 = .ok (.istore_n 3, 1) := by decide +kernel
theorem dX5_tasksIn_2 : decode cX5_tasksIn 2 = .ok (.iconst 0, 1) := by decide +kernel
theorem dX5_tasksIn_3 : decode cX5_tasksIn 3 = .ok (.istore 4, 2) := by decide +kernel
theorem dX5_tasksIn_5 : decode cX5_tasksIn 5 = .ok (.iload 4, 2) := by decide +kernel
theorem dX5_tasksIn_7 : decode cX5_tasksIn 7 = .ok (.aload_n 0, 1) := by decide +kernel
theorem dX5_tasksIn_8 : decode cX5_tasksIn 8 = .ok (.getfield 40, 3) := by decide +kernel
theorem dX5_tasksIn_11 : decode cX5_tasksIn 11 = .ok (.if_icmp .ge 27, 3) := by decide +kernel
theorem dX5_tasksIn_14 : decode cX5_tasksIn 14 = .ok (.aload_n 0, 1) := by decide +kernel
theorem dX5_tasksIn_15 : decode cX5_tasksIn 15 = .ok (.getfield 25, 3) := by decide +kernel
theorem dX5_tasksIn_18 : decode cX5_tasksIn 18 = .ok (.iload 4, 2) := by decide +kernel
theorem dX5_tasksIn_20 : decode cX5_tasksIn 20 = .ok (.aaload, 1) := by decide +kernel
theorem dX5_tasksIn_21 : decode cX5_tasksIn 21 = .ok (.iload_n 1, 1) := by decide +kernel
theorem dX5_tasksIn_22 : decode cX5_tasksIn 22 = .ok (.iload_n 2, 1) := by decide +kernel
theorem dX5_tasksIn_23 : decode cX5_tasksIn 23 = .ok (.invokevirtual 162, 3) := by decide +kernel
theorem dX5_tasksIn_26 : decode cX5_tasksIn 26 = .ok (.ifCond .eq 6, 3) := by decide +kernel
theorem dX5_tasksIn_29 : decode cX5_tasksIn 29 = .ok (.iinc 3 1, 3) := by decide +kernel
theorem dX5_tasksIn_32 : decode cX5_tasksIn 32 = .ok (.iinc 4 1, 3) := by decide +kernel
theorem dX5_tasksIn_35 : decode cX5_tasksIn 35 = .ok (.goto (-30), 3) := by decide +kernel
theorem dX5_tasksIn_38 : decode cX5_tasksIn 38 = .ok (.iload_n 3, 1) := by decide +kernel
theorem dX5_tasksIn_39 : decode cX5_tasksIn 39 = .ok (.ireturn, 1) := by decide +kernel
theorem dX5_busyPeople_0 : decode cX5_busyPeople 0 = .ok (.iconst 0, 1) := by decide +kernel
theorem dX5_busyPeople_1 : decode cX5_busyPeople 1 = .ok (.istore_n 2, 1) := by decide +kernel
theorem dX5_busyPeople_2 : decode cX5_busyPeople 2 = .ok (.iconst 0, 1) := by decide +kernel
theorem dX5_busyPeople_3 : decode cX5_busyPeople 3 = .ok (.istore_n 3, 1) := by decide +kernel
theorem dX5_busyPeople_4 : decode cX5_busyPeople 4 = .ok (.iload_n 3, 1) := by decide +kernel
theorem dX5_busyPeople_5 : decode cX5_busyPeople 5 = .ok (.aload_n 0, 1) := by decide +kernel
theorem dX5_busyPeople_6 : decode cX5_busyPeople 6 = .ok (.getfield 40, 3) := by decide +kernel
theorem dX5_busyPeople_9 : decode cX5_busyPeople 9 = .ok (.if_icmp .ge 46, 3) := by decide +kernel
theorem dX5_busyPeople_12 : decode cX5_busyPeople 12 = .ok (.aload_n 0, 1) := by decide +kernel
theorem dX5_busyPeople_13 : decode cX5_busyPeople 13 = .ok (.getfield 25, 3) := by decide +kernel
theorem dX5_busyPeople_16 : decode cX5_busyPeople 16 = .ok (.iload_n 3, 1) := by decide +kernel
theorem dX5_busyPeople_17 : decode cX5_busyPeople 17 = .ok (.aaload, 1) := by decide +kernel
theorem dX5_busyPeople_18 : decode cX5_busyPeople 18 = .ok (.getfield 124, 3) := by decide +kernel
theorem dX5_busyPeople_21 : decode cX5_busyPeople 21 = .ok (.iload_n 1, 1) := by decide +kernel
theorem dX5_busyPeople_22 : decode cX5_busyPeople 22 = .ok (.if_icmp .ne 27, 3) := by decide +kernel
theorem dX5_busyPeople_25 : decode cX5_busyPeople 25 = .ok (.aload_n 0, 1) := by decide +kernel
theorem dX5_busyPeople_26 : decode cX5_busyPeople 26 = .ok (.getfield 25, 3) := by decide +kernel
theorem dX5_busyPeople_29 : decode cX5_busyPeople 29 = .ok (.iload_n 3, 1) := by decide +kernel
theorem dX5_busyPeople_30 : decode cX5_busyPeople 30 = .ok (.aaload, 1) := by decide +kernel
theorem dX5_busyPeople_31 : decode cX5_busyPeople 31 = .ok (.invokevirtual 200, 3) := by decide +kernel
theorem dX5_busyPeople_34 : decode cX5_busyPeople 34 = .ok (.ifCond .eq 15, 3) := by decide +kernel
theorem dX5_busyPeople_37 : decode cX5_busyPeople 37 = .ok (.iload_n 2, 1) := by decide +kernel
theorem dX5_busyPeople_38 : decode cX5_busyPeople 38 = .ok (.aload_n 0, 1) := by decide +kernel
theorem dX5_busyPeople_39 : decode cX5_busyPeople 39 = .ok (.getfield 25, 3) := by decide +kernel
theorem dX5_busyPeople_42 : decode cX5_busyPeople 42 = .ok (.iload_n 3, 1) := by decide +kernel
theorem dX5_busyPeople_43 : decode cX5_busyPeople 43 = .ok (.aaload, 1) := by decide +kernel
theorem dX5_busyPeople_44 : decode cX5_busyPeople 44 = .ok (.getfield 195, 3) := by decide +kernel
theorem dX5_busyPeople_47 : decode cX5_busyPeople 47 = .ok (.iadd, 1) := by decide +kernel
theorem dX5_busyPeople_48 : decode cX5_busyPeople 48 = .ok (.istore_n 2, 1) := by decide +kernel
theorem dX5_busyPeople_49 : decode cX5_busyPeople 49 = .ok (.iinc 3 1, 3) := by decide +kernel
theorem dX5_busyPeople_52 : decode cX5_busyPeople 52 = .ok (.goto (-48), 3) := by decide +kernel
theorem dX5_busyPeople_55 : decode cX5_busyPeople 55 = .ok (.iload_n 2, 1) := by decide +kernel
theorem dX5_busyPeople_56 : decode cX5_busyPeople 56 = .ok (.ireturn, 1) := by decide +kernel
theorem dX5_allBusyPeople_0 : decode cX5_allBusyPeople 0 = .ok (.iconst 0, 1) := by decide +kernel
theorem dX5_allBusyPeople_1 : decode cX5_allBusyPeople 1 = .ok (.istore_n 1, 1) := by decide +kernel
theorem dX5_allBusyPeople_2 : decode cX5_allBusyPeople 2 = .ok (.iconst 0, 1) := by decide +kernel
theorem dX5_allBusyPeople_3 : decode cX5_allBusyPeople 3 = .ok (.istore_n 2, 1) := by decide +kernel
theorem dX5_allBusyPeople_4 : decode cX5_allBusyPeople 4 = .ok (.iload_n 2, 1) := by decide +kernel
theorem dX5_allBusyPeople_5 : decode cX5_allBusyPeople 5 = .ok (.aload_n 0, 1) := by decide +kernel
theorem dX5_allBusyPeople_6 : decode cX5_allBusyPeople 6 = .ok (.getfield 40, 3) := by decide +kernel
theorem dX5_allBusyPeople_9 : decode cX5_allBusyPeople 9 = .ok (.if_icmp .ge 33, 3) := by decide +kernel
theorem dX5_allBusyPeople_12 : decode cX5_allBusyPeople 12 = .ok (.aload_n 0, 1) := by decide +kernel
theorem dX5_allBusyPeople_13 : decode cX5_allBusyPeople 13 = .ok (.getfield 25, 3) := by decide +kernel
theorem dX5_allBusyPeople_16 : decode cX5_allBusyPeople 16 = .ok (.iload_n 2, 1) := by decide +kernel
theorem dX5_allBusyPeople_17 : decode cX5_allBusyPeople 17 = .ok (.aaload, 1) := by decide +kernel
theorem dX5_allBusyPeople_18 : decode cX5_allBusyPeople 18 = .ok (.invokevirtual 200, 3) := by decide +kernel
theorem dX5_allBusyPeople_21 : decode cX5_allBusyPeople 21 = .ok (.ifCond .eq 15, 3) := by decide +kernel
theorem dX5_allBusyPeople_24 : decode cX5_allBusyPeople 24 = .ok (.iload_n 1, 1) := by decide +kernel
theorem dX5_allBusyPeople_25 : decode cX5_allBusyPeople 25 = .ok (.aload_n 0, 1) := by decide +kernel
theorem dX5_allBusyPeople_26 : decode cX5_allBusyPeople 26 = .ok (.getfield 25, 3) := by decide +kernel
theorem dX5_allBusyPeople_29 : decode cX5_allBusyPeople 29 = .ok (.iload_n 2, 1) := by decide +kernel
theorem dX5_allBusyPeople_30 : decode cX5_allBusyPeople 30 = .ok (.aaload, 1) := by decide +kernel
theorem dX5_allBusyPeople_31 : decode cX5_allBusyPeople 31 = .ok (.getfield 195, 3) := by decide +kernel
theorem dX5_allBusyPeople_34 : decode cX5_allBusyPeople 34 = .ok (.iadd, 1) := by decide +kernel
theorem dX5_allBusyPeople_35 : decode cX5_allBusyPeople 35 = .ok (.istore_n 1, 1) := by decide +kernel
theorem dX5_allBusyPeople_36 : decode cX5_allBusyPeople 36 = .ok (.iinc 2 1, 3) := by decide +kernel
theorem dX5_allBusyPeople_39 : decode cX5_allBusyPeople 39 = .ok (.goto (-35), 3) := by decide +kernel
theorem dX5_allBusyPeople_42 : decode cX5_allBusyPeople 42 = .ok (.iload_n 1, 1) := by decide +kernel
theorem dX5_allBusyPeople_43 : decode cX5_allBusyPeople 43 = .ok (.ireturn, 1) := by decide +kernel
theorem dX5_assetsRunning_0 : decode cX5_assetsRunning 0 = .ok (.iconst 0, 1) := by decide +kernel
theorem dX5_assetsRunning_1 : decode cX5_assetsRunning 1 = .ok (.istore_n 1, 1) := by decide +kernel
theorem dX5_assetsRunning_2 : decode cX5_assetsRunning 2 = .ok (.iconst 0, 1) := by decide +kernel
theorem dX5_assetsRunning_3 : decode cX5_assetsRunning 3 = .ok (.istore_n 2, 1) := by decide +kernel
theorem dX5_assetsRunning_4 : decode cX5_assetsRunning 4 = .ok (.iload_n 2, 1) := by decide +kernel
theorem dX5_assetsRunning_5 : decode cX5_assetsRunning 5 = .ok (.aload_n 0, 1) := by decide +kernel
theorem dX5_assetsRunning_6 : decode cX5_assetsRunning 6 = .ok (.getfield 33, 3) := by decide +kernel
theorem dX5_assetsRunning_9 : decode cX5_assetsRunning 9 = .ok (.if_icmp .ge 24, 3) := by decide +kernel
theorem dX5_assetsRunning_12 : decode cX5_assetsRunning 12 = .ok (.aload_n 0, 1) := by decide +kernel
theorem dX5_assetsRunning_13 : decode cX5_assetsRunning 13 = .ok (.getfield 11, 3) := by decide +kernel
theorem dX5_assetsRunning_16 : decode cX5_assetsRunning 16 = .ok (.iload_n 2, 1) := by decide +kernel
theorem dX5_assetsRunning_17 : decode cX5_assetsRunning 17 = .ok (.aaload, 1) := by decide +kernel
theorem dX5_assetsRunning_18 : decode cX5_assetsRunning 18 = .ok (.getfield 94, 3) := by decide +kernel
theorem dX5_assetsRunning_21 : decode cX5_assetsRunning 21 = .ok (.ifCond .eq 6, 3) := by decide +kernel
theorem dX5_assetsRunning_24 : decode cX5_assetsRunning 24 = .ok (.iinc 1 1, 3) := by decide +kernel
theorem dX5_assetsRunning_27 : decode cX5_assetsRunning 27 = .ok (.iinc 2 1, 3) := by decide +kernel
theorem dX5_assetsRunning_30 : decode cX5_assetsRunning 30 = .ok (.goto (-26), 3) := by decide +kernel
theorem dX5_assetsRunning_33 : decode cX5_assetsRunning 33 = .ok (.iload_n 1, 1) := by decide +kernel
theorem dX5_assetsRunning_34 : decode cX5_assetsRunning 34 = .ok (.ireturn, 1) := by decide +kernel
theorem dX5_slipsSoFar_0 : decode cX5_slipsSoFar 0 = .ok (.iconst 0, 1) := by decide +kernel
theorem dX5_slipsSoFar_1 : decode cX5_slipsSoFar 1 = .ok (.istore_n 1, 1) := by decide +kernel
theorem dX5_slipsSoFar_2 : decode cX5_slipsSoFar 2 = .ok (.iconst 0, 1) := by decide +kernel
theorem dX5_slipsSoFar_3 : decode cX5_slipsSoFar 3 = .ok (.istore_n 2, 1) := by decide +kernel
theorem dX5_slipsSoFar_4 : decode cX5_slipsSoFar 4 = .ok (.iload_n 2, 1) := by decide +kernel
theorem dX5_slipsSoFar_5 : decode cX5_slipsSoFar 5 = .ok (.aload_n 0, 1) := by decide +kernel
theorem dX5_slipsSoFar_6 : decode cX5_slipsSoFar 6 = .ok (.getfield 40, 3) := by decide +kernel
theorem dX5_slipsSoFar_9 : decode cX5_slipsSoFar 9 = .ok (.if_icmp .ge 21, 3) := by decide +kernel
theorem dX5_slipsSoFar_12 : decode cX5_slipsSoFar 12 = .ok (.iload_n 1, 1) := by decide +kernel
theorem dX5_slipsSoFar_13 : decode cX5_slipsSoFar 13 = .ok (.aload_n 0, 1) := by decide +kernel
theorem dX5_slipsSoFar_14 : decode cX5_slipsSoFar 14 = .ok (.getfield 25, 3) := by decide +kernel
theorem dX5_slipsSoFar_17 : decode cX5_slipsSoFar 17 = .ok (.iload_n 2, 1) := by decide +kernel
theorem dX5_slipsSoFar_18 : decode cX5_slipsSoFar 18 = .ok (.aaload, 1) := by decide +kernel
theorem dX5_slipsSoFar_19 : decode cX5_slipsSoFar 19 = .ok (.getfield 140, 3) := by decide +kernel
theorem dX5_slipsSoFar_22 : decode cX5_slipsSoFar 22 = .ok (.iadd, 1) := by decide +kernel
theorem dX5_slipsSoFar_23 : decode cX5_slipsSoFar 23 = .ok (.istore_n 1, 1) := by decide +kernel
theorem dX5_slipsSoFar_24 : decode cX5_slipsSoFar 24 = .ok (.iinc 2 1, 3) := by decide +kernel
theorem dX5_slipsSoFar_27 : decode cX5_slipsSoFar 27 = .ok (.goto (-23), 3) := by decide +kernel
theorem dX5_slipsSoFar_30 : decode cX5_slipsSoFar 30 = .ok (.iload_n 1, 1) := by decide +kernel
theorem dX5_slipsSoFar_31 : decode cX5_slipsSoFar 31 = .ok (.ireturn, 1) := by decide +kernel
theorem dX6_init_0 : decode cX6_init 0 = .ok (.aload_n 0, 1) := by decide +kernel
theorem dX6_init_1 : decode cX6_init 1 = .ok (.invokespecial 3, 3) := by decide +kernel
theorem dX6_init_4 : decode cX6_init 4 = .ok (.aload_n 0, 1) := by decide +kernel
theorem dX6_init_5 : decode cX6_init 5 = .ok (.iconst 0, 1) := by decide +kernel
theorem dX6_init_6 : decode cX6_init 6 = .ok (.putfield 9, 3) := by decide +kernel
theorem dX6_init_9 : decode cX6_init 9 = .ok (.aload_n 0, 1) := by decide +kernel
theorem dX6_init_10 : decode cX6_init 10 = .ok (.iconst 0, 1) := by decide +kernel
theorem dX6_init_11 : decode cX6_init 11 = .ok (.putfield 15, 3) := by decide +kernel
theorem dX6_init_14 : decode cX6_init 14 = .ok (.aload_n 0, 1) := by decide +kernel
theorem dX6_init_15 : decode cX6_init 15 = .ok (.iconst 0, 1) := by decide +kernel
theorem dX6_init_16 : decode cX6_init 16 = .ok (.putfield 18, 3) := by decide +kernel
theorem dX6_init_19 : decode cX6_init 19 = .ok (.aload_n 0, 1) := by decide +kernel
theorem dX6_init_20 : decode cX6_init 20 = .ok (.iconst 0, 1) := by decide +kernel
theorem dX6_init_21 : decode cX6_init 21 = .ok (.putfield 21, 3) := by decide +kernel
theorem dX6_init_24 : decode cX6_init 24 = .ok (.aload_n 0, 1) := by decide +kernel
theorem dX6_init_25 : decode cX6_init 25 = .ok (.iconst 0, 1) := by decide +kernel
theorem dX6_init_26 : decode cX6_init 26 = .ok (.putfield 24, 3) := by decide +kernel
theorem dX6_init_29 : decode cX6_init 29 = .ok (.aload_n 0, 1) := by decide +kernel
theorem dX6_init_30 : decode cX6_init 30 = .ok (.iconst 0, 1) := by decide +kernel
theorem dX6_init_31 : decode cX6_init 31 = .ok (.putfield 27, 3) := by decide +kernel
theorem dX6_init_34 : decode cX6_init 34 = .ok (.aload_n 0, 1) := by decide +kernel
theorem dX6_init_35 : decode cX6_init 35 = .ok (.iconst 0, 1) := by decide +kernel
theorem dX6_init_36 : decode cX6_init 36 = .ok (.putfield 30, 3) := by decide +kernel
theorem dX6_init_39 : decode cX6_init 39 = .ok (.aload_n 0, 1) := by decide +kernel
theorem dX6_init_40 : decode cX6_init 40 = .ok (.iconst 0, 1) := by decide +kernel
theorem dX6_init_41 : decode cX6_init 41 = .ok (.putfield 33, 3) := by decide +kernel
theorem dX6_init_44 : decode cX6_init 44 = .ok (.aload_n 0, 1) := by decide +kernel
theorem dX6_init_45 : decode cX6_init 45 = .ok (.bipush (-5), 2) := by decide +kernel
theorem dX6_init_47 : decode cX6_init 47 = .ok (.putfield 36, 3) := by decide +kernel
theorem dX6_init_50 : decode cX6_init 50 = .ok (.aload_n 0, 1) := by decide +kernel
theorem dX6_init_51 : decode cX6_init 51 = .ok (.iconst 0, 1) := by decide +kernel
theorem dX6_init_52 : decode cX6_init 52 = .ok (.putfield 39, 3) := by decide +kernel
theorem dX6_init_55 : decode cX6_init 55 = .ok (.aload_n 0, 1) := by decide +kernel
theorem dX6_init_56 : decode cX6_init 56 = .ok (.iconst 0, 1) := by decide +kernel
theorem dX6_init_57 : decode cX6_init 57 = .ok (.putfield 42, 3) := by decide +kernel
theorem dX6_init_60 : decode cX6_init 60 = .ok (.aload_n 0, 1) := by decide +kernel
theorem dX6_init_61 : decode cX6_init 61 = .ok (.iconst 0, 1) := by decide +kernel
theorem dX6_init_62 : decode cX6_init 62 = .ok (.putfield 45, 3) := by decide +kernel
theorem dX6_init_65 : decode cX6_init 65 = .ok (.return_, 1) := by decide +kernel
theorem dX6_setUp_0 : decode cX6_setUp 0 = .ok (.aload_n 0, 1) := by decide +kernel
theorem dX6_setUp_1 : decode cX6_setUp 1 = .ok (.iload_n 1, 1) := by decide +kernel
theorem dX6_setUp_2 : decode cX6_setUp 2 = .ok (.putfield 9, 3) := by decide +kernel
theorem dX6_setUp_5 : decode cX6_setUp 5 = .ok (.aload_n 0, 1) := by decide +kernel
theorem dX6_setUp_6 : decode cX6_setUp 6 = .ok (.iload_n 2, 1) := by decide +kernel
theorem dX6_setUp_7 : decode cX6_setUp 7 = .ok (.putfield 15, 3) := by decide +kernel
theorem dX6_setUp_10 : decode cX6_setUp 10 = .ok (.aload_n 0, 1) := by decide +kernel
theorem dX6_setUp_11 : decode cX6_setUp 11 = .ok (.iload_n 3, 1) := by decide +kernel
theorem dX6_setUp_12 : decode cX6_setUp 12 = .ok (.putfield 18, 3) := by decide +kernel
theorem dX6_setUp_15 : decode cX6_setUp 15 = .ok (.aload_n 0, 1) := by decide +kernel
theorem dX6_setUp_16 : decode cX6_setUp 16 = .ok (.iload 4, 2) := by decide +kernel
theorem dX6_setUp_18 : decode cX6_setUp 18 = .ok (.putfield 21, 3) := by decide +kernel
theorem dX6_setUp_21 : decode cX6_setUp 21 = .ok (.aload_n 0, 1) := by decide +kernel
theorem dX6_setUp_22 : decode cX6_setUp 22 = .ok (.iload 5, 2) := by decide +kernel
theorem dX6_setUp_24 : decode cX6_setUp 24 = .ok (.putfield 24, 3) := by decide +kernel
theorem dX6_setUp_27 : decode cX6_setUp 27 = .ok (.aload_n 0, 1) := by decide +kernel
theorem dX6_setUp_28 : decode cX6_setUp 28 = .ok (.iload 6, 2) := by decide +kernel
theorem dX6_setUp_30 : decode cX6_setUp 30 = .ok (.putfield 27, 3) := by decide +kernel
theorem dX6_setUp_33 : decode cX6_setUp 33 = .ok (.aload_n 0, 1) := by decide +kernel
theorem dX6_setUp_34 : decode cX6_setUp 34 = .ok (.iload 6, 2) := by decide +kernel
theorem dX6_setUp_36 : decode cX6_setUp 36 = .ok (.iconst 2, 1) := by decide +kernel
theorem dX6_setUp_37 : decode cX6_setUp 37 = .ok (.iload 5, 2) := by decide +kernel
theorem dX6_setUp_39 : decode cX6_setUp 39 = .ok (.imul, 1) := by decide +kernel
theorem dX6_setUp_40 : decode cX6_setUp 40 = .ok (.iadd, 1) := by decide +kernel
theorem dX6_setUp_41 : decode cX6_setUp 41 = .ok (.bipush 6, 2) := by decide +kernel
theorem dX6_setUp_43 : decode cX6_setUp 43 = .ok (.iadd, 1) := by decide +kernel
theorem dX6_setUp_44 : decode cX6_setUp 44 = .ok (.putfield 30, 3) := by decide +kernel
theorem dX6_setUp_47 : decode cX6_setUp 47 = .ok (.aload_n 0, 1) := by decide +kernel
theorem dX6_setUp_48 : decode cX6_setUp 48 = .ok (.iconst 0, 1) := by decide +kernel
theorem dX6_setUp_49 : decode cX6_setUp 49 = .ok (.putfield 33, 3) := by decide +kernel
theorem dX6_setUp_52 : decode cX6_setUp 52 = .ok (.aload_n 0, 1) := by decide +kernel
theorem dX6_setUp_53 : decode cX6_setUp 53 = .ok (.bipush (-5), 2) := by decide +kernel
theorem dX6_setUp_55 : decode cX6_setUp 55 = .ok (.putfield 36, 3) := by decide +kernel
theorem dX6_setUp_58 : decode cX6_setUp 58 = .ok (.aload_n 0, 1) := by decide +kernel
theorem dX6_setUp_59 : decode cX6_setUp 59 = .ok (.iconst 0, 1) := by decide +kernel
theorem dX6_setUp_60 : decode cX6_setUp 60 = .ok (.putfield 39, 3) := by decide +kernel
theorem dX6_setUp_63 : decode cX6_setUp 63 = .ok (.aload_n 0, 1) := by decide +kernel
theorem dX6_setUp_64 : decode cX6_setUp 64 = .ok (.iconst 0, 1) := by decide +kernel
theorem dX6_setUp_65 : decode cX6_setUp 65 = .ok (.putfield 42, 3) := by decide +kernel
theorem dX6_setUp_68 : decode cX6_setUp 68 = .ok (.aload_n 0, 1) := by decide +kernel
theorem dX6_setUp_69 : decode cX6_setUp 69 = .ok (.iconst 0, 1) := by decide +kernel
theorem dX6_setUp_70 : decode cX6_setUp 70 = .ok (.putfield 45, 3) := by decide +kernel
theorem dX6_setUp_73 : decode cX6_setUp 73 = .ok (.return_, 1) := by decide +kernel
theorem dX6_copyFrom_0 : decode cX6_copyFrom 0 = .ok (.aload_n 0, 1) := by decide +kernel
theorem dX6_copyFrom_1 : decode cX6_copyFrom 1 = .ok (.aload_n 1, 1) := by decide +kernel
theorem dX6_copyFrom_2 : decode cX6_copyFrom 2 = .ok (.getfield 9, 3) := by decide +kernel
theorem dX6_copyFrom_5 : decode cX6_copyFrom 5 = .ok (.putfield 9, 3) := by decide +kernel
theorem dX6_copyFrom_8 : decode cX6_copyFrom 8 = .ok (.aload_n 0, 1) := by decide +kernel
theorem dX6_copyFrom_9 : decode cX6_copyFrom 9 = .ok (.aload_n 1, 1) := by decide +kernel
theorem dX6_copyFrom_10 : decode cX6_copyFrom 10 = .ok (.getfield 15, 3) := by decide +kernel
theorem dX6_copyFrom_13 : decode cX6_copyFrom 13 = .ok (.putfield 15, 3) := by decide +kernel
theorem dX6_copyFrom_16 : decode cX6_copyFrom 16 = .ok (.aload_n 0, 1) := by decide +kernel
theorem dX6_copyFrom_17 : decode cX6_copyFrom 17 = .ok (.aload_n 1, 1) := by decide +kernel
theorem dX6_copyFrom_18 : decode cX6_copyFrom 18 = .ok (.getfield 18, 3) := by decide +kernel
theorem dX6_copyFrom_21 : decode cX6_copyFrom 21 = .ok (.putfield 18, 3) := by decide +kernel
theorem dX6_copyFrom_24 : decode cX6_copyFrom 24 = .ok (.aload_n 0, 1) := by decide +kernel
theorem dX6_copyFrom_25 : decode cX6_copyFrom 25 = .ok (.aload_n 1, 1) := by decide +kernel
theorem dX6_copyFrom_26 : decode cX6_copyFrom 26 = .ok (.getfield 21, 3) := by decide +kernel
theorem dX6_copyFrom_29 : decode cX6_copyFrom 29 = .ok (.putfield 21, 3) := by decide +kernel
theorem dX6_copyFrom_32 : decode cX6_copyFrom 32 = .ok (.aload_n 0, 1) := by decide +kernel
theorem dX6_copyFrom_33 : decode cX6_copyFrom 33 = .ok (.aload_n 1, 1) := by decide +kernel
theorem dX6_copyFrom_34 : decode cX6_copyFrom 34 = .ok (.getfield 24, 3) := by decide +kernel
theorem dX6_copyFrom_37 : decode cX6_copyFrom 37 = .ok (.putfield 24, 3) := by decide +kernel
theorem dX6_copyFrom_40 : decode cX6_copyFrom 40 = .ok (.aload_n 0, 1) := by decide +kernel
theorem dX6_copyFrom_41 : decode cX6_copyFrom 41 = .ok (.aload_n 1, 1) := by decide +kernel
theorem dX6_copyFrom_42 : decode cX6_copyFrom 42 = .ok (.getfield 27, 3) := by decide +kernel
theorem dX6_copyFrom_45 : decode cX6_copyFrom 45 = .ok (.putfield 27, 3) := by decide +kernel
theorem dX6_copyFrom_48 : decode cX6_copyFrom 48 = .ok (.aload_n 0, 1) := by decide +kernel
theorem dX6_copyFrom_49 : decode cX6_copyFrom 49 = .ok (.aload_n 1, 1) := by decide +kernel
theorem dX6_copyFrom_50 : decode cX6_copyFrom 50 = .ok (.getfield 30, 3) := by decide +kernel
theorem dX6_copyFrom_53 : decode cX6_copyFrom 53 = .ok (.putfield 30, 3) := by decide +kernel
theorem dX6_copyFrom_56 : decode cX6_copyFrom 56 = .ok (.aload_n 0, 1) := by decide +kernel
theorem dX6_copyFrom_57 : decode cX6_copyFrom 57 = .ok (.aload_n 1, 1) := by decide +kernel
theorem dX6_copyFrom_58 : decode cX6_copyFrom 58 = .ok (.getfield 33, 3) := by decide +kernel
theorem dX6_copyFrom_61 : decode cX6_copyFrom 61 = .ok (.putfield 33, 3) := by decide +kernel
theorem dX6_copyFrom_64 : decode cX6_copyFrom 64 = .ok (.aload_n 0, 1) := by decide +kernel
theorem dX6_copyFrom_65 : decode cX6_copyFrom 65 = .ok (.aload_n 1, 1) := by decide +kernel
theorem dX6_copyFrom_66 : decode cX6_copyFrom 66 = .ok (.getfield 36, 3) := by decide +kernel
theorem dX6_copyFrom_69 : decode cX6_copyFrom 69 = .ok (.putfield 36, 3) := by decide +kernel
theorem dX6_copyFrom_72 : decode cX6_copyFrom 72 = .ok (.aload_n 0, 1) := by decide +kernel
theorem dX6_copyFrom_73 : decode cX6_copyFrom 73 = .ok (.aload_n 1, 1) := by decide +kernel
theorem dX6_copyFrom_74 : decode cX6_copyFrom 74 = .ok (.getfield 39, 3) := by decide +kernel
theorem dX6_copyFrom_77 : decode cX6_copyFrom 77 = .ok (.putfield 39, 3) := by decide +kernel
theorem dX6_copyFrom_80 : decode cX6_copyFrom 80 = .ok (.aload_n 0, 1) := by decide +kernel
theorem dX6_copyFrom_81 : decode cX6_copyFrom 81 = .ok (.aload_n 1, 1) := by decide +kernel
theorem dX6_copyFrom_82 : decode cX6_copyFrom 82 = .ok (.getfield 42, 3) := by decide +kernel
theorem dX6_copyFrom_85 : decode cX6_copyFrom 85 = .ok (.putfield 42, 3) := by decide +kernel
theorem dX6_copyFrom_88 : decode cX6_copyFrom 88 = .ok (.aload_n 0, 1) := by decide +kernel
theorem dX6_copyFrom_89 : decode cX6_copyFrom 89 = .ok (.aload_n 1, 1) := by decide +kernel
theorem dX6_copyFrom_90 : decode cX6_copyFrom 90 = .ok (.getfield 45, 3) := by decide +kernel
theorem dX6_copyFrom_93 : decode cX6_copyFrom 93 = .ok (.putfield 45, 3) := by decide +kernel
theorem dX6_copyFrom_96 : decode cX6_copyFrom 96 = .ok (.return_, 1) := by decide +kernel
theorem dX6_isIn_0 : decode cX6_isIn 0 = .ok (.aload_n 0, 1) := by decide +kernel
theorem dX6_isIn_1 : decode cX6_isIn 1 = .ok (.getfield 33, 3) := by decide +kernel
theorem dX6_isIn_4 : decode cX6_isIn 4 = .ok (.iload_n 1, 1) := by decide +kernel
theorem dX6_isIn_5 : decode cX6_isIn 5 = .ok (.if_icmp .lt 15, 3) := by decide +kernel
theorem dX6_isIn_8 : decode cX6_isIn 8 = .ok (.aload_n 0, 1) := by decide +kernel
theorem dX6_isIn_9 : decode cX6_isIn 9 = .ok (.getfield 33, 3) := by decide +kernel
theorem dX6_isIn_12 : decode cX6_isIn 12 = .ok (.iload_n 2, 1) := by decide +kernel
theorem dX6_isIn_13 : decode cX6_isIn 13 = .ok (.if_icmp .gt 7, 3) := by decide +kernel
theorem dX6_isIn_16 : decode cX6_isIn 16 = .ok (.iconst 1, 1) := by decide +kernel
theorem dX6_isIn_17 : decode cX6_isIn 17 = .ok (.goto 4, 3) := by decide +kernel
theorem dX6_isIn_20 : decode cX6_isIn 20 = .ok (.iconst 0, 1) := by decide +kernel
theorem dX6_isIn_21 : decode cX6_isIn 21 = .ok (.ireturn, 1) := by decide +kernel
theorem dX6_tagHangs_0 : decode cX6_tagHangs 0 = .ok (.aload_n 0, 1) := by decide +kernel
theorem dX6_tagHangs_1 : decode cX6_tagHangs 1 = .ok (.iconst 1, 1) := by decide +kernel
theorem dX6_tagHangs_2 : decode cX6_tagHangs 2 = .ok (.iconst 3, 1) := by decide +kernel
theorem dX6_tagHangs_3 : decode cX6_tagHangs 3 = .ok (.invokevirtual 48, 3) := by decide +kernel
theorem dX6_tagHangs_6 : decode cX6_tagHangs 6 = .ok (.ireturn, 1) := by decide +kernel
theorem dX6_isTooLateAt_0 : decode cX6_isTooLateAt 0 = .ok (.iload_n 1, 1) := by decide +kernel
theorem dX6_isTooLateAt_1 : decode cX6_isTooLateAt 1 = .ok (.aload_n 0, 1) := by decide +kernel
theorem dX6_isTooLateAt_2 : decode cX6_isTooLateAt 2 = .ok (.getfield 24, 3) := by decide +kernel
theorem dX6_isTooLateAt_5 : decode cX6_isTooLateAt 5 = .ok (.iadd, 1) := by decide +kernel
theorem dX6_isTooLateAt_6 : decode cX6_isTooLateAt 6 = .ok (.aload_n 0, 1) := by decide +kernel
theorem dX6_isTooLateAt_7 : decode cX6_isTooLateAt 7 = .ok (.getfield 30, 3) := by decide +kernel
theorem dX6_isTooLateAt_10 : decode cX6_isTooLateAt 10 = .ok (.if_icmp .le 7, 3) := by decide +kernel
theorem dX6_isTooLateAt_13 : decode cX6_isTooLateAt 13 = .ok (.iconst 1, 1) := by decide +kernel
theorem dX6_isTooLateAt_14 : decode cX6_isTooLateAt 14 = .ok (.goto 4, 3) := by decide +kernel
theorem dX6_isTooLateAt_17 : decode cX6_isTooLateAt 17 = .ok (.iconst 0, 1) := by decide +kernel
theorem dX6_isTooLateAt_18 : decode cX6_isTooLateAt 18 = .ok (.ireturn, 1) := by decide +kernel
theorem dX6_slip_0 : decode cX6_slip 0 = .ok (.aload_n 0, 1) := by decide +kernel
theorem dX6_slip_1 : decode cX6_slip 1 = .ok (.getfield 33, 3) := by decide +kernel
theorem dX6_slip_4 : decode cX6_slip 4 = .ok (.ifCond .ne 17, 3) := by decide +kernel
theorem dX6_slip_7 : decode cX6_slip 7 = .ok (.aload_n 0, 1) := by decide +kernel
theorem dX6_slip_8 : decode cX6_slip 8 = .ok (.getfield 42, 3) := by decide +kernel
theorem dX6_slip_11 : decode cX6_slip 11 = .ok (.iconst 3, 1) := by decide +kernel
theorem dX6_slip_12 : decode cX6_slip 12 = .ok (.if_icmp .lt 9, 3) := by decide +kernel
theorem dX6_slip_15 : decode cX6_slip 15 = .ok (.aload_n 0, 1) := by decide +kernel
theorem dX6_slip_16 : decode cX6_slip 16 = .ok (.iconst 5, 1) := by decide +kernel
theorem dX6_slip_17 : decode cX6_slip 17 = .ok (.putfield 33, 3) := by decide +kernel
theorem dX6_slip_20 : decode cX6_slip 20 = .ok (.return_, 1) := by decide +kernel
theorem dX6_slip_21 : decode cX6_slip 21 = .ok (.aload_n 0, 1) := by decide +kernel
theorem dX6_slip_22 : decode cX6_slip 22 = .ok (.dup, 1) := by decide +kernel
theorem dX6_slip_23 : decode cX6_slip 23 = .ok (.getfield 27, 3) := by decide +kernel
theorem dX6_slip_26 : decode cX6_slip 26 = .ok (.bipush 24, 2) := by decide +kernel
theorem dX6_slip_28 : decode cX6_slip 28 = .ok (.iadd, 1) := by decide +kernel
theorem dX6_slip_29 : decode cX6_slip 29 = .ok (.putfield 27, 3) := by decide +kernel
theorem dX6_slip_32 : decode cX6_slip 32 = .ok (.aload_n 0, 1) := by decide +kernel
theorem dX6_slip_33 : decode cX6_slip 33 = .ok (.dup, 1) := by decide +kernel
theorem dX6_slip_34 : decode cX6_slip 34 = .ok (.getfield 30, 3) := by decide +kernel
theorem dX6_slip_37 : decode cX6_slip 37 = .ok (.bipush 24, 2) := by decide +kernel
theorem dX6_slip_39 : decode cX6_slip 39 = .ok (.iadd, 1) := by decide +kernel
theorem dX6_slip_40 : decode cX6_slip 40 = .ok (.putfield 30, 3) := by decide +kernel
theorem dX6_slip_43 : decode cX6_slip 43 = .ok (.aload_n 0, 1) := by decide +kernel
theorem dX6_slip_44 : decode cX6_slip 44 = .ok (.dup, 1) := by decide +kernel
theorem dX6_slip_45 : decode cX6_slip 45 = .ok (.getfield 42, 3) := by decide +kernel
theorem dX6_slip_48 : decode cX6_slip 48 = .ok (.iconst 1, 1) := by decide +kernel
theorem dX6_slip_49 : decode cX6_slip 49 = .ok (.iadd, 1) := by decide +kernel
theorem dX6_slip_50 : decode cX6_slip 50 = .ok (.putfield 42, 3) := by decide +kernel
theorem dX6_slip_53 : decode cX6_slip 53 = .ok (.return_, 1) := by decide +kernel
theorem dX7_init_0 : decode cX7_init 0 = .ok (.aload_n 0, 1) := by decide +kernel
theorem dX7_init_1 : decode cX7_init 1 = .ok (.invokespecial 1, 3) := by decide +kernel
theorem dX7_init_4 : decode cX7_init 4 = .ok (.aload_n 0, 1) := by decide +kernel
theorem dX7_init_5 : decode cX7_init 5 = .ok (.new 7, 3) := by decide +kernel
theorem dX7_init_8 : decode cX7_init 8 = .ok (.dup, 1) := by decide +kernel
theorem dX7_init_9 : decode cX7_init 9 = .ok (.invokespecial 9, 3) := by decide +kernel
theorem dX7_init_12 : decode cX7_init 12 = .ok (.putfield 10, 3) := by decide +kernel
theorem dX7_init_15 : decode cX7_init 15 = .ok (.aload_n 0, 1) := by decide +kernel
theorem dX7_init_16 : decode cX7_init 16 = .ok (.new 7, 3) := by decide +kernel
theorem dX7_init_19 : decode cX7_init 19 = .ok (.dup, 1) := by decide +kernel
theorem dX7_init_20 : decode cX7_init 20 = .ok (.invokespecial 9, 3) := by decide +kernel
theorem dX7_init_23 : decode cX7_init 23 = .ok (.putfield 16, 3) := by decide +kernel
theorem dX7_init_26 : decode cX7_init 26 = .ok (.aload_n 0, 1) := by decide +kernel
theorem dX7_init_27 : decode cX7_init 27 = .ok (.new 7, 3) := by decide +kernel
theorem dX7_init_30 : decode cX7_init 30 = .ok (.dup, 1) := by decide +kernel
theorem dX7_init_31 : decode cX7_init 31 = .ok (.invokespecial 9, 3) := by decide +kernel
theorem dX7_init_34 : decode cX7_init 34 = .ok (.putfield 19, 3) := by decide +kernel
theorem dX7_init_37 : decode cX7_init 37 = .ok (.aload_n 0, 1) := by decide +kernel
theorem dX7_init_38 : decode cX7_init 38 = .ok (.iconst 0, 1) := by decide +kernel
theorem dX7_init_39 : decode cX7_init 39 = .ok (.putfield 22, 3) := by decide +kernel
theorem dX7_init_42 : decode cX7_init 42 = .ok (.aload_n 0, 1) := by decide +kernel
theorem dX7_init_43 : decode cX7_init 43 = .ok (.new 26, 3) := by decide +kernel
theorem dX7_init_46 : decode cX7_init 46 = .ok (.dup, 1) := by decide +kernel
theorem dX7_init_47 : decode cX7_init 47 = .ok (.invokespecial 28, 3) := by decide +kernel
theorem dX7_init_50 : decode cX7_init 50 = .ok (.putfield 29, 3) := by decide +kernel
theorem dX7_init_53 : decode cX7_init 53 = .ok (.aload_n 0, 1) := by decide +kernel
theorem dX7_init_54 : decode cX7_init 54 = .ok (.new 33, 3) := by decide +kernel
theorem dX7_init_57 : decode cX7_init 57 = .ok (.dup, 1) := by decide +kernel
theorem dX7_init_58 : decode cX7_init 58 = .ok (.invokespecial 35, 3) := by decide +kernel
theorem dX7_init_61 : decode cX7_init 61 = .ok (.putfield 36, 3) := by decide +kernel
theorem dX7_init_64 : decode cX7_init 64 = .ok (.return_, 1) := by decide +kernel
theorem dX7_addAsset_0 : decode cX7_addAsset 0 = .ok (.aload_n 0, 1) := by decide +kernel
theorem dX7_addAsset_1 : decode cX7_addAsset 1 = .ok (.getfield 16, 3) := by decide +kernel
theorem dX7_addAsset_4 : decode cX7_addAsset 4 = .ok (.aload_n 0, 1) := by decide +kernel
theorem dX7_addAsset_5 : decode cX7_addAsset 5 = .ok (.getfield 10, 3) := by decide +kernel
theorem dX7_addAsset_8 : decode cX7_addAsset 8 = .ok (.invokevirtual 40, 3) := by decide +kernel
theorem dX7_addAsset_11 : decode cX7_addAsset 11 = .ok (.aload_n 0, 1) := by decide +kernel
theorem dX7_addAsset_12 : decode cX7_addAsset 12 = .ok (.aload_n 0, 1) := by decide +kernel
theorem dX7_addAsset_13 : decode cX7_addAsset 13 = .ok (.getfield 10, 3) := by decide +kernel
theorem dX7_addAsset_16 : decode cX7_addAsset 16 = .ok (.iload_n 1, 1) := by decide +kernel
theorem dX7_addAsset_17 : decode cX7_addAsset 17 = .ok (.iload_n 2, 1) := by decide +kernel
theorem dX7_addAsset_18 : decode cX7_addAsset 18 = .ok (.invokevirtual 44, 3) := by decide +kernel
theorem dX7_addAsset_21 : decode cX7_addAsset 21 = .ok (.invokevirtual 48, 3) := by decide +kernel
theorem dX7_addAsset_24 : decode cX7_addAsset 24 = .ok (.ireturn, 1) := by decide +kernel
theorem dX7_link_0 : decode cX7_link 0 = .ok (.aload_n 0, 1) := by decide +kernel
theorem dX7_link_1 : decode cX7_link 1 = .ok (.getfield 16, 3) := by decide +kernel
theorem dX7_link_4 : decode cX7_link 4 = .ok (.aload_n 0, 1) := by decide +kernel
theorem dX7_link_5 : decode cX7_link 5 = .ok (.getfield 10, 3) := by decide +kernel
theorem dX7_link_8 : decode cX7_link 8 = .ok (.invokevirtual 40, 3) := by decide +kernel
theorem dX7_link_11 : decode cX7_link 11 = .ok (.aload_n 0, 1) := by decide +kernel
theorem dX7_link_12 : decode cX7_link 12 = .ok (.aload_n 0, 1) := by decide +kernel
theorem dX7_link_13 : decode cX7_link 13 = .ok (.getfield 10, 3) := by decide +kernel
theorem dX7_link_16 : decode cX7_link 16 = .ok (.iload_n 1, 1) := by decide +kernel
theorem dX7_link_17 : decode cX7_link 17 = .ok (.iload_n 2, 1) := by decide +kernel
theorem dX7_link_18 : decode cX7_link 18 = .ok (.iload_n 3, 1) := by decide +kernel
theorem dX7_link_19 : decode cX7_link 19 = .ok (.invokevirtual 52, 3) := by decide +kernel
theorem dX7_link_22 : decode cX7_link 22 = .ok (.invokevirtual 48, 3) := by decide +kernel
theorem dX7_link_25 : decode cX7_link 25 = .ok (.ireturn, 1) := by decide +kernel
theorem dX7_bar_0 : decode cX7_bar 0 = .ok (.aload_n 0, 1) := by decide +kernel
theorem dX7_bar_1 : decode cX7_bar 1 = .ok (.getfield 16, 3) := by decide +kernel
theorem dX7_bar_4 : decode cX7_bar 4 = .ok (.aload_n 0, 1) := by decide +kernel
theorem dX7_bar_5 : decode cX7_bar 5 = .ok (.getfield 10, 3) := by decide +kernel
theorem dX7_bar_8 : decode cX7_bar 8 = .ok (.invokevirtual 40, 3) := by decide +kernel
theorem dX7_bar_11 : decode cX7_bar 11 = .ok (.aload_n 0, 1) := by decide +kernel
theorem dX7_bar_12 : decode cX7_bar 12 = .ok (.aload_n 0, 1) := by decide +kernel
theorem dX7_bar_13 : decode cX7_bar 13 = .ok (.getfield 10, 3) := by decide +kernel
theorem dX7_bar_16 : decode cX7_bar 16 = .ok (.iload_n 1, 1) := by decide +kernel
theorem dX7_bar_17 : decode cX7_bar 17 = .ok (.iload_n 2, 1) := by decide +kernel
theorem dX7_bar_18 : decode cX7_bar 18 = .ok (.iload_n 3, 1) := by decide +kernel
theorem dX7_bar_19 : decode cX7_bar 19 = .ok (.invokevirtual 56, 3) := by decide +kernel
theorem dX7_bar_22 : decode cX7_bar 22 = .ok (.invokevirtual 48, 3) := by decide +kernel
theorem dX7_bar_25 : decode cX7_bar 25 = .ok (.ireturn, 1) := by decide +kernel
theorem dX7_addCrew_0 : decode cX7_addCrew 0 = .ok (.aload_n 0, 1) := by decide +kernel
theorem dX7_addCrew_1 : decode cX7_addCrew 1 = .ok (.getfield 16, 3) := by decide +kernel
theorem dX7_addCrew_4 : decode cX7_addCrew 4 = .ok (.aload_n 0, 1) := by decide +kernel
theorem dX7_addCrew_5 : decode cX7_addCrew 5 = .ok (.getfield 10, 3) := by decide +kernel
theorem dX7_addCrew_8 : decode cX7_addCrew 8 = .ok (.invokevirtual 40, 3) := by decide +kernel
theorem dX7_addCrew_11 : decode cX7_addCrew 11 = .ok (.aload_n 0, 1) := by decide +kernel
theorem dX7_addCrew_12 : decode cX7_addCrew 12 = .ok (.aload_n 0, 1) := by decide +kernel
theorem dX7_addCrew_13 : decode cX7_addCrew 13 = .ok (.getfield 10, 3) := by decide +kernel
theorem dX7_addCrew_16 : decode cX7_addCrew 16 = .ok (.iload_n 1, 1) := by decide +kernel
theorem dX7_addCrew_17 : decode cX7_addCrew 17 = .ok (.iload_n 2, 1) := by decide +kernel
theorem dX7_addCrew_18 : decode cX7_addCrew 18 = .ok (.invokevirtual 59, 3) := by decide +kernel
theorem dX7_addCrew_21 : decode cX7_addCrew 21 = .ok (.invokevirtual 48, 3) := by decide +kernel
theorem dX7_addCrew_24 : decode cX7_addCrew 24 = .ok (.ireturn, 1) := by decide +kernel
theorem dX7_addTask_0 : decode cX7_addTask 0 = .ok (.aload_n 0, 1) := by decide +kernel
theorem dX7_addTask_1 : decode cX7_addTask 1 = .ok (.getfield 16, 3) := by decide +kernel
theorem dX7_addTask_4 : decode cX7_addTask 4 = .ok (.aload_n 0, 1) := by decide +kernel
theorem dX7_addTask_5 : decode cX7_addTask 5 = .ok (.getfield 10, 3) := by decide +kernel
theorem dX7_addTask_8 : decode cX7_addTask 8 = .ok (.invokevirtual 40, 3) := by decide +kernel
theorem dX7_addTask_11 : decode cX7_addTask 11 = .ok (.aload_n 0, 1) := by decide +kernel
theorem dX7_addTask_12 : decode cX7_addTask 12 = .ok (.aload_n 0, 1) := by decide +kernel
theorem dX7_addTask_13 : decode cX7_addTask 13 = .ok (.getfield 10, 3) := by decide +kernel
theorem dX7_addTask_16 : decode cX7_addTask 16 = .ok (.iload_n 1, 1) := by decide +kernel
theorem dX7_addTask_17 : decode cX7_addTask 17 = .ok (.iload_n 2, 1) := by decide +kernel
theorem dX7_addTask_18 : decode cX7_addTask 18 = .ok (.iload_n 3, 1) := by decide +kernel
theorem dX7_addTask_19 : decode cX7_addTask 19 = .ok (.iload 4, 2) := by decide +kernel
theorem dX7_addTask_21 : decode cX7_addTask 21 = .ok (.iload 5, 2) := by decide +kernel
theorem dX7_addTask_23 : decode cX7_addTask 23 = .ok (.iload 6, 2) := by decide +kernel
theorem dX7_addTask_25 : decode cX7_addTask 25 = .ok (.invokevirtual 62, 3) := by decide +kernel
theorem dX7_addTask_28 : decode cX7_addTask 28 = .ok (.invokevirtual 48, 3) := by decide +kernel
theorem dX7_addTask_31 : decode cX7_addTask 31 = .ok (.ireturn, 1) := by decide +kernel
theorem dX7_run_0 : decode cX7_run 0 = .ok (.aload_n 0, 1) := by decide +kernel
theorem dX7_run_1 : decode cX7_run 1 = .ok (.getfield 16, 3) := by decide +kernel
theorem dX7_run_4 : decode cX7_run 4 = .ok (.aload_n 0, 1) := by decide +kernel
theorem dX7_run_5 : decode cX7_run 5 = .ok (.getfield 10, 3) := by decide +kernel
theorem dX7_run_8 : decode cX7_run 8 = .ok (.invokevirtual 40, 3) := by decide +kernel
theorem dX7_run_11 : decode cX7_run 11 = .ok (.aload_n 0, 1) := by decide +kernel
theorem dX7_run_12 : decode cX7_run 12 = .ok (.aload_n 0, 1) := by decide +kernel
theorem dX7_run_13 : decode cX7_run 13 = .ok (.getfield 10, 3) := by decide +kernel
theorem dX7_run_16 : decode cX7_run 16 = .ok (.iload_n 1, 1) := by decide +kernel
theorem dX7_run_17 : decode cX7_run 17 = .ok (.invokevirtual 66, 3) := by decide +kernel
theorem dX7_run_20 : decode cX7_run 20 = .ok (.invokevirtual 48, 3) := by decide +kernel
theorem dX7_run_23 : decode cX7_run 23 = .ok (.ireturn, 1) := by decide +kernel
theorem dX7_stop_0 : decode cX7_stop 0 = .ok (.aload_n 0, 1) := by decide +kernel
theorem dX7_stop_1 : decode cX7_stop 1 = .ok (.getfield 16, 3) := by decide +kernel
theorem dX7_stop_4 : decode cX7_stop 4 = .ok (.aload_n 0, 1) := by decide +kernel
theorem dX7_stop_5 : decode cX7_stop 5 = .ok (.getfield 10, 3) := by decide +kernel
theorem dX7_stop_8 : decode cX7_stop 8 = .ok (.invokevirtual 40, 3) := by decide +kernel
theorem dX7_stop_11 : decode cX7_stop 11 = .ok (.aload_n 0, 1) := by decide +kernel
theorem dX7_stop_12 : decode cX7_stop 12 = .ok (.aload_n 0, 1) := by decide +kernel
theorem dX7_stop_13 : decode cX7_stop 13 = .ok (.getfield 10, 3) := by decide +kernel
theorem dX7_stop_16 : decode cX7_stop 16 = .ok (.iload_n 1, 1) := by decide +kernel
theorem dX7_stop_17 : decode cX7_stop 17 = .ok (.invokevirtual 69, 3) := by decide +kernel
theorem dX7_stop_20 : decode cX7_stop 20 = .ok (.invokevirtual 48, 3) := by decide +kernel
theorem dX7_stop_23 : decode cX7_stop 23 = .ok (.ireturn, 1) := by decide +kernel
theorem dX7_hang_0 : decode cX7_hang 0 = .ok (.aload_n 0, 1) := by decide +kernel
theorem dX7_hang_1 : decode cX7_hang 1 = .ok (.getfield 16, 3) := by decide +kernel
theorem dX7_hang_4 : decode cX7_hang 4 = .ok (.aload_n 0, 1) := by decide +kernel
theorem dX7_hang_5 : decode cX7_hang 5 = .ok (.getfield 10, 3) := by decide +kernel
theorem dX7_hang_8 : decode cX7_hang 8 = .ok (.invokevirtual 40, 3) := by decide +kernel
theorem dX7_hang_11 : decode cX7_hang 11 = .ok (.aload_n 0, 1) := by decide +kernel
theorem dX7_hang_12 : decode cX7_hang 12 = .ok (.aload_n 0, 1) := by decide +kernel
theorem dX7_hang_13 : decode cX7_hang 13 = .ok (.getfield 10, 3) := by decide +kernel
theorem dX7_hang_16 : decode cX7_hang 16 = .ok (.iload_n 1, 1) := by decide +kernel
theorem dX7_hang_17 : decode cX7_hang 17 = .ok (.iload_n 2, 1) := by decide +kernel
theorem dX7_hang_18 : decode cX7_hang 18 = .ok (.invokevirtual 72, 3) := by decide +kernel
theorem dX7_hang_21 : decode cX7_hang 21 = .ok (.invokevirtual 48, 3) := by decide +kernel
theorem dX7_hang_24 : decode cX7_hang 24 = .ok (.ireturn, 1) := by decide +kernel
theorem dX7_begin_0 : decode cX7_begin 0 = .ok (.aload_n 0, 1) := by decide +kernel
theorem dX7_begin_1 : decode cX7_begin 1 = .ok (.getfield 16, 3) := by decide +kernel
theorem dX7_begin_4 : decode cX7_begin 4 = .ok (.aload_n 0, 1) := by decide +kernel
theorem dX7_begin_5 : decode cX7_begin 5 = .ok (.getfield 10, 3) := by decide +kernel
theorem dX7_begin_8 : decode cX7_begin 8 = .ok (.invokevirtual 40, 3) := by decide +kernel
theorem dX7_begin_11 : decode cX7_begin 11 = .ok (.aload_n 0, 1) := by decide +kernel
theorem dX7_begin_12 : decode cX7_begin 12 = .ok (.aload_n 0, 1) := by decide +kernel
theorem dX7_begin_13 : decode cX7_begin 13 = .ok (.getfield 10, 3) := by decide +kernel
theorem dX7_begin_16 : decode cX7_begin 16 = .ok (.iload_n 1, 1) := by decide +kernel
theorem dX7_begin_17 : decode cX7_begin 17 = .ok (.invokevirtual 75, 3) := by decide +kernel
theorem dX7_begin_20 : decode cX7_begin 20 = .ok (.invokevirtual 48, 3) := by decide +kernel
theorem dX7_begin_23 : decode cX7_begin 23 = .ok (.ireturn, 1) := by decide +kernel
theorem dX7_lift_0 : decode cX7_lift 0 = .ok (.aload_n 0, 1) := by decide +kernel
theorem dX7_lift_1 : decode cX7_lift 1 = .ok (.getfield 16, 3) := by decide +kernel
theorem dX7_lift_4 : decode cX7_lift 4 = .ok (.aload_n 0, 1) := by decide +kernel
theorem dX7_lift_5 : decode cX7_lift 5 = .ok (.getfield 10, 3) := by decide +kernel
theorem dX7_lift_8 : decode cX7_lift 8 = .ok (.invokevirtual 40, 3) := by decide +kernel
theorem dX7_lift_11 : decode cX7_lift 11 = .ok (.aload_n 0, 1) := by decide +kernel
theorem dX7_lift_12 : decode cX7_lift 12 = .ok (.aload_n 0, 1) := by decide +kernel
theorem dX7_lift_13 : decode cX7_lift 13 = .ok (.getfield 10, 3) := by decide +kernel
theorem dX7_lift_16 : decode cX7_lift 16 = .ok (.iload_n 1, 1) := by decide +kernel
theorem dX7_lift_17 : decode cX7_lift 17 = .ok (.iload_n 2, 1) := by decide +kernel
theorem dX7_lift_18 : decode cX7_lift 18 = .ok (.invokevirtual 78, 3) := by decide +kernel
theorem dX7_lift_21 : decode cX7_lift 21 = .ok (.invokevirtual 48, 3) := by decide +kernel
theorem dX7_lift_24 : decode cX7_lift 24 = .ok (.ireturn, 1) := by decide +kernel
theorem dX7_cancel_0 : decode cX7_cancel 0 = .ok (.aload_n 0, 1) := by decide +kernel
theorem dX7_cancel_1 : decode cX7_cancel 1 = .ok (.getfield 16, 3) := by decide +kernel
theorem dX7_cancel_4 : decode cX7_cancel 4 = .ok (.aload_n 0, 1) := by decide +kernel
theorem dX7_cancel_5 : decode cX7_cancel 5 = .ok (.getfield 10, 3) := by decide +kernel
theorem dX7_cancel_8 : decode cX7_cancel 8 = .ok (.invokevirtual 40, 3) := by decide +kernel
theorem dX7_cancel_11 : decode cX7_cancel 11 = .ok (.aload_n 0, 1) := by decide +kernel
theorem dX7_cancel_12 : decode cX7_cancel 12 = .ok (.aload_n 0, 1) := by decide +kernel
theorem dX7_cancel_13 : decode cX7_cancel 13 = .ok (.getfield 10, 3) := by decide +kernel
theorem dX7_cancel_16 : decode cX7_cancel 16 = .ok (.iload_n 1, 1) := by decide +kernel
theorem dX7_cancel_17 : decode cX7_cancel 17 = .ok (.invokevirtual 81, 3) := by decide +kernel
theorem dX7_cancel_20 : decode cX7_cancel 20 = .ok (.invokevirtual 48, 3) := by decide +kernel
theorem dX7_cancel_23 : decode cX7_cancel 23 = .ok (.ireturn, 1) := by decide +kernel
theorem dX7_pass_0 : decode cX7_pass 0 = .ok (.aload_n 0, 1) := by decide +kernel
theorem dX7_pass_1 : decode cX7_pass 1 = .ok (.getfield 16, 3) := by decide +kernel
theorem dX7_pass_4 : decode cX7_pass 4 = .ok (.aload_n 0, 1) := by decide +kernel
theorem dX7_pass_5 : decode cX7_pass 5 = .ok (.getfield 10, 3) := by decide +kernel
theorem dX7_pass_8 : decode cX7_pass 8 = .ok (.invokevirtual 40, 3) := by decide +kernel
theorem dX7_pass_11 : decode cX7_pass 11 = .ok (.aload_n 0, 1) := by decide +kernel
theorem dX7_pass_12 : decode cX7_pass 12 = .ok (.aload_n 0, 1) := by decide +kernel
theorem dX7_pass_13 : decode cX7_pass 13 = .ok (.getfield 10, 3) := by decide +kernel
theorem dX7_pass_16 : decode cX7_pass 16 = .ok (.iload_n 1, 1) := by decide +kernel
theorem dX7_pass_17 : decode cX7_pass 17 = .ok (.invokevirtual 84, 3) := by decide +kernel
theorem dX7_pass_20 : decode cX7_pass 20 = .ok (.invokevirtual 48, 3) := by decide +kernel
theorem dX7_pass_23 : decode cX7_pass 23 = .ok (.ireturn, 1) := by decide +kernel
theorem dX7_type_0 : decode cX7_type 0 = .ok (.aload_n 0, 1) := by decide +kernel
theorem dX7_type_1 : decode cX7_type 1 = .ok (.getfield 36, 3) := by decide +kernel
theorem dX7_type_4 : decode cX7_type 4 = .ok (.iload_n 1, 1) := by decide +kernel
theorem dX7_type_5 : decode cX7_type 5 = .ok (.invokevirtual 87, 3) := by decide +kernel
theorem dX7_type_8 : decode cX7_type 8 = .ok (.ireturn, 1) := by decide +kernel
theorem dX7_clearText_0 : decode cX7_clearText 0 = .ok (.aload_n 0, 1) := by decide +kernel
theorem dX7_clearText_1 : decode cX7_clearText 1 = .ok (.getfield 36, 3) := by decide +kernel
theorem dX7_clearText_4 : decode cX7_clearText 4 = .ok (.invokevirtual 91, 3) := by decide +kernel
theorem dX7_clearText_7 : decode cX7_clearText 7 = .ok (.ireturn, 1) := by decide +kernel
theorem dX7_perform_0 : decode cX7_perform 0 = .ok (.aload_n 0, 1) := by decide +kernel
theorem dX7_perform_1 : decode cX7_perform 1 = .ok (.getfield 36, 3) := by decide +kernel
theorem dX7_perform_4 : decode cX7_perform 4 = .ok (.invokevirtual 95, 3) := by decide +kernel
theorem dX7_perform_7 : decode cX7_perform 7 = .ok (.istore_n 1, 1) := by decide +kernel
theorem dX7_perform_8 : decode cX7_perform 8 = .ok (.iload_n 1, 1) := by decide +kernel
theorem dX7_perform_9 : decode cX7_perform 9 = .ok (.iconst (-1), 1) := by decide +kernel
theorem dX7_perform_10 : decode cX7_perform 10 = .ok (.if_icmp .eq 8, 3) := by decide +kernel
theorem dX7_perform_13 : decode cX7_perform 13 = .ok (.bipush (-100), 2) := by decide +kernel
theorem dX7_perform_15 : decode cX7_perform 15 = .ok (.iload_n 1, 1) := by decide +kernel
theorem dX7_perform_16 : decode cX7_perform 16 = .ok (.isub, 1) := by decide +kernel
theorem dX7_perform_17 : decode cX7_perform 17 = .ok (.ireturn, 1) := by decide +kernel
theorem dX7_perform_18 : decode cX7_perform 18 = .ok (.aload_n 0, 1) := by decide +kernel
theorem dX7_perform_19 : decode cX7_perform 19 = .ok (.getfield 16, 3) := by decide +kernel
theorem dX7_perform_22 : decode cX7_perform 22 = .ok (.aload_n 0, 1) := by decide +kernel
theorem dX7_perform_23 : decode cX7_perform 23 = .ok (.getfield 10, 3) := by decide +kernel
theorem dX7_perform_26 : decode cX7_perform 26 = .ok (.invokevirtual 40, 3) := by decide +kernel
theorem dX7_perform_29 : decode cX7_perform 29 = .ok (.iconst 0, 1) := by decide +kernel
theorem dX7_perform_30 : decode cX7_perform 30 = .ok (.istore_n 2, 1) := by decide +kernel
theorem dX7_perform_31 : decode cX7_perform 31 = .ok (.iload_n 2, 1) := by decide +kernel
theorem dX7_perform_32 : decode cX7_perform 32 = .ok (.aload_n 0, 1) := by decide +kernel
theorem dX7_perform_33 : decode cX7_perform 33 = .ok (.getfield 36, 3) := by decide +kernel
theorem dX7_perform_36 : decode cX7_perform 36 = .ok (.getfield 98, 3) := by decide +kernel
theorem dX7_perform_39 : decode cX7_perform 39 = .ok (.if_icmp .ge 58, 3) := by decide +kernel
theorem dX7_perform_42 : decode cX7_perform 42 = .ok (.iload_n 2, 1) := by decide +kernel
theorem dX7_perform_43 : decode cX7_perform 43 = .ok (.aload_n 0, 1) := by decide +kernel
theorem dX7_perform_44 : decode cX7_perform 44 = .ok (.getfield 36, 3) := by decide +kernel
theorem dX7_perform_47 : decode cX7_perform 47 = .ok (.getfield 102, 3) := by decide +kernel
theorem dX7_perform_50 : decode cX7_perform 50 = .ok (.arraylength, 1) := by decide +kernel
theorem dX7_perform_51 : decode cX7_perform 51 = .ok (.if_icmp .ge 46, 3) := by decide +kernel
theorem dX7_perform_54 : decode cX7_perform 54 = .ok (.aload_n 0, 1) := by decide +kernel
theorem dX7_perform_55 : decode cX7_perform 55 = .ok (.aload_n 0, 1) := by decide +kernel
theorem dX7_perform_56 : decode cX7_perform 56 = .ok (.getfield 36, 3) := by decide +kernel
theorem dX7_perform_59 : decode cX7_perform 59 = .ok (.getfield 102, 3) := by decide +kernel
theorem dX7_perform_62 : decode cX7_perform 62 = .ok (.iload_n 2, 1) := by decide +kernel
theorem dX7_perform_63 : decode cX7_perform 63 = .ok (.aaload, 1) := by decide +kernel
theorem dX7_perform_64 : decode cX7_perform 64 = .ok (.invokevirtual 106, 3) := by decide +kernel
theorem dX7_perform_67 : decode cX7_perform 67 = .ok (.istore_n 3, 1) := by decide +kernel
theorem dX7_perform_68 : decode cX7_perform 68 = .ok (.iload_n 3, 1) := by decide +kernel
theorem dX7_perform_69 : decode cX7_perform 69 = .ok (.ifCond .ge 22, 3) := by decide +kernel
theorem dX7_perform_72 : decode cX7_perform 72 = .ok (.iload_n 3, 1) := by decide +kernel
theorem dX7_perform_73 : decode cX7_perform 73 = .ok (.bipush (-5), 2) := by decide +kernel
theorem dX7_perform_75 : decode cX7_perform 75 = .ok (.if_icmp .eq 16, 3) := by decide +kernel
theorem dX7_perform_78 : decode cX7_perform 78 = .ok (.aload_n 0, 1) := by decide +kernel
theorem dX7_perform_79 : decode cX7_perform 79 = .ok (.getfield 10, 3) := by decide +kernel
theorem dX7_perform_82 : decode cX7_perform 82 = .ok (.aload_n 0, 1) := by decide +kernel
theorem dX7_perform_83 : decode cX7_perform 83 = .ok (.getfield 16, 3) := by decide +kernel
theorem dX7_perform_86 : decode cX7_perform 86 = .ok (.invokevirtual 40, 3) := by decide +kernel
theorem dX7_perform_89 : decode cX7_perform 89 = .ok (.iload_n 3, 1) := by decide +kernel
theorem dX7_perform_90 : decode cX7_perform 90 = .ok (.ireturn, 1) := by decide +kernel
theorem dX7_perform_91 : decode cX7_perform 91 = .ok (.iinc 2 1, 3) := by decide +kernel
theorem dX7_perform_94 : decode cX7_perform 94 = .ok (.goto (-63), 3) := by decide +kernel
theorem dX7_perform_97 : decode cX7_perform 97 = .ok (.aload_n 0, 1) := by decide +kernel
theorem dX7_perform_98 : decode cX7_perform 98 = .ok (.aload_n 0, 1) := by decide +kernel
theorem dX7_perform_99 : decode cX7_perform 99 = .ok (.getfield 36, 3) := by decide +kernel
theorem dX7_perform_102 : decode cX7_perform 102 = .ok (.getfield 98, 3) := by decide +kernel
theorem dX7_perform_105 : decode cX7_perform 105 = .ok (.invokevirtual 48, 3) := by decide +kernel
theorem dX7_perform_108 : decode cX7_perform 108 = .ok (.ireturn, 1) := by decide +kernel
theorem dX7_undo_0 : decode cX7_undo 0 = .ok (.aload_n 0, 1) := by decide +kernel
theorem dX7_undo_1 : decode cX7_undo 1 = .ok (.getfield 29, 3) := by decide +kernel
theorem dX7_undo_4 : decode cX7_undo 4 = .ok (.aload_n 0, 1) := by decide +kernel
theorem dX7_undo_5 : decode cX7_undo 5 = .ok (.getfield 10, 3) := by decide +kernel
theorem dX7_undo_8 : decode cX7_undo 8 = .ok (.invokevirtual 110, 3) := by decide +kernel
theorem dX7_undo_11 : decode cX7_undo 11 = .ok (.ireturn, 1) := by decide +kernel
theorem dX7_keep_0 : decode cX7_keep 0 = .ok (.aload_n 0, 1) := by decide +kernel
theorem dX7_keep_1 : decode cX7_keep 1 = .ok (.getfield 19, 3) := by decide +kernel
theorem dX7_keep_4 : decode cX7_keep 4 = .ok (.aload_n 0, 1) := by decide +kernel
theorem dX7_keep_5 : decode cX7_keep 5 = .ok (.getfield 10, 3) := by decide +kernel
theorem dX7_keep_8 : decode cX7_keep 8 = .ok (.invokevirtual 40, 3) := by decide +kernel
theorem dX7_keep_11 : decode cX7_keep 11 = .ok (.aload_n 0, 1) := by decide +kernel
theorem dX7_keep_12 : decode cX7_keep 12 = .ok (.iconst 1, 1) := by decide +kernel
theorem dX7_keep_13 : decode cX7_keep 13 = .ok (.putfield 22, 3) := by decide +kernel
theorem dX7_keep_16 : decode cX7_keep 16 = .ok (.aload_n 0, 1) := by decide +kernel
theorem dX7_keep_17 : decode cX7_keep 17 = .ok (.getfield 10, 3) := by decide +kernel
theorem dX7_keep_20 : decode cX7_keep 20 = .ok (.getfield 114, 3) := by decide +kernel
theorem dX7_keep_23 : decode cX7_keep 23 = .ok (.ireturn, 1) := by decide +kernel
theorem dX7_restore_0 : decode cX7_restore 0 = .ok (.aload_n 0, 1) := by decide +kernel
theorem dX7_restore_1 : decode cX7_restore 1 = .ok (.getfield 22, 3) := by decide +kernel
theorem dX7_restore_4 : decode cX7_restore 4 = .ok (.ifCond .ne 6, 3) := by decide +kernel
theorem dX7_restore_7 : decode cX7_restore 7 = .ok (.bipush (-5), 2) := by decide +kernel
theorem dX7_restore_9 : decode cX7_restore 9 = .ok (.ireturn, 1) := by decide +kernel
theorem dX7_restore_10 : decode cX7_restore 10 = .ok (.aload_n 0, 1) := by decide +kernel
theorem dX7_restore_11 : decode cX7_restore 11 = .ok (.getfield 16, 3) := by decide +kernel
theorem dX7_restore_14 : decode cX7_restore 14 = .ok (.aload_n 0, 1) := by decide +kernel
theorem dX7_restore_15 : decode cX7_restore 15 = .ok (.getfield 10, 3) := by decide +kernel
theorem dX7_restore_18 : decode cX7_restore 18 = .ok (.invokevirtual 40, 3) := by decide +kernel
theorem dX7_restore_21 : decode cX7_restore 21 = .ok (.aload_n 0, 1) := by decide +kernel
theorem dX7_restore_22 : decode cX7_restore 22 = .ok (.getfield 10, 3) := by decide +kernel
theorem dX7_restore_25 : decode cX7_restore 25 = .ok (.aload_n 0, 1) := by decide +kernel
theorem dX7_restore_26 : decode cX7_restore 26 = .ok (.getfield 19, 3) := by decide +kernel
theorem dX7_restore_29 : decode cX7_restore 29 = .ok (.invokevirtual 40, 3) := by decide +kernel
theorem dX7_restore_32 : decode cX7_restore 32 = .ok (.aload_n 0, 1) := by decide +kernel
theorem dX7_restore_33 : decode cX7_restore 33 = .ok (.aload_n 0, 1) := by decide +kernel
theorem dX7_restore_34 : decode cX7_restore 34 = .ok (.getfield 10, 3) := by decide +kernel
theorem dX7_restore_37 : decode cX7_restore 37 = .ok (.getfield 114, 3) := by decide +kernel
theorem dX7_restore_40 : decode cX7_restore 40 = .ok (.invokevirtual 48, 3) := by decide +kernel
theorem dX7_restore_43 : decode cX7_restore 43 = .ok (.ireturn, 1) := by decide +kernel
theorem dX7_real_0 : decode cX7_real 0 = .ok (.aload_n 0, 1) := by decide +kernel
theorem dX7_real_1 : decode cX7_real 1 = .ok (.getfield 10, 3) := by decide +kernel
theorem dX7_real_4 : decode cX7_real 4 = .ok (.iload_n 1, 1) := by decide +kernel
theorem dX7_real_5 : decode cX7_real 5 = .ok (.invokevirtual 117, 3) := by decide +kernel
theorem dX7_real_8 : decode cX7_real 8 = .ok (.ifCond .ne 6, 3) := by decide +kernel
theorem dX7_real_11 : decode cX7_real 11 = .ok (.ldc 121, 2) := by decide +kernel
theorem dX7_real_13 : decode cX7_real 13 = .ok (.freturn, 1) := by decide +kernel
theorem dX7_real_14 : decode cX7_real 14 = .ok (.aload_n 0, 1) := by decide +kernel
theorem dX7_real_15 : decode cX7_real 15 = .ok (.getfield 10, 3) := by decide +kernel
theorem dX7_real_18 : decode cX7_real 18 = .ok (.getfield 122, 3) := by decide +kernel
theorem dX7_real_21 : decode cX7_real 21 = .ok (.iload_n 1, 1) := by decide +kernel
theorem dX7_real_22 : decode cX7_real 22 = .ok (.aaload, 1) := by decide +kernel
theorem dX7_real_23 : decode cX7_real 23 = .ok (.astore_n 3, 1) := by decide +kernel
theorem dX7_real_24 : decode cX7_real 24 = .ok (.iload_n 2, 1) := by decide +kernel
theorem dX7_real_25 : decode cX7_real 25 = .ok (.tableswitch 42 0 2 #[27, 32, 37], 27) := by decide +kernel
theorem dX7_real_52 : decode cX7_real 52 = .ok (.aload_n 3, 1) := by decide +kernel
theorem dX7_real_53 : decode cX7_real 53 = .ok (.getfield 126, 3) := by decide +kernel
theorem dX7_real_56 : decode cX7_real 56 = .ok (.freturn, 1) := by decide +kernel
theorem dX7_real_57 : decode cX7_real 57 = .ok (.aload_n 3, 1) := by decide +kernel
theorem dX7_real_58 : decode cX7_real 58 = .ok (.getfield 132, 3) := by decide +kernel
theorem dX7_real_61 : decode cX7_real 61 = .ok (.freturn, 1) := by decide +kernel
theorem dX7_real_62 : decode cX7_real 62 = .ok (.aload_n 3, 1) := by decide +kernel
theorem dX7_real_63 : decode cX7_real 63 = .ok (.getfield 135, 3) := by decide +kernel
theorem dX7_real_66 : decode cX7_real 66 = .ok (.freturn, 1) := by decide +kernel
theorem dX7_real_67 : decode cX7_real 67 = .ok (.ldc 121, 2) := by decide +kernel
theorem dX7_real_69 : decode cX7_real 69 = .ok (.freturn, 1) := by decide +kernel
theorem dX7_healthIn_0 : decode cX7_healthIn 0 = .ok (.aload_n 0, 1) := by decide +kernel
theorem dX7_healthIn_1 : decode cX7_healthIn 1 = .ok (.getfield 10, 3) := by decide +kernel
theorem dX7_healthIn_4 : decode cX7_healthIn 4 = .ok (.iload_n 1, 1) := by decide +kernel
theorem dX7_healthIn_5 : decode cX7_healthIn 5 = .ok (.invokevirtual 117, 3) := by decide +kernel
theorem dX7_healthIn_8 : decode cX7_healthIn 8 = .ok (.ifCond .eq 14, 3) := by decide +kernel
theorem dX7_healthIn_11 : decode cX7_healthIn 11 = .ok (.iload_n 2, 1) := by decide +kernel
theorem dX7_healthIn_12 : decode cX7_healthIn 12 = .ok (.iconst 0, 1) := by decide +kernel
theorem dX7_healthIn_13 : decode cX7_healthIn 13 = .ok (.sipush 200, 3) := by decide +kernel
theorem dX7_healthIn_16 : decode cX7_healthIn 16 = .ok (.invokestatic 138, 3) := by decide +kernel
theorem dX7_healthIn_19 : decode cX7_healthIn 19 = .ok (.ifCond .ne 6, 3) := by decide +kernel
theorem dX7_healthIn_22 : decode cX7_healthIn 22 = .ok (.ldc 121, 2) := by decide +kernel
theorem dX7_healthIn_24 : decode cX7_healthIn 24 = .ok (.freturn, 1) := by decide +kernel
theorem dX7_healthIn_25 : decode cX7_healthIn 25 = .ok (.aload_n 0, 1) := by decide +kernel
theorem dX7_healthIn_26 : decode cX7_healthIn 26 = .ok (.getfield 10, 3) := by decide +kernel
theorem dX7_healthIn_29 : decode cX7_healthIn 29 = .ok (.getfield 122, 3) := by decide +kernel
theorem dX7_healthIn_32 : decode cX7_healthIn 32 = .ok (.iload_n 1, 1) := by decide +kernel
theorem dX7_healthIn_33 : decode cX7_healthIn 33 = .ok (.aaload, 1) := by decide +kernel
theorem dX7_healthIn_34 : decode cX7_healthIn 34 = .ok (.iload_n 2, 1) := by decide +kernel
theorem dX7_healthIn_35 : decode cX7_healthIn 35 = .ok (.invokevirtual 142, 3) := by decide +kernel
theorem dX7_healthIn_38 : decode cX7_healthIn 38 = .ok (.freturn, 1) := by decide +kernel
theorem dX7_hoursTo_0 : decode cX7_hoursTo 0 = .ok (.aload_n 0, 1) := by decide +kernel
theorem dX7_hoursTo_1 : decode cX7_hoursTo 1 = .ok (.getfield 10, 3) := by decide +kernel
theorem dX7_hoursTo_4 : decode cX7_hoursTo 4 = .ok (.iload_n 1, 1) := by decide +kernel
theorem dX7_hoursTo_5 : decode cX7_hoursTo 5 = .ok (.invokevirtual 117, 3) := by decide +kernel
theorem dX7_hoursTo_8 : decode cX7_hoursTo 8 = .ok (.ifCond .ne 5, 3) := by decide +kernel
theorem dX7_hoursTo_11 : decode cX7_hoursTo 11 = .ok (.iconst (-1), 1) := by decide +kernel
theorem dX7_hoursTo_12 : decode cX7_hoursTo 12 = .ok (.ireturn, 1) := by decide +kernel
theorem dX7_hoursTo_13 : decode cX7_hoursTo 13 = .ok (.iload_n 2, 1) := by decide +kernel
theorem dX7_hoursTo_14 : decode cX7_hoursTo 14 = .ok (.iconst 1, 1) := by decide +kernel
theorem dX7_hoursTo_15 : decode cX7_hoursTo 15 = .ok (.bipush 100, 2) := by decide +kernel
theorem dX7_hoursTo_17 : decode cX7_hoursTo 17 = .ok (.invokestatic 138, 3) := by decide +kernel
theorem dX7_hoursTo_20 : decode cX7_hoursTo 20 = .ok (.ifCond .ne 6, 3) := by decide +kernel
theorem dX7_hoursTo_23 : decode cX7_hoursTo 23 = .ok (.bipush (-2), 2) := by decide +kernel
theorem dX7_hoursTo_25 : decode cX7_hoursTo 25 = .ok (.ireturn, 1) := by decide +kernel
theorem dX7_hoursTo_26 : decode cX7_hoursTo 26 = .ok (.aload_n 0, 1) := by decide +kernel
theorem dX7_hoursTo_27 : decode cX7_hoursTo 27 = .ok (.getfield 10, 3) := by decide +kernel
theorem dX7_hoursTo_30 : decode cX7_hoursTo 30 = .ok (.getfield 122, 3) := by decide +kernel
theorem dX7_hoursTo_33 : decode cX7_hoursTo 33 = .ok (.iload_n 1, 1) := by decide +kernel
theorem dX7_hoursTo_34 : decode cX7_hoursTo 34 = .ok (.aaload, 1) := by decide +kernel
theorem dX7_hoursTo_35 : decode cX7_hoursTo 35 = .ok (.iload_n 2, 1) := by decide +kernel
theorem dX7_hoursTo_36 : decode cX7_hoursTo 36 = .ok (.i2f, 1) := by decide +kernel
theorem dX7_hoursTo_37 : decode cX7_hoursTo 37 = .ok (.ldc 146, 2) := by decide +kernel
theorem dX7_hoursTo_39 : decode cX7_hoursTo 39 = .ok (.fdiv, 1) := by decide +kernel
theorem dX7_hoursTo_40 : decode cX7_hoursTo 40 = .ok (.invokevirtual 147, 3) := by decide +kernel
theorem dX7_hoursTo_43 : decode cX7_hoursTo 43 = .ok (.ireturn, 1) := by decide +kernel
theorem dX7_asset_0 : decode cX7_asset 0 = .ok (.aload_n 0, 1) := by decide +kernel
theorem dX7_asset_1 : decode cX7_asset 1 = .ok (.getfield 10, 3) := by decide +kernel
theorem dX7_asset_4 : decode cX7_asset 4 = .ok (.iload_n 1, 1) := by decide +kernel
theorem dX7_asset_5 : decode cX7_asset 5 = .ok (.invokevirtual 117, 3) := by decide +kernel
theorem dX7_asset_8 : decode cX7_asset 8 = .ok (.ifCond .ne 5, 3) := by decide +kernel
theorem dX7_asset_11 : decode cX7_asset 11 = .ok (.iconst (-1), 1) := by decide +kernel
theorem dX7_asset_12 : decode cX7_asset 12 = .ok (.ireturn, 1) := by decide +kernel
theorem dX7_asset_13 : decode cX7_asset 13 = .ok (.aload_n 0, 1) := by decide +kernel
theorem dX7_asset_14 : decode cX7_asset 14 = .ok (.getfield 10, 3) := by decide +kernel
theorem dX7_asset_17 : decode cX7_asset 17 = .ok (.getfield 122, 3) := by decide +kernel
theorem dX7_asset_20 : decode cX7_asset 20 = .ok (.iload_n 1, 1) := by decide +kernel
theorem dX7_asset_21 : decode cX7_asset 21 = .ok (.aaload, 1) := by decide +kernel
theorem dX7_asset_22 : decode cX7_asset 22 = .ok (.astore_n 3, 1) := by decide +kernel
theorem dX7_asset_23 : decode cX7_asset 23 = .ok (.iload_n 2, 1) := by decide +kernel
theorem dX7_asset_24 : decode cX7_asset 24 = .ok (.tableswitch 122 0 7 #[48, 61, 70, 80, 85, 96, 107, 116], 48) := by decide +kernel
theorem dX7_asset_72 : decode cX7_asset 72 = .ok (.aload_n 3, 1) := by decide +kernel
theorem dX7_asset_73 : decode cX7_asset 73 = .ok (.getfield 151, 3) := by decide +kernel
theorem dX7_asset_76 : decode cX7_asset 76 = .ok (.ifCond .eq 7, 3) := by decide +kernel
theorem dX7_asset_79 : decode cX7_asset 79 = .ok (.iconst 1, 1) := by decide +kernel
theorem dX7_asset_80 : decode cX7_asset 80 = .ok (.goto 4, 3) := by decide +kernel
theorem dX7_asset_83 : decode cX7_asset 83 = .ok (.iconst 0, 1) := by decide +kernel
theorem dX7_asset_84 : decode cX7_asset 84 = .ok (.ireturn, 1) := by decide +kernel
theorem dX7_asset_85 : decode cX7_asset 85 = .ok (.aload_n 0, 1) := by decide +kernel
theorem dX7_asset_86 : decode cX7_asset 86 = .ok (.getfield 10, 3) := by decide +kernel
theorem dX7_asset_89 : decode cX7_asset 89 = .ok (.iload_n 1, 1) := by decide +kernel
theorem dX7_asset_90 : decode cX7_asset 90 = .ok (.invokevirtual 154, 3) := by decide +kernel
theorem dX7_asset_93 : decode cX7_asset 93 = .ok (.ireturn, 1) := by decide +kernel
theorem dX7_asset_94 : decode cX7_asset 94 = .ok (.aload_n 0, 1) := by decide +kernel
theorem dX7_asset_95 : decode cX7_asset 95 = .ok (.getfield 10, 3) := by decide +kernel
theorem dX7_asset_98 : decode cX7_asset 98 = .ok (.iload_n 1, 1) := by decide +kernel
theorem dX7_asset_99 : decode cX7_asset 99 = .ok (.iconst 0, 1) := by decide +kernel
theorem dX7_asset_100 : decode cX7_asset 100 = .ok (.invokevirtual 157, 3) := by decide +kernel
theorem dX7_asset_103 : decode cX7_asset 103 = .ok (.ireturn, 1) := by decide +kernel
theorem dX7_asset_104 : decode cX7_asset 104 = .ok (.aload_n 3, 1) := by decide +kernel
theorem dX7_asset_105 : decode cX7_asset 105 = .ok (.getfield 160, 3) := by decide +kernel
theorem dX7_asset_108 : decode cX7_asset 108 = .ok (.ireturn, 1) := by decide +kernel
theorem dX7_asset_109 : decode cX7_asset 109 = .ok (.aload_n 0, 1) := by decide +kernel
theorem dX7_asset_110 : decode cX7_asset 110 = .ok (.getfield 10, 3) := by decide +kernel
theorem dX7_asset_113 : decode cX7_asset 113 = .ok (.iload_n 1, 1) := by decide +kernel
theorem dX7_asset_114 : decode cX7_asset 114 = .ok (.iconst 0, 1) := by decide +kernel
theorem dX7_asset_115 : decode cX7_asset 115 = .ok (.iconst 3, 1) := by decide +kernel
theorem dX7_asset_116 : decode cX7_asset 116 = .ok (.invokevirtual 163, 3) := by decide +kernel
theorem dX7_asset_119 : decode cX7_asset 119 = .ok (.ireturn, 1) := by decide +kernel
theorem dX7_asset_120 : decode cX7_asset 120 = .ok (.aload_n 0, 1) := by decide +kernel
theorem dX7_asset_121 : decode cX7_asset 121 = .ok (.getfield 10, 3) := by decide +kernel
theorem dX7_asset_124 : decode cX7_asset 124 = .ok (.iload_n 1, 1) := by decide +kernel
theorem dX7_asset_125 : decode cX7_asset 125 = .ok (.iconst 4, 1) := by decide +kernel
theorem dX7_asset_126 : decode cX7_asset 126 = .ok (.iconst 4, 1) := by decide +kernel
theorem dX7_asset_127 : decode cX7_asset 127 = .ok (.invokevirtual 163, 3) := by decide +kernel
theorem dX7_asset_130 : decode cX7_asset 130 = .ok (.ireturn, 1) := by decide +kernel
theorem dX7_asset_131 : decode cX7_asset 131 = .ok (.aload_n 3, 1) := by decide +kernel
theorem dX7_asset_132 : decode cX7_asset 132 = .ok (.getfield 126, 3) := by decide +kernel
theorem dX7_asset_135 : decode cX7_asset 135 = .ok (.ldc 167, 2) := by decide +kernel
theorem dX7_asset_137 : decode cX7_asset 137 = .ok (.fmul, 1) := by decide +kernel
theorem dX7_asset_138 : decode cX7_asset 138 = .ok (.f2i, 1) := by decide +kernel
theorem dX7_asset_139 : decode cX7_asset 139 = .ok (.ireturn, 1) := by decide +kernel
theorem dX7_asset_140 : decode cX7_asset 140 = .ok (.aload_n 3, 1) := by decide +kernel
theorem dX7_asset_141 : decode cX7_asset 141 = .ok (.getfield 132, 3) := by decide +kernel
theorem dX7_asset_144 : decode cX7_asset 144 = .ok (.f2i, 1) := by decide +kernel
theorem dX7_asset_145 : decode cX7_asset 145 = .ok (.ireturn, 1) := by decide +kernel
theorem dX7_asset_146 : decode cX7_asset 146 = .ok (.bipush (-2), 2) := by decide +kernel
theorem dX7_asset_148 : decode cX7_asset 148 = .ok (.ireturn, 1) := by decide +kernel
theorem dX7_tagAt_0 : decode cX7_tagAt 0 = .ok (.aload_n 0, 1) := by decide +kernel
theorem dX7_tagAt_1 : decode cX7_tagAt 1 = .ok (.getfield 10, 3) := by decide +kernel
theorem dX7_tagAt_4 : decode cX7_tagAt 4 = .ok (.iload_n 1, 1) := by decide +kernel
theorem dX7_tagAt_5 : decode cX7_tagAt 5 = .ok (.invokevirtual 117, 3) := by decide +kernel
theorem dX7_tagAt_8 : decode cX7_tagAt 8 = .ok (.ifCond .ne 5, 3) := by decide +kernel
theorem dX7_tagAt_11 : decode cX7_tagAt 11 = .ok (.iconst (-1), 1) := by decide +kernel
theorem dX7_tagAt_12 : decode cX7_tagAt 12 = .ok (.ireturn, 1) := by decide +kernel
theorem dX7_tagAt_13 : decode cX7_tagAt 13 = .ok (.iload_n 2, 1) := by decide +kernel
theorem dX7_tagAt_14 : decode cX7_tagAt 14 = .ok (.ifCond .ge 6, 3) := by decide +kernel
theorem dX7_tagAt_17 : decode cX7_tagAt 17 = .ok (.bipush (-2), 2) := by decide +kernel
theorem dX7_tagAt_19 : decode cX7_tagAt 19 = .ok (.ireturn, 1) := by decide +kernel
theorem dX7_tagAt_20 : decode cX7_tagAt 20 = .ok (.aload_n 0, 1) := by decide +kernel
theorem dX7_tagAt_21 : decode cX7_tagAt 21 = .ok (.getfield 10, 3) := by decide +kernel
theorem dX7_tagAt_24 : decode cX7_tagAt 24 = .ok (.iload_n 1, 1) := by decide +kernel
theorem dX7_tagAt_25 : decode cX7_tagAt 25 = .ok (.iload_n 2, 1) := by decide +kernel
theorem dX7_tagAt_26 : decode cX7_tagAt 26 = .ok (.invokevirtual 157, 3) := by decide +kernel
theorem dX7_tagAt_29 : decode cX7_tagAt 29 = .ok (.ireturn, 1) := by decide +kernel
theorem dX7_crew_0 : decode cX7_crew 0 = .ok (.aload_n 0, 1) := by decide +kernel
theorem dX7_crew_1 : decode cX7_crew 1 = .ok (.getfield 10, 3) := by decide +kernel
theorem dX7_crew_4 : decode cX7_crew 4 = .ok (.iload_n 1, 1) := by decide +kernel
theorem dX7_crew_5 : decode cX7_crew 5 = .ok (.invokevirtual 168, 3) := by decide +kernel
theorem dX7_crew_8 : decode cX7_crew 8 = .ok (.ifCond .ne 5, 3) := by decide +kernel
theorem dX7_crew_11 : decode cX7_crew 11 = .ok (.iconst (-1), 1) := by decide +kernel
theorem dX7_crew_12 : decode cX7_crew 12 = .ok (.ireturn, 1) := by decide +kernel
theorem dX7_crew_13 : decode cX7_crew 13 = .ok (.aload_n 0, 1) := by decide +kernel
theorem dX7_crew_14 : decode cX7_crew 14 = .ok (.getfield 10, 3) := by decide +kernel
theorem dX7_crew_17 : decode cX7_crew 17 = .ok (.getfield 171, 3) := by decide +kernel
theorem dX7_crew_20 : decode cX7_crew 20 = .ok (.iload_n 1, 1) := by decide +kernel
theorem dX7_crew_21 : decode cX7_crew 21 = .ok (.aaload, 1) := by decide +kernel
theorem dX7_crew_22 : decode cX7_crew 22 = .ok (.astore_n 3, 1) := by decide +kernel
theorem dX7_crew_23 : decode cX7_crew 23 = .ok (.iload_n 2, 1) := by decide +kernel
theorem dX7_crew_24 : decode cX7_crew 24 = .ok (.tableswitch 77 0 4 #[36, 41, 46, 55, 66], 36) := by decide +kernel
theorem dX7_crew_60 : decode cX7_crew 60 = .ok (.aload_n 3, 1) := by decide +kernel
theorem dX7_crew_61 : decode cX7_crew 61 = .ok (.getfield 175, 3) := by decide +kernel
theorem dX7_crew_64 : decode cX7_crew 64 = .ok (.ireturn, 1) := by decide +kernel
theorem dX7_crew_65 : decode cX7_crew 65 = .ok (.aload_n 3, 1) := by decide +kernel
theorem dX7_crew_66 : decode cX7_crew 66 = .ok (.getfield 180, 3) := by decide +kernel
theorem dX7_crew_69 : decode cX7_crew 69 = .ok (.ireturn, 1) := by decide +kernel
theorem dX7_crew_70 : decode cX7_crew 70 = .ok (.aload_n 0, 1) := by decide +kernel
theorem dX7_crew_71 : decode cX7_crew 71 = .ok (.getfield 10, 3) := by decide +kernel
theorem dX7_crew_74 : decode cX7_crew 74 = .ok (.iload_n 1, 1) := by decide +kernel
theorem dX7_crew_75 : decode cX7_crew 75 = .ok (.invokevirtual 183, 3) := by decide +kernel
theorem dX7_crew_78 : decode cX7_crew 78 = .ok (.ireturn, 1) := by decide +kernel
theorem dX7_crew_79 : decode cX7_crew 79 = .ok (.aload_n 0, 1) := by decide +kernel
theorem dX7_crew_80 : decode cX7_crew 80 = .ok (.getfield 10, 3) := by decide +kernel
theorem dX7_crew_83 : decode cX7_crew 83 = .ok (.iload_n 1, 1) := by decide +kernel
theorem dX7_crew_84 : decode cX7_crew 84 = .ok (.iconst 1, 1) := by decide +kernel
theorem dX7_crew_85 : decode cX7_crew 85 = .ok (.iconst 3, 1) := by decide +kernel
theorem dX7_crew_86 : decode cX7_crew 86 = .ok (.invokevirtual 186, 3) := by decide +kernel
theorem dX7_crew_89 : decode cX7_crew 89 = .ok (.ireturn, 1) := by decide +kernel
theorem dX7_crew_90 : decode cX7_crew 90 = .ok (.aload_n 0, 1) := by decide +kernel
theorem dX7_crew_91 : decode cX7_crew 91 = .ok (.getfield 10, 3) := by decide +kernel
theorem dX7_crew_94 : decode cX7_crew 94 = .ok (.iload_n 1, 1) := by decide +kernel
theorem dX7_crew_95 : decode cX7_crew 95 = .ok (.iconst 4, 1) := by decide +kernel
theorem dX7_crew_96 : decode cX7_crew 96 = .ok (.iconst 4, 1) := by decide +kernel
theorem dX7_crew_97 : decode cX7_crew 97 = .ok (.invokevirtual 186, 3) := by decide +kernel
theorem dX7_crew_100 : decode cX7_crew 100 = .ok (.ireturn, 1) := by decide +kernel
theorem dX7_crew_101 : decode cX7_crew 101 = .ok (.bipush (-2), 2) := by decide +kernel
theorem dX7_crew_103 : decode cX7_crew 103 = .ok (.ireturn, 1) := by decide +kernel
theorem dX7_task_0 : decode cX7_task 0 = .ok (.aload_n 0, 1) := by decide +kernel
theorem dX7_task_1 : decode cX7_task 1 = .ok (.getfield 10, 3) := by decide +kernel
theorem dX7_task_4 : decode cX7_task 4 = .ok (.iload_n 1, 1) := by decide +kernel
theorem dX7_task_5 : decode cX7_task 5 = .ok (.invokevirtual 189, 3) := by decide +kernel
theorem dX7_task_8 : decode cX7_task 8 = .ok (.ifCond .ne 5, 3) := by decide +kernel
theorem dX7_task_11 : decode cX7_task 11 = .ok (.iconst (-1), 1) := by decide +kernel
theorem dX7_task_12 : decode cX7_task 12 = .ok (.ireturn, 1) := by decide +kernel
theorem dX7_task_13 : decode cX7_task 13 = .ok (.aload_n 0, 1) := by decide +kernel
theorem dX7_task_14 : decode cX7_task 14 = .ok (.getfield 10, 3) := by decide +kernel
theorem dX7_task_17 : decode cX7_task 17 = .ok (.getfield 192, 3) := by decide +kernel
theorem dX7_task_20 : decode cX7_task 20 = .ok (.iload_n 1, 1) := by decide +kernel
theorem dX7_task_21 : decode cX7_task 21 = .ok (.aaload, 1) := by decide +kernel
theorem dX7_task_22 : decode cX7_task 22 = .ok (.astore_n 3, 1) := by decide +kernel
theorem dX7_task_23 : decode cX7_task 23 = .ok (.iload_n 2, 1) := by decide +kernel
theorem dX7_task_24 : decode cX7_task 24 = .ok (.tableswitch 154 0 12 #[68, 73, 78, 83, 88, 93, 98, 103, 108, 113, 131, 136, 145], 68) := by decide +kernel
theorem dX7_task_92 : decode cX7_task 92 = .ok (.aload_n 3, 1) := by decide +kernel
theorem dX7_task_93 : decode cX7_task 93 = .ok (.getfield 196, 3) := by decide +kernel
theorem dX7_task_96 : decode cX7_task 96 = .ok (.ireturn, 1) := by decide +kernel
theorem dX7_task_97 : decode cX7_task 97 = .ok (.aload_n 3, 1) := by decide +kernel
theorem dX7_task_98 : decode cX7_task 98 = .ok (.getfield 201, 3) := by decide +kernel
theorem dX7_task_101 : decode cX7_task 101 = .ok (.ireturn, 1) := by decide +kernel
theorem dX7_task_102 : decode cX7_task 102 = .ok (.aload_n 3, 1) := by decide +kernel
theorem dX7_task_103 : decode cX7_task 103 = .ok (.getfield 204, 3) := by decide +kernel
theorem dX7_task_106 : decode cX7_task 106 = .ok (.ireturn, 1) := by decide +kernel
theorem dX7_task_107 : decode cX7_task 107 = .ok (.aload_n 3, 1) := by decide +kernel
theorem dX7_task_108 : decode cX7_task 108 = .ok (.getfield 207, 3) := by decide +kernel
theorem dX7_task_111 : decode cX7_task 111 = .ok (.ireturn, 1) := by decide +kernel
theorem dX7_task_112 : decode cX7_task 112 = .ok (.aload_n 3, 1) := by decide +kernel
theorem dX7_task_113 : decode cX7_task 113 = .ok (.getfield 208, 3) := by decide +kernel
theorem dX7_task_116 : decode cX7_task 116 = .ok (.ireturn, 1) := by decide +kernel
theorem dX7_task_117 : decode cX7_task 117 = .ok (.aload_n 3, 1) := by decide +kernel
theorem dX7_task_118 : decode cX7_task 118 = .ok (.getfield 211, 3) := by decide +kernel
theorem dX7_task_121 : decode cX7_task 121 = .ok (.ireturn, 1) := by decide +kernel
theorem dX7_task_122 : decode cX7_task 122 = .ok (.aload_n 3, 1) := by decide +kernel
theorem dX7_task_123 : decode cX7_task 123 = .ok (.getfield 214, 3) := by decide +kernel
theorem dX7_task_126 : decode cX7_task 126 = .ok (.ireturn, 1) := by decide +kernel
theorem dX7_task_127 : decode cX7_task 127 = .ok (.aload_n 3, 1) := by decide +kernel
theorem dX7_task_128 : decode cX7_task 128 = .ok (.getfield 217, 3) := by decide +kernel
theorem dX7_task_131 : decode cX7_task 131 = .ok (.ireturn, 1) := by decide +kernel
theorem dX7_task_132 : decode cX7_task 132 = .ok (.aload_n 3, 1) := by decide +kernel
theorem dX7_task_133 : decode cX7_task 133 = .ok (.getfield 220, 3) := by decide +kernel
theorem dX7_task_136 : decode cX7_task 136 = .ok (.ireturn, 1) := by decide +kernel
theorem dX7_task_137 : decode cX7_task 137 = .ok (.aload_n 3, 1) := by decide +kernel
theorem dX7_task_138 : decode cX7_task 138 = .ok (.getfield 201, 3) := by decide +kernel
theorem dX7_task_141 : decode cX7_task 141 = .ok (.iconst 2, 1) := by decide +kernel
theorem dX7_task_142 : decode cX7_task 142 = .ok (.if_icmp .ne 10, 3) := by decide +kernel
theorem dX7_task_145 : decode cX7_task 145 = .ok (.aload_n 3, 1) := by decide +kernel
theorem dX7_task_146 : decode cX7_task 146 = .ok (.getfield 223, 3) := by decide +kernel
theorem dX7_task_149 : decode cX7_task 149 = .ok (.goto 5, 3) := by decide +kernel
theorem dX7_task_152 : decode cX7_task 152 = .ok (.bipush (-5), 2) := by decide +kernel
theorem dX7_task_154 : decode cX7_task 154 = .ok (.ireturn, 1) := by decide +kernel
theorem dX7_task_155 : decode cX7_task 155 = .ok (.aload_n 3, 1) := by decide +kernel
theorem dX7_task_156 : decode cX7_task 156 = .ok (.getfield 226, 3) := by decide +kernel
theorem dX7_task_159 : decode cX7_task 159 = .ok (.ireturn, 1) := by decide +kernel
theorem dX7_task_160 : decode cX7_task 160 = .ok (.aload_n 0, 1) := by decide +kernel
theorem dX7_task_161 : decode cX7_task 161 = .ok (.getfield 10, 3) := by decide +kernel
theorem dX7_task_164 : decode cX7_task 164 = .ok (.iload_n 1, 1) := by decide +kernel
theorem dX7_task_165 : decode cX7_task 165 = .ok (.invokevirtual 229, 3) := by decide +kernel
theorem dX7_task_168 : decode cX7_task 168 = .ok (.ireturn, 1) := by decide +kernel
theorem dX7_task_169 : decode cX7_task 169 = .ok (.aload_n 0, 1) := by decide +kernel
theorem dX7_task_170 : decode cX7_task 170 = .ok (.getfield 10, 3) := by decide +kernel
theorem dX7_task_173 : decode cX7_task 173 = .ok (.iload_n 1, 1) := by decide +kernel
theorem dX7_task_174 : decode cX7_task 174 = .ok (.invokevirtual 232, 3) := by decide +kernel
theorem dX7_task_177 : decode cX7_task 177 = .ok (.ireturn, 1) := by decide +kernel
theorem dX7_task_178 : decode cX7_task 178 = .ok (.bipush (-2), 2) := by decide +kernel
theorem dX7_task_180 : decode cX7_task 180 = .ok (.ireturn, 1) := by decide +kernel
theorem dX7_crewFor_0 : decode cX7_crewFor 0 = .ok (.aload_n 0, 1) := by decide +kernel
theorem dX7_crewFor_1 : decode cX7_crewFor 1 = .ok (.getfield 10, 3) := by decide +kernel
theorem dX7_crewFor_4 : decode cX7_crewFor 4 = .ok (.iload_n 1, 1) := by decide +kernel
theorem dX7_crewFor_5 : decode cX7_crewFor 5 = .ok (.invokevirtual 189, 3) := by decide +kernel
theorem dX7_crewFor_8 : decode cX7_crewFor 8 = .ok (.ifCond .ne 5, 3) := by decide +kernel
theorem dX7_crewFor_11 : decode cX7_crewFor 11 = .ok (.iconst (-1), 1) := by decide +kernel
theorem dX7_crewFor_12 : decode cX7_crewFor 12 = .ok (.ireturn, 1) := by decide +kernel
theorem dX7_crewFor_13 : decode cX7_crewFor 13 = .ok (.aload_n 0, 1) := by decide +kernel
theorem dX7_crewFor_14 : decode cX7_crewFor 14 = .ok (.getfield 10, 3) := by decide +kernel
theorem dX7_crewFor_17 : decode cX7_crewFor 17 = .ok (.iload_n 1, 1) := by decide +kernel
theorem dX7_crewFor_18 : decode cX7_crewFor 18 = .ok (.invokevirtual 235, 3) := by decide +kernel
theorem dX7_crewFor_21 : decode cX7_crewFor 21 = .ok (.ireturn, 1) := by decide +kernel
theorem dX7_count_0 : decode cX7_count 0 = .ok (.iload_n 1, 1) := by decide +kernel
theorem dX7_count_1 : decode cX7_count 1 = .ok (.tableswitch 165 0 16 #[83, 91, 99, 107, 115, 165, 165, 165, 165, 165, 165, 165, 123, 133, 141, 149, 157], 83) := by decide +kernel
theorem dX7_count_84 : decode cX7_count 84 = .ok (.aload_n 0, 1) := by decide +kernel
theorem dX7_count_85 : decode cX7_count 85 = .ok (.getfield 10, 3) := by decide +kernel
theorem dX7_count_88 : decode cX7_count 88 = .ok (.getfield 114, 3) := by decide +kernel
theorem dX7_count_91 : decode cX7_count 91 = .ok (.ireturn, 1) := by decide +kernel
theorem dX7_count_92 : decode cX7_count 92 = .ok (.aload_n 0, 1) := by decide +kernel
theorem dX7_count_93 : decode cX7_count 93 = .ok (.getfield 10, 3) := by decide +kernel
theorem dX7_count_96 : decode cX7_count 96 = .ok (.getfield 238, 3) := by decide +kernel
theorem dX7_count_99 : decode cX7_count 99 = .ok (.ireturn, 1) := by decide +kernel
theorem dX7_count_100 : decode cX7_count 100 = .ok (.aload_n 0, 1) := by decide +kernel
theorem dX7_count_101 : decode cX7_count 101 = .ok (.getfield 10, 3) := by decide +kernel
theorem dX7_count_104 : decode cX7_count 104 = .ok (.invokevirtual 241, 3) := by decide +kernel
theorem dX7_count_107 : decode cX7_count 107 = .ok (.ireturn, 1) := by decide +kernel
theorem dX7_count_108 : decode cX7_count 108 = .ok (.aload_n 0, 1) := by decide +kernel
theorem dX7_count_109 : decode cX7_count 109 = .ok (.getfield 10, 3) := by decide +kernel
theorem dX7_count_112 : decode cX7_count 112 = .ok (.getfield 244, 3) := by decide +kernel
theorem dX7_count_115 : decode cX7_count 115 = .ok (.ireturn, 1) := by decide +kernel
theorem dX7_count_116 : decode cX7_count 116 = .ok (.aload_n 0, 1) := by decide +kernel
theorem dX7_count_117 : decode cX7_count 117 = .ok (.getfield 10, 3) := by decide +kernel
theorem dX7_count_120 : decode cX7_count 120 = .ok (.getfield 247, 3) := by decide +kernel
theorem dX7_count_123 : decode cX7_count 123 = .ok (.ireturn, 1) := by decide +kernel
theorem dX7_count_124 : decode cX7_count 124 = .ok (.aload_n 0, 1) := by decide +kernel
theorem dX7_count_125 : decode cX7_count 125 = .ok (.getfield 10, 3) := by decide +kernel
theorem dX7_count_128 : decode cX7_count 128 = .ok (.iconst 1, 1) := by decide +kernel
theorem dX7_count_129 : decode cX7_count 129 = .ok (.iconst 3, 1) := by decide +kernel
theorem dX7_count_130 : decode cX7_count 130 = .ok (.invokevirtual 250, 3) := by decide +kernel
theorem dX7_count_133 : decode cX7_count 133 = .ok (.ireturn, 1) := by decide +kernel
theorem dX7_count_134 : decode cX7_count 134 = .ok (.aload_n 0, 1) := by decide +kernel
theorem dX7_count_135 : decode cX7_count 135 = .ok (.getfield 10, 3) := by decide +kernel
theorem dX7_count_138 : decode cX7_count 138 = .ok (.invokevirtual 253, 3) := by decide +kernel
theorem dX7_count_141 : decode cX7_count 141 = .ok (.ireturn, 1) := by decide +kernel
theorem dX7_count_142 : decode cX7_count 142 = .ok (.aload_n 0, 1) := by decide +kernel
theorem dX7_count_143 : decode cX7_count 143 = .ok (.getfield 10, 3) := by decide +kernel
theorem dX7_count_146 : decode cX7_count 146 = .ok (.invokevirtual 256, 3) := by decide +kernel
theorem dX7_count_149 : decode cX7_count 149 = .ok (.ireturn, 1) := by decide +kernel
theorem dX7_count_150 : decode cX7_count 150 = .ok (.aload_n 0, 1) := by decide +kernel
theorem dX7_count_151 : decode cX7_count 151 = .ok (.getfield 29, 3) := by decide +kernel
theorem dX7_count_154 : decode cX7_count 154 = .ok (.getfield 259, 3) := by decide +kernel
theorem dX7_count_157 : decode cX7_count 157 = .ok (.ireturn, 1) := by decide +kernel
theorem dX7_count_158 : decode cX7_count 158 = .ok (.aload_n 0, 1) := by decide +kernel
theorem dX7_count_159 : decode cX7_count 159 = .ok (.getfield 36, 3) := by decide +kernel
theorem dX7_count_162 : decode cX7_count 162 = .ok (.getfield 262, 3) := by decide +kernel
theorem dX7_count_165 : decode cX7_count 165 = .ok (.ireturn, 1) := by decide +kernel
theorem dX7_count_166 : decode cX7_count 166 = .ok (.iload_n 1, 1) := by decide +kernel
theorem dX7_count_167 : decode cX7_count 167 = .ok (.iconst 5, 1) := by decide +kernel
theorem dX7_count_168 : decode cX7_count 168 = .ok (.bipush 11, 2) := by decide +kernel
theorem dX7_count_170 : decode cX7_count 170 = .ok (.invokestatic 138, 3) := by decide +kernel
theorem dX7_count_173 : decode cX7_count 173 = .ok (.ifCond .eq 17, 3) := by decide +kernel
theorem dX7_count_176 : decode cX7_count 176 = .ok (.aload_n 0, 1) := by decide +kernel
theorem dX7_count_177 : decode cX7_count 177 = .ok (.getfield 10, 3) := by decide +kernel
theorem dX7_count_180 : decode cX7_count 180 = .ok (.iload_n 1, 1) := by decide +kernel
theorem dX7_count_181 : decode cX7_count 181 = .ok (.iconst 5, 1) := by decide +kernel
theorem dX7_count_182 : decode cX7_count 182 = .ok (.isub, 1) := by decide +kernel
theorem dX7_count_183 : decode cX7_count 183 = .ok (.iload_n 1, 1) := by decide +kernel
theorem dX7_count_184 : decode cX7_count 184 = .ok (.iconst 5, 1) := by decide +kernel
theorem dX7_count_185 : decode cX7_count 185 = .ok (.isub, 1) := by decide +kernel
theorem dX7_count_186 : decode cX7_count 186 = .ok (.invokevirtual 250, 3) := by decide +kernel
theorem dX7_count_189 : decode cX7_count 189 = .ok (.ireturn, 1) := by decide +kernel
theorem dX7_count_190 : decode cX7_count 190 = .ok (.bipush (-2), 2) := by decide +kernel
theorem dX7_count_192 : decode cX7_count 192 = .ok (.ireturn, 1) := by decide +kernel
theorem dX7_recorded_0 : decode cX7_recorded 0 = .ok (.iload_n 1, 1) := by decide +kernel
theorem dX7_recorded_1 : decode cX7_recorded 1 = .ok (.ifCond .lt 14, 3) := by decide +kernel
theorem dX7_recorded_4 : decode cX7_recorded 4 = .ok (.aload_n 0, 1) := by decide +kernel
theorem dX7_recorded_5 : decode cX7_recorded 5 = .ok (.getfield 29, 3) := by decide +kernel
theorem dX7_recorded_8 : decode cX7_recorded 8 = .ok (.aload_n 0, 1) := by decide +kernel
theorem dX7_recorded_9 : decode cX7_recorded 9 = .ok (.getfield 16, 3) := by decide +kernel
theorem dX7_recorded_12 : decode cX7_recorded 12 = .ok (.invokevirtual 265, 3) := by decide +kernel
theorem dX7_recorded_15 : decode cX7_recorded 15 = .ok (.iload_n 1, 1) := by decide +kernel
theorem dX7_recorded_16 : decode cX7_recorded 16 = .ok (.ireturn, 1) := by decide +kernel
theorem dX7_follow_0 : decode cX7_follow 0 = .ok (.aload_n 1, 1) := by decide +kernel
theorem dX7_follow_1 : decode cX7_follow 1 = .ok (.getfield 268, 3) := by decide +kernel
theorem dX7_follow_4 : decode cX7_follow 4 = .ok (.bipush 104, 2) := by decide +kernel
theorem dX7_follow_6 : decode cX7_follow 6 = .ok (.if_icmp .ne 19, 3) := by decide +kernel
theorem dX7_follow_9 : decode cX7_follow 9 = .ok (.aload_n 0, 1) := by decide +kernel
theorem dX7_follow_10 : decode cX7_follow 10 = .ok (.getfield 10, 3) := by decide +kernel
theorem dX7_follow_13 : decode cX7_follow 13 = .ok (.aload_n 1, 1) := by decide +kernel
theorem dX7_follow_14 : decode cX7_follow 14 = .ok (.getfield 274, 3) := by decide +kernel
theorem dX7_follow_17 : decode cX7_follow 17 = .ok (.aload_n 1, 1) := by decide +kernel
theorem dX7_follow_18 : decode cX7_follow 18 = .ok (.getfield 277, 3) := by decide +kernel
theorem dX7_follow_21 : decode cX7_follow 21 = .ok (.invokevirtual 72, 3) := by decide +kernel
theorem dX7_follow_24 : decode cX7_follow 24 = .ok (.ireturn, 1) := by decide +kernel
theorem dX7_follow_25 : decode cX7_follow 25 = .ok (.aload_n 1, 1) := by decide +kernel
theorem dX7_follow_26 : decode cX7_follow 26 = .ok (.getfield 268, 3) := by decide +kernel
theorem dX7_follow_29 : decode cX7_follow 29 = .ok (.bipush 108, 2) := by decide +kernel
theorem dX7_follow_31 : decode cX7_follow 31 = .ok (.if_icmp .ne 19, 3) := by decide +kernel
theorem dX7_follow_34 : decode cX7_follow 34 = .ok (.aload_n 0, 1) := by decide +kernel
theorem dX7_follow_35 : decode cX7_follow 35 = .ok (.getfield 10, 3) := by decide +kernel
theorem dX7_follow_38 : decode cX7_follow 38 = .ok (.aload_n 1, 1) := by decide +kernel
theorem dX7_follow_39 : decode cX7_follow 39 = .ok (.getfield 274, 3) := by decide +kernel
theorem dX7_follow_42 : decode cX7_follow 42 = .ok (.aload_n 1, 1) := by decide +kernel
theorem dX7_follow_43 : decode cX7_follow 43 = .ok (.getfield 277, 3) := by decide +kernel
theorem dX7_follow_46 : decode cX7_follow 46 = .ok (.invokevirtual 78, 3) := by decide +kernel
theorem dX7_follow_49 : decode cX7_follow 49 = .ok (.ireturn, 1) := by decide +kernel
theorem dX7_follow_50 : decode cX7_follow 50 = .ok (.aload_n 1, 1) := by decide +kernel
theorem dX7_follow_51 : decode cX7_follow 51 = .ok (.getfield 268, 3) := by decide +kernel
theorem dX7_follow_54 : decode cX7_follow 54 = .ok (.bipush 98, 2) := by decide +kernel
theorem dX7_follow_56 : decode cX7_follow 56 = .ok (.if_icmp .ne 15, 3) := by decide +kernel
theorem dX7_follow_59 : decode cX7_follow 59 = .ok (.aload_n 0, 1) := by decide +kernel
theorem dX7_follow_60 : decode cX7_follow 60 = .ok (.getfield 10, 3) := by decide +kernel
theorem dX7_follow_63 : decode cX7_follow 63 = .ok (.aload_n 1, 1) := by decide +kernel
theorem dX7_follow_64 : decode cX7_follow 64 = .ok (.getfield 274, 3) := by decide +kernel
theorem dX7_follow_67 : decode cX7_follow 67 = .ok (.invokevirtual 75, 3) := by decide +kernel
theorem dX7_follow_70 : decode cX7_follow 70 = .ok (.ireturn, 1) := by decide +kernel
theorem dX7_follow_71 : decode cX7_follow 71 = .ok (.aload_n 1, 1) := by decide +kernel
theorem dX7_follow_72 : decode cX7_follow 72 = .ok (.getfield 268, 3) := by decide +kernel
theorem dX7_follow_75 : decode cX7_follow 75 = .ok (.bipush 114, 2) := by decide +kernel
theorem dX7_follow_77 : decode cX7_follow 77 = .ok (.if_icmp .ne 15, 3) := by decide +kernel
theorem dX7_follow_80 : decode cX7_follow 80 = .ok (.aload_n 0, 1) := by decide +kernel
theorem dX7_follow_81 : decode cX7_follow 81 = .ok (.getfield 10, 3) := by decide +kernel
theorem dX7_follow_84 : decode cX7_follow 84 = .ok (.aload_n 1, 1) := by decide +kernel
theorem dX7_follow_85 : decode cX7_follow 85 = .ok (.getfield 274, 3) := by decide +kernel
theorem dX7_follow_88 : decode cX7_follow 88 = .ok (.invokevirtual 66, 3) := by decide +kernel
theorem dX7_follow_91 : decode cX7_follow 91 = .ok (.ireturn, 1) := by decide +kernel
theorem dX7_follow_92 : decode cX7_follow 92 = .ok (.aload_n 1, 1) := by decide +kernel
theorem dX7_follow_93 : decode cX7_follow 93 = .ok (.getfield 268, 3) := by decide +kernel
theorem dX7_follow_96 : decode cX7_follow 96 = .ok (.bipush 115, 2) := by decide +kernel
theorem dX7_follow_98 : decode cX7_follow 98 = .ok (.if_icmp .ne 15, 3) := by decide +kernel
theorem dX7_follow_101 : decode cX7_follow 101 = .ok (.aload_n 0, 1) := by decide +kernel
theorem dX7_follow_102 : decode cX7_follow 102 = .ok (.getfield 10, 3) := by decide +kernel
theorem dX7_follow_105 : decode cX7_follow 105 = .ok (.aload_n 1, 1) := by decide +kernel
theorem dX7_follow_106 : decode cX7_follow 106 = .ok (.getfield 274, 3) := by decide +kernel
theorem dX7_follow_109 : decode cX7_follow 109 = .ok (.invokevirtual 69, 3) := by decide +kernel
theorem dX7_follow_112 : decode cX7_follow 112 = .ok (.ireturn, 1) := by decide +kernel
theorem dX7_follow_113 : decode cX7_follow 113 = .ok (.aload_n 0, 1) := by decide +kernel
theorem dX7_follow_114 : decode cX7_follow 114 = .ok (.getfield 10, 3) := by decide +kernel
theorem dX7_follow_117 : decode cX7_follow 117 = .ok (.aload_n 1, 1) := by decide +kernel
theorem dX7_follow_118 : decode cX7_follow 118 = .ok (.getfield 274, 3) := by decide +kernel
theorem dX7_follow_121 : decode cX7_follow 121 = .ok (.invokevirtual 84, 3) := by decide +kernel
theorem dX7_follow_124 : decode cX7_follow 124 = .ok (.ireturn, 1) := by decide +kernel
theorem dX7_within_0 : decode cX7_within 0 = .ok (.iload_n 0, 1) := by decide +kernel
theorem dX7_within_1 : decode cX7_within 1 = .ok (.iload_n 1, 1) := by decide +kernel
theorem dX7_within_2 : decode cX7_within 2 = .ok (.if_icmp .lt 12, 3) := by decide +kernel
theorem dX7_within_5 : decode cX7_within 5 = .ok (.iload_n 0, 1) := by decide +kernel
theorem dX7_within_6 : decode cX7_within 6 = .ok (.iload_n 2, 1) := by decide +kernel
theorem dX7_within_7 : decode cX7_within 7 = .ok (.if_icmp .gt 7, 3) := by decide +kernel
theorem dX7_within_10 : decode cX7_within 10 = .ok (.iconst 1, 1) := by decide +kernel
theorem dX7_within_11 : decode cX7_within 11 = .ok (.goto 4, 3) := by decide +kernel
theorem dX7_within_14 : decode cX7_within 14 = .ok (.iconst 0, 1) := by decide +kernel
theorem dX7_within_15 : decode cX7_within 15 = .ok (.ireturn, 1) := by decide +kernel
theorem dX8_init_0 : decode cX8_init 0 = .ok (.aload_n 0, 1) := by decide +kernel
theorem dX8_init_1 : decode cX8_init 1 = .ok (.invokespecial 1, 3) := by decide +kernel
theorem dX8_init_4 : decode cX8_init 4 = .ok (.aload_n 0, 1) := by decide +kernel
theorem dX8_init_5 : decode cX8_init 5 = .ok (.sipush 491, 3) := by decide +kernel
theorem dX8_init_8 : decode cX8_init 8 = .ok (.newarray .int, 2) := by decide +kernel
theorem dX8_init_10 : decode cX8_init 10 = .ok (.putfield 7, 3) := by decide +kernel
theorem dX8_init_13 : decode cX8_init 13 = .ok (.aload_n 0, 1) := by decide +kernel
theorem dX8_init_14 : decode cX8_init 14 = .ok (.bipush 8, 2) := by decide +kernel
theorem dX8_init_16 : decode cX8_init 16 = .ok (.newarray .float, 2) := by decide +kernel
theorem dX8_init_18 : decode cX8_init 18 = .ok (.putfield 13, 3) := by decide +kernel
theorem dX8_init_21 : decode cX8_init 21 = .ok (.aload_n 0, 1) := by decide +kernel
theorem dX8_init_22 : decode cX8_init 22 = .ok (.bipush 8, 2) := by decide +kernel
theorem dX8_init_24 : decode cX8_init 24 = .ok (.newarray .float, 2) := by decide +kernel
theorem dX8_init_26 : decode cX8_init 26 = .ok (.putfield 17, 3) := by decide +kernel
theorem dX8_init_29 : decode cX8_init 29 = .ok (.aload_n 0, 1) := by decide +kernel
theorem dX8_init_30 : decode cX8_init 30 = .ok (.sipush 2946, 3) := by decide +kernel
theorem dX8_init_33 : decode cX8_init 33 = .ok (.newarray .int, 2) := by decide +kernel
theorem dX8_init_35 : decode cX8_init 35 = .ok (.putfield 20, 3) := by decide +kernel
theorem dX8_init_38 : decode cX8_init 38 = .ok (.aload_n 0, 1) := by decide +kernel
theorem dX8_init_39 : decode cX8_init 39 = .ok (.bipush 48, 2) := by decide +kernel
theorem dX8_init_41 : decode cX8_init 41 = .ok (.newarray .float, 2) := by decide +kernel
theorem dX8_init_43 : decode cX8_init 43 = .ok (.putfield 23, 3) := by decide +kernel
theorem dX8_init_46 : decode cX8_init 46 = .ok (.aload_n 0, 1) := by decide +kernel
theorem dX8_init_47 : decode cX8_init 47 = .ok (.bipush 48, 2) := by decide +kernel
theorem dX8_init_49 : decode cX8_init 49 = .ok (.newarray .float, 2) := by decide +kernel
theorem dX8_init_51 : decode cX8_init 51 = .ok (.putfield 26, 3) := by decide +kernel
theorem dX8_init_54 : decode cX8_init 54 = .ok (.aload_n 0, 1) := by decide +kernel
theorem dX8_init_55 : decode cX8_init 55 = .ok (.bipush 60, 2) := by decide +kernel
theorem dX8_init_57 : decode cX8_init 57 = .ok (.newarray .int, 2) := by decide +kernel
theorem dX8_init_59 : decode cX8_init 59 = .ok (.putfield 29, 3) := by decide +kernel
theorem dX8_init_62 : decode cX8_init 62 = .ok (.return_, 1) := by decide +kernel
theorem dX8_isIn_0 : decode cX8_isIn 0 = .ok (.iload_n 0, 1) := by decide +kernel
theorem dX8_isIn_1 : decode cX8_isIn 1 = .ok (.iload_n 1, 1) := by decide +kernel
theorem dX8_isIn_2 : decode cX8_isIn 2 = .ok (.if_icmp .lt 12, 3) := by decide +kernel
theorem dX8_isIn_5 : decode cX8_isIn 5 = .ok (.iload_n 0, 1) := by decide +kernel
theorem dX8_isIn_6 : decode cX8_isIn 6 = .ok (.iload_n 2, 1) := by decide +kernel
theorem dX8_isIn_7 : decode cX8_isIn 7 = .ok (.if_icmp .gt 7, 3) := by decide +kernel
theorem dX8_isIn_10 : decode cX8_isIn 10 = .ok (.iconst 1, 1) := by decide +kernel
theorem dX8_isIn_11 : decode cX8_isIn 11 = .ok (.goto 4, 3) := by decide +kernel
theorem dX8_isIn_14 : decode cX8_isIn 14 = .ok (.iconst 0, 1) := by decide +kernel
theorem dX8_isIn_15 : decode cX8_isIn 15 = .ok (.ireturn, 1) := by decide +kernel
theorem dX8_of_0 : decode cX8_of 0 = .ok (.aload_n 0, 1) := by decide +kernel
theorem dX8_of_1 : decode cX8_of 1 = .ok (.getfield 7, 3) := by decide +kernel
theorem dX8_of_4 : decode cX8_of 4 = .ok (.iconst 4, 1) := by decide +kernel
theorem dX8_of_5 : decode cX8_of 5 = .ok (.iconst 5, 1) := by decide +kernel
theorem dX8_of_6 : decode cX8_of 6 = .ok (.iload_n 1, 1) := by decide +kernel
theorem dX8_of_7 : decode cX8_of 7 = .ok (.imul, 1) := by decide +kernel
theorem dX8_of_8 : decode cX8_of 8 = .ok (.iadd, 1) := by decide +kernel
theorem dX8_of_9 : decode cX8_of 9 = .ok (.iload_n 2, 1) := by decide +kernel
theorem dX8_of_10 : decode cX8_of 10 = .ok (.iadd, 1) := by decide +kernel
theorem dX8_of_11 : decode cX8_of 11 = .ok (.iaload, 1) := by decide +kernel
theorem dX8_of_12 : decode cX8_of 12 = .ok (.ireturn, 1) := by decide +kernel
theorem dX8_sets_0 : decode cX8_sets 0 = .ok (.aload_n 0, 1) := by decide +kernel
theorem dX8_sets_1 : decode cX8_sets 1 = .ok (.getfield 7, 3) := by decide +kernel
theorem dX8_sets_4 : decode cX8_sets 4 = .ok (.iconst 4, 1) := by decide +kernel
theorem dX8_sets_5 : decode cX8_sets 5 = .ok (.iconst 5, 1) := by decide +kernel
theorem dX8_sets_6 : decode cX8_sets 6 = .ok (.iload_n 1, 1) := by decide +kernel
theorem dX8_sets_7 : decode cX8_sets 7 = .ok (.imul, 1) := by decide +kernel
theorem dX8_sets_8 : decode cX8_sets 8 = .ok (.iadd, 1) := by decide +kernel
theorem dX8_sets_9 : decode cX8_sets 9 = .ok (.iload_n 2, 1) := by decide +kernel
theorem dX8_sets_10 : decode cX8_sets 10 = .ok (.iadd, 1) := by decide +kernel
theorem dX8_sets_11 : decode cX8_sets 11 = .ok (.iload_n 3, 1) := by decide +kernel
theorem dX8_sets_12 : decode cX8_sets 12 = .ok (.iastore, 1) := by decide +kernel
theorem dX8_sets_13 : decode cX8_sets 13 = .ok (.return_, 1) := by decide +kernel
theorem dX8_ofTask_0 : decode cX8_ofTask 0 = .ok (.aload_n 0, 1) := by decide +kernel
theorem dX8_ofTask_1 : decode cX8_ofTask 1 = .ok (.getfield 7, 3) := by decide +kernel
theorem dX8_ofTask_4 : decode cX8_ofTask 4 = .ok (.sipush 251, 3) := by decide +kernel
theorem dX8_ofTask_7 : decode cX8_ofTask 7 = .ok (.bipush 10, 2) := by decide +kernel
theorem dX8_ofTask_9 : decode cX8_ofTask 9 = .ok (.iload_n 1, 1) := by decide +kernel
theorem dX8_ofTask_10 : decode cX8_ofTask 10 = .ok (.imul, 1) := by decide +kernel
theorem dX8_ofTask_11 : decode cX8_ofTask 11 = .ok (.iadd, 1) := by decide +kernel
theorem dX8_ofTask_12 : decode cX8_ofTask 12 = .ok (.iload_n 2, 1) := by decide +kernel
theorem dX8_ofTask_13 : decode cX8_ofTask 13 = .ok (.iadd, 1) := by decide +kernel
theorem dX8_ofTask_14 : decode cX8_ofTask 14 = .ok (.iaload, 1) := by decide +kernel
theorem dX8_ofTask_15 : decode cX8_ofTask 15 = .ok (.ireturn, 1) := by decide +kernel
theorem dX8_setsTask_0 : decode cX8_setsTask 0 = .ok (.aload_n 0, 1) := by decide +kernel
theorem dX8_setsTask_1 : decode cX8_setsTask 1 = .ok (.getfield 7, 3) := by decide +kernel
theorem dX8_setsTask_4 : decode cX8_setsTask 4 = .ok (.sipush 251, 3) := by decide +kernel
theorem dX8_setsTask_7 : decode cX8_setsTask 7 = .ok (.bipush 10, 2) := by decide +kernel
theorem dX8_setsTask_9 : decode cX8_setsTask 9 = .ok (.iload_n 1, 1) := by decide +kernel
theorem dX8_setsTask_10 : decode cX8_setsTask 10 = .ok (.imul, 1) := by decide +kernel
theorem dX8_setsTask_11 : decode cX8_setsTask 11 = .ok (.iadd, 1) := by decide +kernel
theorem dX8_setsTask_12 : decode cX8_setsTask 12 = .ok (.iload_n 2, 1) := by decide +kernel
theorem dX8_setsTask_13 : decode cX8_setsTask 13 = .ok (.iadd, 1) := by decide +kernel
theorem dX8_setsTask_14 : decode cX8_setsTask 14 = .ok (.iload_n 3, 1) := by decide +kernel
theorem dX8_setsTask_15 : decode cX8_setsTask 15 = .ok (.iastore, 1) := by decide +kernel
theorem dX8_setsTask_16 : decode cX8_setsTask 16 = .ok (.return_, 1) := by decide +kernel
theorem dX8_isAsset_0 : decode cX8_isAsset 0 = .ok (.iload_n 1, 1) := by decide +kernel
theorem dX8_isAsset_1 : decode cX8_isAsset 1 = .ok (.iconst 0, 1) := by decide +kernel
theorem dX8_isAsset_2 : decode cX8_isAsset 2 = .ok (.aload_n 0, 1) := by decide +kernel
theorem dX8_isAsset_3 : decode cX8_isAsset 3 = .ok (.getfield 7, 3) := by decide +kernel
theorem dX8_isAsset_6 : decode cX8_isAsset 6 = .ok (.iconst 1, 1) := by decide +kernel
theorem dX8_isAsset_7 : decode cX8_isAsset 7 = .ok (.iaload, 1) := by decide +kernel
theorem dX8_isAsset_8 : decode cX8_isAsset 8 = .ok (.iconst 1, 1) := by decide +kernel
theorem dX8_isAsset_9 : decode cX8_isAsset 9 = .ok (.isub, 1) := by decide +kernel
theorem dX8_isAsset_10 : decode cX8_isAsset 10 = .ok (.invokestatic 32, 3) := by decide +kernel
theorem dX8_isAsset_13 : decode cX8_isAsset 13 = .ok (.ireturn, 1) := by decide +kernel
theorem dX8_isCrew_0 : decode cX8_isCrew 0 = .ok (.iload_n 1, 1) := by decide +kernel
theorem dX8_isCrew_1 : decode cX8_isCrew 1 = .ok (.iconst 0, 1) := by decide +kernel
theorem dX8_isCrew_2 : decode cX8_isCrew 2 = .ok (.aload_n 0, 1) := by decide +kernel
theorem dX8_isCrew_3 : decode cX8_isCrew 3 = .ok (.getfield 7, 3) := by decide +kernel
theorem dX8_isCrew_6 : decode cX8_isCrew 6 = .ok (.iconst 2, 1) := by decide +kernel
theorem dX8_isCrew_7 : decode cX8_isCrew 7 = .ok (.iaload, 1) := by decide +kernel
theorem dX8_isCrew_8 : decode cX8_isCrew 8 = .ok (.iconst 1, 1) := by decide +kernel
theorem dX8_isCrew_9 : decode cX8_isCrew 9 = .ok (.isub, 1) := by decide +kernel
theorem dX8_isCrew_10 : decode cX8_isCrew 10 = .ok (.invokestatic 32, 3) := by decide +kernel
theorem dX8_isCrew_13 : decode cX8_isCrew 13 = .ok (.ireturn, 1) := by decide +kernel
theorem dX8_isTask_0 : decode cX8_isTask 0 = .ok (.iload_n 1, 1) := by decide +kernel
theorem dX8_isTask_1 : decode cX8_isTask 1 = .ok (.iconst 0, 1) := by decide +kernel
theorem dX8_isTask_2 : decode cX8_isTask 2 = .ok (.aload_n 0, 1) := by decide +kernel
theorem dX8_isTask_3 : decode cX8_isTask 3 = .ok (.getfield 7, 3) := by decide +kernel
theorem dX8_isTask_6 : decode cX8_isTask 6 = .ok (.iconst 3, 1) := by decide +kernel
theorem dX8_isTask_7 : decode cX8_isTask 7 = .ok (.iaload, 1) := by decide +kernel
theorem dX8_isTask_8 : decode cX8_isTask 8 = .ok (.iconst 1, 1) := by decide +kernel
theorem dX8_isTask_9 : decode cX8_isTask 9 = .ok (.isub, 1) := by decide +kernel
theorem dX8_isTask_10 : decode cX8_isTask 10 = .ok (.invokestatic 32, 3) := by decide +kernel
theorem dX8_isTask_13 : decode cX8_isTask 13 = .ok (.ireturn, 1) := by decide +kernel
theorem dX8_ones_0 : decode cX8_ones 0 = .ok (.iconst 0, 1) := by decide +kernel
theorem dX8_ones_1 : decode cX8_ones 1 = .ok (.istore_n 1, 1) := by decide +kernel
theorem dX8_ones_2 : decode cX8_ones 2 = .ok (.iconst 0, 1) := by decide +kernel
theorem dX8_ones_3 : decode cX8_ones 3 = .ok (.istore_n 2, 1) := by decide +kernel
theorem dX8_ones_4 : decode cX8_ones 4 = .ok (.iload_n 2, 1) := by decide +kernel
theorem dX8_ones_5 : decode cX8_ones 5 = .ok (.bipush 8, 2) := by decide +kernel
theorem dX8_ones_7 : decode cX8_ones 7 = .ok (.if_icmp .ge 17, 3) := by decide +kernel
theorem dX8_ones_10 : decode cX8_ones 10 = .ok (.iload_n 1, 1) := by decide +kernel
theorem dX8_ones_11 : decode cX8_ones 11 = .ok (.iload_n 0, 1) := by decide +kernel
theorem dX8_ones_12 : decode cX8_ones 12 = .ok (.iload_n 2, 1) := by decide +kernel
theorem dX8_ones_13 : decode cX8_ones 13 = .ok (.ishr, 1) := by decide +kernel
theorem dX8_ones_14 : decode cX8_ones 14 = .ok (.iconst 1, 1) := by decide +kernel
theorem dX8_ones_15 : decode cX8_ones 15 = .ok (.iand, 1) := by decide +kernel
theorem dX8_ones_16 : decode cX8_ones 16 = .ok (.iadd, 1) := by decide +kernel
theorem dX8_ones_17 : decode cX8_ones 17 = .ok (.istore_n 1, 1) := by decide +kernel
theorem dX8_ones_18 : decode cX8_ones 18 = .ok (.iinc 2 1, 3) := by decide +kernel
theorem dX8_ones_21 : decode cX8_ones 21 = .ok (.goto (-17), 3) := by decide +kernel
theorem dX8_ones_24 : decode cX8_ones 24 = .ok (.iload_n 1, 1) := by decide +kernel
theorem dX8_ones_25 : decode cX8_ones 25 = .ok (.ireturn, 1) := by decide +kernel
theorem dX8_keeps_0 : decode cX8_keeps 0 = .ok (.iconst 0, 1) := by decide +kernel
theorem dX8_keeps_1 : decode cX8_keeps 1 = .ok (.istore_n 2, 1) := by decide +kernel
theorem dX8_keeps_2 : decode cX8_keeps 2 = .ok (.iload_n 2, 1) := by decide +kernel
theorem dX8_keeps_3 : decode cX8_keeps 3 = .ok (.sipush 491, 3) := by decide +kernel
theorem dX8_keeps_6 : decode cX8_keeps 6 = .ok (.if_icmp .ge 27, 3) := by decide +kernel
theorem dX8_keeps_9 : decode cX8_keeps 9 = .ok (.aload_n 0, 1) := by decide +kernel
theorem dX8_keeps_10 : decode cX8_keeps 10 = .ok (.getfield 20, 3) := by decide +kernel
theorem dX8_keeps_13 : decode cX8_keeps 13 = .ok (.iload_n 1, 1) := by decide +kernel
theorem dX8_keeps_14 : decode cX8_keeps 14 = .ok (.sipush 491, 3) := by decide +kernel
theorem dX8_keeps_17 : decode cX8_keeps 17 = .ok (.imul, 1) := by decide +kernel
theorem dX8_keeps_18 : decode cX8_keeps 18 = .ok (.iload_n 2, 1) := by decide +kernel
theorem dX8_keeps_19 : decode cX8_keeps 19 = .ok (.iadd, 1) := by decide +kernel
theorem dX8_keeps_20 : decode cX8_keeps 20 = .ok (.aload_n 0, 1) := by decide +kernel
theorem dX8_keeps_21 : decode cX8_keeps 21 = .ok (.getfield 7, 3) := by decide +kernel
theorem dX8_keeps_24 : decode cX8_keeps 24 = .ok (.iload_n 2, 1) := by decide +kernel
theorem dX8_keeps_25 : decode cX8_keeps 25 = .ok (.iaload, 1) := by decide +kernel
theorem dX8_keeps_26 : decode cX8_keeps 26 = .ok (.iastore, 1) := by decide +kernel
theorem dX8_keeps_27 : decode cX8_keeps 27 = .ok (.iinc 2 1, 3) := by decide +kernel
theorem dX8_keeps_30 : decode cX8_keeps 30 = .ok (.goto (-28), 3) := by decide +kernel
theorem dX8_keeps_33 : decode cX8_keeps 33 = .ok (.iconst 0, 1) := by decide +kernel
theorem dX8_keeps_34 : decode cX8_keeps 34 = .ok (.istore_n 2, 1) := by decide +kernel
theorem dX8_keeps_35 : decode cX8_keeps 35 = .ok (.iload_n 2, 1) := by decide +kernel
theorem dX8_keeps_36 : decode cX8_keeps 36 = .ok (.bipush 8, 2) := by decide +kernel
theorem dX8_keeps_38 : decode cX8_keeps 38 = .ok (.if_icmp .ge 43, 3) := by decide +kernel
theorem dX8_keeps_41 : decode cX8_keeps 41 = .ok (.aload_n 0, 1) := by decide +kernel
theorem dX8_keeps_42 : decode cX8_keeps 42 = .ok (.getfield 23, 3) := by decide +kernel
theorem dX8_keeps_45 : decode cX8_keeps 45 = .ok (.bipush 8, 2) := by decide +kernel
theorem dX8_keeps_47 : decode cX8_keeps 47 = .ok (.iload_n 1, 1) := by decide +kernel
theorem dX8_keeps_48 : decode cX8_keeps 48 = .ok (.imul, 1) := by decide +kernel
theorem dX8_keeps_49 : decode cX8_keeps 49 = .ok (.iload_n 2, 1) := by decide +kernel
theorem dX8_keeps_50 : decode cX8_keeps 50 = .ok (.iadd, 1) := by decide +kernel
theorem dX8_keeps_51 : decode cX8_keeps 51 = .ok (.aload_n 0, 1) := by decide +kernel
theorem dX8_keeps_52 : decode cX8_keeps 52 = .ok (.getfield 13, 3) := by decide +kernel
theorem dX8_keeps_55 : decode cX8_keeps 55 = .ok (.iload_n 2, 1) := by decide +kernel
theorem dX8_keeps_56 : decode cX8_keeps 56 = .ok (.faload, 1) := by decide +kernel
theorem dX8_keeps_57 : decode cX8_keeps 57 = .ok (.fastore, 1) := by decide +kernel
theorem dX8_keeps_58 : decode cX8_keeps 58 = .ok (.aload_n 0, 1) := by decide +kernel
theorem dX8_keeps_59 : decode cX8_keeps 59 = .ok (.getfield 26, 3) := by decide +kernel
theorem dX8_keeps_62 : decode cX8_keeps 62 = .ok (.bipush 8, 2) := by decide +kernel
theorem dX8_keeps_64 : decode cX8_keeps 64 = .ok (.iload_n 1, 1) := by decide +kernel
theorem dX8_keeps_65 : decode cX8_keeps 65 = .ok (.imul, 1) := by decide +kernel
theorem dX8_keeps_66 : decode cX8_keeps 66 = .ok (.iload_n 2, 1) := by decide +kernel
theorem dX8_keeps_67 : decode cX8_keeps 67 = .ok (.iadd, 1) := by decide +kernel
theorem dX8_keeps_68 : decode cX8_keeps 68 = .ok (.aload_n 0, 1) := by decide +kernel
theorem dX8_keeps_69 : decode cX8_keeps 69 = .ok (.getfield 17, 3) := by decide +kernel
theorem dX8_keeps_72 : decode cX8_keeps 72 = .ok (.iload_n 2, 1) := by decide +kernel
theorem dX8_keeps_73 : decode cX8_keeps 73 = .ok (.faload, 1) := by decide +kernel
theorem dX8_keeps_74 : decode cX8_keeps 74 = .ok (.fastore, 1) := by decide +kernel
theorem dX8_keeps_75 : decode cX8_keeps 75 = .ok (.iinc 2 1, 3) := by decide +kernel
theorem dX8_keeps_78 : decode cX8_keeps 78 = .ok (.goto (-43), 3) := by decide +kernel
theorem dX8_keeps_81 : decode cX8_keeps 81 = .ok (.return_, 1) := by decide +kernel
theorem dX8_brings_0 : decode cX8_brings 0 = .ok (.iconst 0, 1) := by decide +kernel
theorem dX8_brings_1 : decode cX8_brings 1 = .ok (.istore_n 2, 1) := by decide +kernel
theorem dX8_brings_2 : decode cX8_brings 2 = .ok (.iload_n 2, 1) := by decide +kernel
theorem dX8_brings_3 : decode cX8_brings 3 = .ok (.sipush 491, 3) := by decide +kernel
theorem dX8_brings_6 : decode cX8_brings 6 = .ok (.if_icmp .ge 27, 3) := by decide +kernel
theorem dX8_brings_9 : decode cX8_brings 9 = .ok (.aload_n 0, 1) := by decide +kernel
theorem dX8_brings_10 : decode cX8_brings 10 = .ok (.getfield 7, 3) := by decide +kernel
theorem dX8_brings_13 : decode cX8_brings 13 = .ok (.iload_n 2, 1) := by decide +kernel
theorem dX8_brings_14 : decode cX8_brings 14 = .ok (.aload_n 0, 1) := by decide +kernel
theorem dX8_brings_15 : decode cX8_brings 15 = .ok (.getfield 20, 3) := by decide +kernel
theorem dX8_brings_18 : decode cX8_brings 18 = .ok (.iload_n 1, 1) := by decide +kernel
theorem dX8_brings_19 : decode cX8_brings 19 = .ok (.sipush 491, 3) := by decide +kernel
theorem dX8_brings_22 : decode cX8_brings 22 = .ok (.imul, 1) := by decide +kernel
theorem dX8_brings_23 : decode cX8_brings 23 = .ok (.iload_n 2, 1) := by decide +kernel
theorem dX8_brings_24 : decode cX8_brings 24 = .ok (.iadd, 1) := by decide +kernel
theorem dX8_brings_25 : decode cX8_brings 25 = .ok (.iaload, 1) := by decide +kernel
theorem dX8_brings_26 : decode cX8_brings 26 = .ok (.iastore, 1) := by decide +kernel
theorem dX8_brings_27 : decode cX8_brings 27 = .ok (.iinc 2 1, 3) := by decide +kernel
theorem dX8_brings_30 : decode cX8_brings 30 = .ok (.goto (-28), 3) := by decide +kernel
theorem dX8_brings_33 : decode cX8_brings 33 = .ok (.iconst 0, 1) := by decide +kernel
theorem dX8_brings_34 : decode cX8_brings 34 = .ok (.istore_n 2, 1) := by decide +kernel
theorem dX8_brings_35 : decode cX8_brings 35 = .ok (.iload_n 2, 1) := by decide +kernel
theorem dX8_brings_36 : decode cX8_brings 36 = .ok (.bipush 8, 2) := by decide +kernel
theorem dX8_brings_38 : decode cX8_brings 38 = .ok (.if_icmp .ge 43, 3) := by decide +kernel
theorem dX8_brings_41 : decode cX8_brings 41 = .ok (.aload_n 0, 1) := by decide +kernel
theorem dX8_brings_42 : decode cX8_brings 42 = .ok (.getfield 13, 3) := by decide +kernel
theorem dX8_brings_45 : decode cX8_brings 45 = .ok (.iload_n 2, 1) := by decide +kernel
theorem dX8_brings_46 : decode cX8_brings 46 = .ok (.aload_n 0, 1) := by decide +kernel
theorem dX8_brings_47 : decode cX8_brings 47 = .ok (.getfield 23, 3) := by decide +kernel
theorem dX8_brings_50 : decode cX8_brings 50 = .ok (.bipush 8, 2) := by decide +kernel
theorem dX8_brings_52 : decode cX8_brings 52 = .ok (.iload_n 1, 1) := by decide +kernel
theorem dX8_brings_53 : decode cX8_brings 53 = .ok (.imul, 1) := by decide +kernel
theorem dX8_brings_54 : decode cX8_brings 54 = .ok (.iload_n 2, 1) := by decide +kernel
theorem dX8_brings_55 : decode cX8_brings 55 = .ok (.iadd, 1) := by decide +kernel
theorem dX8_brings_56 : decode cX8_brings 56 = .ok (.faload, 1) := by decide +kernel
theorem dX8_brings_57 : decode cX8_brings 57 = .ok (.fastore, 1) := by decide +kernel
theorem dX8_brings_58 : decode cX8_brings 58 = .ok (.aload_n 0, 1) := by decide +kernel
theorem dX8_brings_59 : decode cX8_brings 59 = .ok (.getfield 17, 3) := by decide +kernel
theorem dX8_brings_62 : decode cX8_brings 62 = .ok (.iload_n 2, 1) := by decide +kernel
theorem dX8_brings_63 : decode cX8_brings 63 = .ok (.aload_n 0, 1) := by decide +kernel
theorem dX8_brings_64 : decode cX8_brings 64 = .ok (.getfield 26, 3) := by decide +kernel
theorem dX8_brings_67 : decode cX8_brings 67 = .ok (.bipush 8, 2) := by decide +kernel
theorem dX8_brings_69 : decode cX8_brings 69 = .ok (.iload_n 1, 1) := by decide +kernel
theorem dX8_brings_70 : decode cX8_brings 70 = .ok (.imul, 1) := by decide +kernel
theorem dX8_brings_71 : decode cX8_brings 71 = .ok (.iload_n 2, 1) := by decide +kernel
theorem dX8_brings_72 : decode cX8_brings 72 = .ok (.iadd, 1) := by decide +kernel
theorem dX8_brings_73 : decode cX8_brings 73 = .ok (.faload, 1) := by decide +kernel
theorem dX8_brings_74 : decode cX8_brings 74 = .ok (.fastore, 1) := by decide +kernel
theorem dX8_brings_75 : decode cX8_brings 75 = .ok (.iinc 2 1, 3) := by decide +kernel
theorem dX8_brings_78 : decode cX8_brings 78 = .ok (.goto (-43), 3) := by decide +kernel
theorem dX8_brings_81 : decode cX8_brings 81 = .ok (.return_, 1) := by decide +kernel
theorem dX8_copies_0 : decode cX8_copies 0 = .ok (.iconst 0, 1) := by decide +kernel
theorem dX8_copies_1 : decode cX8_copies 1 = .ok (.istore_n 3, 1) := by decide +kernel
theorem dX8_copies_2 : decode cX8_copies 2 = .ok (.iload_n 3, 1) := by decide +kernel
theorem dX8_copies_3 : decode cX8_copies 3 = .ok (.sipush 491, 3) := by decide +kernel
theorem dX8_copies_6 : decode cX8_copies 6 = .ok (.if_icmp .ge 33, 3) := by decide +kernel
theorem dX8_copies_9 : decode cX8_copies 9 = .ok (.aload_n 0, 1) := by decide +kernel
theorem dX8_copies_10 : decode cX8_copies 10 = .ok (.getfield 20, 3) := by decide +kernel
theorem dX8_copies_13 : decode cX8_copies 13 = .ok (.iload_n 2, 1) := by decide +kernel
theorem dX8_copies_14 : decode cX8_copies 14 = .ok (.sipush 491, 3) := by decide +kernel
theorem dX8_copies_17 : decode cX8_copies 17 = .ok (.imul, 1) := by decide +kernel
theorem dX8_copies_18 : decode cX8_copies 18 = .ok (.iload_n 3, 1) := by decide +kernel
theorem dX8_copies_19 : decode cX8_copies 19 = .ok (.iadd, 1) := by decide +kernel
theorem dX8_copies_20 : decode cX8_copies 20 = .ok (.aload_n 0, 1) := by decide +kernel
theorem dX8_copies_21 : decode cX8_copies 21 = .ok (.getfield 20, 3) := by decide +kernel
theorem dX8_copies_24 : decode cX8_copies 24 = .ok (.iload_n 1, 1) := by decide +kernel
theorem dX8_copies_25 : decode cX8_copies 25 = .ok (.sipush 491, 3) := by decide +kernel
theorem dX8_copies_28 : decode cX8_copies 28 = .ok (.imul, 1) := by decide +kernel
theorem dX8_copies_29 : decode cX8_copies 29 = .ok (.iload_n 3, 1) := by decide +kernel
theorem dX8_copies_30 : decode cX8_copies 30 = .ok (.iadd, 1) := by decide +kernel
theorem dX8_copies_31 : decode cX8_copies 31 = .ok (.iaload, 1) := by decide +kernel
theorem dX8_copies_32 : decode cX8_copies 32 = .ok (.iastore, 1) := by decide +kernel
theorem dX8_copies_33 : decode cX8_copies 33 = .ok (.iinc 3 1, 3) := by decide +kernel
theorem dX8_copies_36 : decode cX8_copies 36 = .ok (.goto (-34), 3) := by decide +kernel
theorem dX8_copies_39 : decode cX8_copies 39 = .ok (.iconst 0, 1) := by decide +kernel
theorem dX8_copies_40 : decode cX8_copies 40 = .ok (.istore_n 3, 1) := by decide +kernel
theorem dX8_copies_41 : decode cX8_copies 41 = .ok (.iload_n 3, 1) := by decide +kernel
theorem dX8_copies_42 : decode cX8_copies 42 = .ok (.bipush 8, 2) := by decide +kernel
theorem dX8_copies_44 : decode cX8_copies 44 = .ok (.if_icmp .ge 53, 3) := by decide +kernel
theorem dX8_copies_47 : decode cX8_copies 47 = .ok (.aload_n 0, 1) := by decide +kernel
theorem dX8_copies_48 : decode cX8_copies 48 = .ok (.getfield 23, 3) := by decide +kernel
theorem dX8_copies_51 : decode cX8_copies 51 = .ok (.bipush 8, 2) := by decide +kernel
theorem dX8_copies_53 : decode cX8_copies 53 = .ok (.iload_n 2, 1) := by decide +kernel
theorem dX8_copies_54 : decode cX8_copies 54 = .ok (.imul, 1) := by decide +kernel
theorem dX8_copies_55 : decode cX8_copies 55 = .ok (.iload_n 3, 1) := by decide +kernel
theorem dX8_copies_56 : decode cX8_copies 56 = .ok (.iadd, 1) := by decide +kernel
theorem dX8_copies_57 : decode cX8_copies 57 = .ok (.aload_n 0, 1) := by decide +kernel
theorem dX8_copies_58 : decode cX8_copies 58 = .ok (.getfield 23, 3) := by decide +kernel
theorem dX8_copies_61 : decode cX8_copies 61 = .ok (.bipush 8, 2) := by decide +kernel
theorem dX8_copies_63 : decode cX8_copies 63 = .ok (.iload_n 1, 1) := by decide +kernel
theorem dX8_copies_64 : decode cX8_copies 64 = .ok (.imul, 1) := by decide +kernel
theorem dX8_copies_65 : decode cX8_copies 65 = .ok (.iload_n 3, 1) := by decide +kernel
theorem dX8_copies_66 : decode cX8_copies 66 = .ok (.iadd, 1) := by decide +kernel
theorem dX8_copies_67 : decode cX8_copies 67 = .ok (.faload, 1) := by decide +kernel
theorem dX8_copies_68 : decode cX8_copies 68 = .ok (.fastore, 1) := by decide +kernel
theorem dX8_copies_69 : decode cX8_copies 69 = .ok (.aload_n 0, 1) := by decide +kernel
theorem dX8_copies_70 : decode cX8_copies 70 = .ok (.getfield 26, 3) := by decide +kernel
theorem dX8_copies_73 : decode cX8_copies 73 = .ok (.bipush 8, 2) := by decide +kernel
theorem dX8_copies_75 : decode cX8_copies 75 = .ok (.iload_n 2, 1) := by decide +kernel
theorem dX8_copies_76 : decode cX8_copies 76 = .ok (.imul, 1) := by decide +kernel
theorem dX8_copies_77 : decode cX8_copies 77 = .ok (.iload_n 3, 1) := by decide +kernel
theorem dX8_copies_78 : decode cX8_copies 78 = .ok (.iadd, 1) := by decide +kernel
theorem dX8_copies_79 : decode cX8_copies 79 = .ok (.aload_n 0, 1) := by decide +kernel
theorem dX8_copies_80 : decode cX8_copies 80 = .ok (.getfield 26, 3) := by decide +kernel
theorem dX8_copies_83 : decode cX8_copies 83 = .ok (.bipush 8, 2) := by decide +kernel
theorem dX8_copies_85 : decode cX8_copies 85 = .ok (.iload_n 1, 1) := by decide +kernel
theorem dX8_copies_86 : decode cX8_copies 86 = .ok (.imul, 1) := by decide +kernel
theorem dX8_copies_87 : decode cX8_copies 87 = .ok (.iload_n 3, 1) := by decide +kernel
theorem dX8_copies_88 : decode cX8_copies 88 = .ok (.iadd, 1) := by decide +kernel
theorem dX8_copies_89 : decode cX8_copies 89 = .ok (.faload, 1) := by decide +kernel
theorem dX8_copies_90 : decode cX8_copies 90 = .ok (.fastore, 1) := by decide +kernel
theorem dX8_copies_91 : decode cX8_copies 91 = .ok (.iinc 3 1, 3) := by decide +kernel
theorem dX8_copies_94 : decode cX8_copies 94 = .ok (.goto (-53), 3) := by decide +kernel
theorem dX8_copies_97 : decode cX8_copies 97 = .ok (.return_, 1) := by decide +kernel
theorem dX8_recordsTrial_0 : decode cX8_recordsTrial 0 = .ok (.aload_n 0, 1) := by decide +kernel
theorem dX8_recordsTrial_1 : decode cX8_recordsTrial 1 = .ok (.getfield 36, 3) := by decide +kernel
theorem dX8_recordsTrial_4 : decode cX8_recordsTrial 4 = .ok (.iconst 4, 1) := by decide +kernel
theorem dX8_recordsTrial_5 : decode cX8_recordsTrial 5 = .ok (.if_icmp .ne 34, 3) := by decide +kernel
theorem dX8_recordsTrial_8 : decode cX8_recordsTrial 8 = .ok (.iconst 1, 1) := by decide +kernel
theorem dX8_recordsTrial_9 : decode cX8_recordsTrial 9 = .ok (.istore_n 1, 1) := by decide +kernel
theorem dX8_recordsTrial_10 : decode cX8_recordsTrial 10 = .ok (.iload_n 1, 1) := by decide +kernel
theorem dX8_recordsTrial_11 : decode cX8_recordsTrial 11 = .ok (.iconst 4, 1) := by decide +kernel
theorem dX8_recordsTrial_12 : decode cX8_recordsTrial 12 = .ok (.if_icmp .ge 17, 3) := by decide +kernel
theorem dX8_recordsTrial_15 : decode cX8_recordsTrial 15 = .ok (.aload_n 0, 1) := by decide +kernel
theorem dX8_recordsTrial_16 : decode cX8_recordsTrial 16 = .ok (.iload_n 1, 1) := by decide +kernel
theorem dX8_recordsTrial_17 : decode cX8_recordsTrial 17 = .ok (.iload_n 1, 1) := by decide +kernel
theorem dX8_recordsTrial_18 : decode cX8_recordsTrial 18 = .ok (.iconst 1, 1) := by decide +kernel
theorem dX8_recordsTrial_19 : decode cX8_recordsTrial 19 = .ok (.isub, 1) := by decide +kernel
theorem dX8_recordsTrial_20 : decode cX8_recordsTrial 20 = .ok (.invokevirtual 40, 3) := by decide +kernel
theorem dX8_recordsTrial_23 : decode cX8_recordsTrial 23 = .ok (.iinc 1 1, 3) := by decide +kernel
theorem dX8_recordsTrial_26 : decode cX8_recordsTrial 26 = .ok (.goto (-16), 3) := by decide +kernel
theorem dX8_recordsTrial_29 : decode cX8_recordsTrial 29 = .ok (.aload_n 0, 1) := by decide +kernel
theorem dX8_recordsTrial_30 : decode cX8_recordsTrial 30 = .ok (.dup, 1) := by decide +kernel
theorem dX8_recordsTrial_31 : decode cX8_recordsTrial 31 = .ok (.getfield 36, 3) := by decide +kernel
theorem dX8_recordsTrial_34 : decode cX8_recordsTrial 34 = .ok (.iconst 1, 1) := by decide +kernel
theorem dX8_recordsTrial_35 : decode cX8_recordsTrial 35 = .ok (.isub, 1) := by decide +kernel
theorem dX8_recordsTrial_36 : decode cX8_recordsTrial 36 = .ok (.putfield 36, 3) := by decide +kernel
theorem dX8_recordsTrial_39 : decode cX8_recordsTrial 39 = .ok (.aload_n 0, 1) := by decide +kernel
theorem dX8_recordsTrial_40 : decode cX8_recordsTrial 40 = .ok (.iconst 5, 1) := by decide +kernel
theorem dX8_recordsTrial_41 : decode cX8_recordsTrial 41 = .ok (.aload_n 0, 1) := by decide +kernel
theorem dX8_recordsTrial_42 : decode cX8_recordsTrial 42 = .ok (.getfield 36, 3) := by decide +kernel
theorem dX8_recordsTrial_45 : decode cX8_recordsTrial 45 = .ok (.invokevirtual 40, 3) := by decide +kernel
theorem dX8_recordsTrial_48 : decode cX8_recordsTrial 48 = .ok (.aload_n 0, 1) := by decide +kernel
theorem dX8_recordsTrial_49 : decode cX8_recordsTrial 49 = .ok (.dup, 1) := by decide +kernel
theorem dX8_recordsTrial_50 : decode cX8_recordsTrial 50 = .ok (.getfield 36, 3) := by decide +kernel
theorem dX8_recordsTrial_53 : decode cX8_recordsTrial 53 = .ok (.iconst 1, 1) := by decide +kernel
theorem dX8_recordsTrial_54 : decode cX8_recordsTrial 54 = .ok (.iadd, 1) := by decide +kernel
theorem dX8_recordsTrial_55 : decode cX8_recordsTrial 55 = .ok (.putfield 36, 3) := by decide +kernel
theorem dX8_recordsTrial_58 : decode cX8_recordsTrial 58 = .ok (.return_, 1) := by decide +kernel
theorem dX8_records_0 : decode cX8_records 0 = .ok (.aload_n 0, 1) := by decide +kernel
theorem dX8_records_1 : decode cX8_records 1 = .ok (.iconst 5, 1) := by decide +kernel
theorem dX8_records_2 : decode cX8_records 2 = .ok (.invokevirtual 44, 3) := by decide +kernel
theorem dX8_records_5 : decode cX8_records 5 = .ok (.aload_n 0, 1) := by decide +kernel
theorem dX8_records_6 : decode cX8_records 6 = .ok (.invokevirtual 48, 3) := by decide +kernel
theorem dX8_records_9 : decode cX8_records 9 = .ok (.return_, 1) := by decide +kernel
theorem dX8_undo_0 : decode cX8_undo 0 = .ok (.aload_n 0, 1) := by decide +kernel
theorem dX8_undo_1 : decode cX8_undo 1 = .ok (.getfield 36, 3) := by decide +kernel
theorem dX8_undo_4 : decode cX8_undo 4 = .ok (.ifCond .ne 6, 3) := by decide +kernel
theorem dX8_undo_7 : decode cX8_undo 7 = .ok (.bipush (-5), 2) := by decide +kernel
theorem dX8_undo_9 : decode cX8_undo 9 = .ok (.ireturn, 1) := by decide +kernel
theorem dX8_undo_10 : decode cX8_undo 10 = .ok (.aload_n 0, 1) := by decide +kernel
theorem dX8_undo_11 : decode cX8_undo 11 = .ok (.dup, 1) := by decide +kernel
theorem dX8_undo_12 : decode cX8_undo 12 = .ok (.getfield 36, 3) := by decide +kernel
theorem dX8_undo_15 : decode cX8_undo 15 = .ok (.iconst 1, 1) := by decide +kernel
theorem dX8_undo_16 : decode cX8_undo 16 = .ok (.isub, 1) := by decide +kernel
theorem dX8_undo_17 : decode cX8_undo 17 = .ok (.putfield 36, 3) := by decide +kernel
theorem dX8_undo_20 : decode cX8_undo 20 = .ok (.aload_n 0, 1) := by decide +kernel
theorem dX8_undo_21 : decode cX8_undo 21 = .ok (.aload_n 0, 1) := by decide +kernel
theorem dX8_undo_22 : decode cX8_undo 22 = .ok (.getfield 36, 3) := by decide +kernel
theorem dX8_undo_25 : decode cX8_undo 25 = .ok (.invokevirtual 51, 3) := by decide +kernel
theorem dX8_undo_28 : decode cX8_undo 28 = .ok (.aload_n 0, 1) := by decide +kernel
theorem dX8_undo_29 : decode cX8_undo 29 = .ok (.getfield 36, 3) := by decide +kernel
theorem dX8_undo_32 : decode cX8_undo 32 = .ok (.ireturn, 1) := by decide +kernel
theorem dX8_keep_0 : decode cX8_keep 0 = .ok (.aload_n 0, 1) := by decide +kernel
theorem dX8_keep_1 : decode cX8_keep 1 = .ok (.iconst 4, 1) := by decide +kernel
theorem dX8_keep_2 : decode cX8_keep 2 = .ok (.invokevirtual 44, 3) := by decide +kernel
theorem dX8_keep_5 : decode cX8_keep 5 = .ok (.aload_n 0, 1) := by decide +kernel
theorem dX8_keep_6 : decode cX8_keep 6 = .ok (.iconst 1, 1) := by decide +kernel
theorem dX8_keep_7 : decode cX8_keep 7 = .ok (.putfield 54, 3) := by decide +kernel
theorem dX8_keep_10 : decode cX8_keep 10 = .ok (.aload_n 0, 1) := by decide +kernel
theorem dX8_keep_11 : decode cX8_keep 11 = .ok (.getfield 7, 3) := by decide +kernel
theorem dX8_keep_14 : decode cX8_keep 14 = .ok (.iconst 0, 1) := by decide +kernel
theorem dX8_keep_15 : decode cX8_keep 15 = .ok (.iaload, 1) := by decide +kernel
theorem dX8_keep_16 : decode cX8_keep 16 = .ok (.ireturn, 1) := by decide +kernel
theorem dX8_restore_0 : decode cX8_restore 0 = .ok (.aload_n 0, 1) := by decide +kernel
theorem dX8_restore_1 : decode cX8_restore 1 = .ok (.getfield 54, 3) := by decide +kernel
theorem dX8_restore_4 : decode cX8_restore 4 = .ok (.ifCond .ne 6, 3) := by decide +kernel
theorem dX8_restore_7 : decode cX8_restore 7 = .ok (.bipush (-5), 2) := by decide +kernel
theorem dX8_restore_9 : decode cX8_restore 9 = .ok (.ireturn, 1) := by decide +kernel
theorem dX8_restore_10 : decode cX8_restore 10 = .ok (.aload_n 0, 1) := by decide +kernel
theorem dX8_restore_11 : decode cX8_restore 11 = .ok (.invokevirtual 58, 3) := by decide +kernel
theorem dX8_restore_14 : decode cX8_restore 14 = .ok (.aload_n 0, 1) := by decide +kernel
theorem dX8_restore_15 : decode cX8_restore 15 = .ok (.iconst 4, 1) := by decide +kernel
theorem dX8_restore_16 : decode cX8_restore 16 = .ok (.invokevirtual 51, 3) := by decide +kernel
theorem dX8_restore_19 : decode cX8_restore 19 = .ok (.aload_n 0, 1) := by decide +kernel
theorem dX8_restore_20 : decode cX8_restore 20 = .ok (.getfield 7, 3) := by decide +kernel
theorem dX8_restore_23 : decode cX8_restore 23 = .ok (.iconst 0, 1) := by decide +kernel
theorem dX8_restore_24 : decode cX8_restore 24 = .ok (.iaload, 1) := by decide +kernel
theorem dX8_restore_25 : decode cX8_restore 25 = .ok (.ireturn, 1) := by decide +kernel
theorem dX8_addAsset_0 : decode cX8_addAsset 0 = .ok (.iload_n 1, 1) := by decide +kernel
theorem dX8_addAsset_1 : decode cX8_addAsset 1 = .ok (.iconst 1, 1) := by decide +kernel
theorem dX8_addAsset_2 : decode cX8_addAsset 2 = .ok (.bipush 100, 2) := by decide +kernel
theorem dX8_addAsset_4 : decode cX8_addAsset 4 = .ok (.invokestatic 32, 3) := by decide +kernel
theorem dX8_addAsset_7 : decode cX8_addAsset 7 = .ok (.ifCond .eq 14, 3) := by decide +kernel
theorem dX8_addAsset_10 : decode cX8_addAsset 10 = .ok (.iload_n 2, 1) := by decide +kernel
theorem dX8_addAsset_11 : decode cX8_addAsset 11 = .ok (.iconst 1, 1) := by decide +kernel
theorem dX8_addAsset_12 : decode cX8_addAsset 12 = .ok (.sipush 200, 3) := by decide +kernel
theorem dX8_addAsset_15 : decode cX8_addAsset 15 = .ok (.invokestatic 32, 3) := by decide +kernel
theorem dX8_addAsset_18 : decode cX8_addAsset 18 = .ok (.ifCond .ne 6, 3) := by decide +kernel
theorem dX8_addAsset_21 : decode cX8_addAsset 21 = .ok (.bipush (-2), 2) := by decide +kernel
theorem dX8_addAsset_23 : decode cX8_addAsset 23 = .ok (.ireturn, 1) := by decide +kernel
theorem dX8_addAsset_24 : decode cX8_addAsset 24 = .ok (.aload_n 0, 1) := by decide +kernel
theorem dX8_addAsset_25 : decode cX8_addAsset 25 = .ok (.getfield 7, 3) := by decide +kernel
theorem dX8_addAsset_28 : decode cX8_addAsset 28 = .ok (.iconst 1, 1) := by decide +kernel
theorem dX8_addAsset_29 : decode cX8_addAsset 29 = .ok (.iaload, 1) := by decide +kernel
theorem dX8_addAsset_30 : decode cX8_addAsset 30 = .ok (.bipush 8, 2) := by decide +kernel
theorem dX8_addAsset_32 : decode cX8_addAsset 32 = .ok (.if_icmp .ne 6, 3) := by decide +kernel
theorem dX8_addAsset_35 : decode cX8_addAsset 35 = .ok (.bipush (-3), 2) := by decide +kernel
theorem dX8_addAsset_37 : decode cX8_addAsset 37 = .ok (.ireturn, 1) := by decide +kernel
theorem dX8_addAsset_38 : decode cX8_addAsset 38 = .ok (.aload_n 0, 1) := by decide +kernel
theorem dX8_addAsset_39 : decode cX8_addAsset 39 = .ok (.invokevirtual 58, 3) := by decide +kernel
theorem dX8_addAsset_42 : decode cX8_addAsset 42 = .ok (.aload_n 0, 1) := by decide +kernel
theorem dX8_addAsset_43 : decode cX8_addAsset 43 = .ok (.getfield 7, 3) := by decide +kernel
theorem dX8_addAsset_46 : decode cX8_addAsset 46 = .ok (.iconst 1, 1) := by decide +kernel
theorem dX8_addAsset_47 : decode cX8_addAsset 47 = .ok (.iaload, 1) := by decide +kernel
theorem dX8_addAsset_48 : decode cX8_addAsset 48 = .ok (.istore_n 3, 1) := by decide +kernel
theorem dX8_addAsset_49 : decode cX8_addAsset 49 = .ok (.aload_n 0, 1) := by decide +kernel
theorem dX8_addAsset_50 : decode cX8_addAsset 50 = .ok (.getfield 7, 3) := by decide +kernel
theorem dX8_addAsset_53 : decode cX8_addAsset 53 = .ok (.iconst 1, 1) := by decide +kernel
theorem dX8_addAsset_54 : decode cX8_addAsset 54 = .ok (.dup2, 1) := by decide +kernel
theorem dX8_addAsset_55 : decode cX8_addAsset 55 = .ok (.iaload, 1) := by decide +kernel
theorem dX8_addAsset_56 : decode cX8_addAsset 56 = .ok (.iconst 1, 1) := by decide +kernel
theorem dX8_addAsset_57 : decode cX8_addAsset 57 = .ok (.iadd, 1) := by decide +kernel
theorem dX8_addAsset_58 : decode cX8_addAsset 58 = .ok (.iastore, 1) := by decide +kernel
theorem dX8_addAsset_59 : decode cX8_addAsset 59 = .ok (.aload_n 0, 1) := by decide +kernel
theorem dX8_addAsset_60 : decode cX8_addAsset 60 = .ok (.iload_n 3, 1) := by decide +kernel
theorem dX8_addAsset_61 : decode cX8_addAsset 61 = .ok (.iconst 0, 1) := by decide +kernel
theorem dX8_addAsset_62 : decode cX8_addAsset 62 = .ok (.iload_n 1, 1) := by decide +kernel
theorem dX8_addAsset_63 : decode cX8_addAsset 63 = .ok (.invokevirtual 61, 3) := by decide +kernel
theorem dX8_addAsset_66 : decode cX8_addAsset 66 = .ok (.aload_n 0, 1) := by decide +kernel
theorem dX8_addAsset_67 : decode cX8_addAsset 67 = .ok (.iload_n 3, 1) := by decide +kernel
theorem dX8_addAsset_68 : decode cX8_addAsset 68 = .ok (.iconst 1, 1) := by decide +kernel
theorem dX8_addAsset_69 : decode cX8_addAsset 69 = .ok (.iload_n 2, 1) := by decide +kernel
theorem dX8_addAsset_70 : decode cX8_addAsset 70 = .ok (.invokevirtual 61, 3) := by decide +kernel
theorem dX8_addAsset_73 : decode cX8_addAsset 73 = .ok (.aload_n 0, 1) := by decide +kernel
theorem dX8_addAsset_74 : decode cX8_addAsset 74 = .ok (.iload_n 3, 1) := by decide +kernel
theorem dX8_addAsset_75 : decode cX8_addAsset 75 = .ok (.iconst 2, 1) := by decide +kernel
theorem dX8_addAsset_76 : decode cX8_addAsset 76 = .ok (.iconst 0, 1) := by decide +kernel
theorem dX8_addAsset_77 : decode cX8_addAsset 77 = .ok (.invokevirtual 61, 3) := by decide +kernel
theorem dX8_addAsset_80 : decode cX8_addAsset 80 = .ok (.aload_n 0, 1) := by decide +kernel
theorem dX8_addAsset_81 : decode cX8_addAsset 81 = .ok (.iload_n 3, 1) := by decide +kernel
theorem dX8_addAsset_82 : decode cX8_addAsset 82 = .ok (.iconst 3, 1) := by decide +kernel
theorem dX8_addAsset_83 : decode cX8_addAsset 83 = .ok (.iconst 0, 1) := by decide +kernel
theorem dX8_addAsset_84 : decode cX8_addAsset 84 = .ok (.invokevirtual 61, 3) := by decide +kernel
theorem dX8_addAsset_87 : decode cX8_addAsset 87 = .ok (.aload_n 0, 1) := by decide +kernel
theorem dX8_addAsset_88 : decode cX8_addAsset 88 = .ok (.iload_n 3, 1) := by decide +kernel
theorem dX8_addAsset_89 : decode cX8_addAsset 89 = .ok (.iconst 4, 1) := by decide +kernel
theorem dX8_addAsset_90 : decode cX8_addAsset 90 = .ok (.iconst 0, 1) := by decide +kernel
theorem dX8_addAsset_91 : decode cX8_addAsset 91 = .ok (.invokevirtual 61, 3) := by decide +kernel
theorem dX8_addAsset_94 : decode cX8_addAsset 94 = .ok (.aload_n 0, 1) := by decide +kernel
theorem dX8_addAsset_95 : decode cX8_addAsset 95 = .ok (.getfield 13, 3) := by decide +kernel
theorem dX8_addAsset_98 : decode cX8_addAsset 98 = .ok (.iload_n 3, 1) := by decide +kernel
theorem dX8_addAsset_99 : decode cX8_addAsset 99 = .ok (.fconst 1, 1) := by decide +kernel
theorem dX8_addAsset_100 : decode cX8_addAsset 100 = .ok (.fastore, 1) := by decide +kernel
theorem dX8_addAsset_101 : decode cX8_addAsset 101 = .ok (.aload_n 0, 1) := by decide +kernel
theorem dX8_addAsset_102 : decode cX8_addAsset 102 = .ok (.getfield 17, 3) := by decide +kernel
theorem dX8_addAsset_105 : decode cX8_addAsset 105 = .ok (.iload_n 3, 1) := by decide +kernel
theorem dX8_addAsset_106 : decode cX8_addAsset 106 = .ok (.fconst 0, 1) := by decide +kernel
theorem dX8_addAsset_107 : decode cX8_addAsset 107 = .ok (.fastore, 1) := by decide +kernel
theorem dX8_addAsset_108 : decode cX8_addAsset 108 = .ok (.iload_n 3, 1) := by decide +kernel
theorem dX8_addAsset_109 : decode cX8_addAsset 109 = .ok (.ireturn, 1) := by decide +kernel
theorem dX8_link_0 : decode cX8_link 0 = .ok (.aload_n 0, 1) := by decide +kernel
theorem dX8_link_1 : decode cX8_link 1 = .ok (.iload_n 1, 1) := by decide +kernel
theorem dX8_link_2 : decode cX8_link 2 = .ok (.invokevirtual 65, 3) := by decide +kernel
theorem dX8_link_5 : decode cX8_link 5 = .ok (.ifCond .eq 11, 3) := by decide +kernel
theorem dX8_link_8 : decode cX8_link 8 = .ok (.aload_n 0, 1) := by decide +kernel
theorem dX8_link_9 : decode cX8_link 9 = .ok (.iload_n 2, 1) := by decide +kernel
theorem dX8_link_10 : decode cX8_link 10 = .ok (.invokevirtual 65, 3) := by decide +kernel
theorem dX8_link_13 : decode cX8_link 13 = .ok (.ifCond .ne 5, 3) := by decide +kernel
theorem dX8_link_16 : decode cX8_link 16 = .ok (.iconst (-1), 1) := by decide +kernel
theorem dX8_link_17 : decode cX8_link 17 = .ok (.ireturn, 1) := by decide +kernel
theorem dX8_link_18 : decode cX8_link 18 = .ok (.iload_n 1, 1) := by decide +kernel
theorem dX8_link_19 : decode cX8_link 19 = .ok (.iload_n 2, 1) := by decide +kernel
theorem dX8_link_20 : decode cX8_link 20 = .ok (.if_icmp .ne 6, 3) := by decide +kernel
theorem dX8_link_23 : decode cX8_link 23 = .ok (.bipush (-2), 2) := by decide +kernel
theorem dX8_link_25 : decode cX8_link 25 = .ok (.ireturn, 1) := by decide +kernel
theorem dX8_link_26 : decode cX8_link 26 = .ok (.aload_n 0, 1) := by decide +kernel
theorem dX8_link_27 : decode cX8_link 27 = .ok (.iload_n 1, 1) := by decide +kernel
theorem dX8_link_28 : decode cX8_link 28 = .ok (.iconst 3, 1) := by decide +kernel
theorem dX8_link_29 : decode cX8_link 29 = .ok (.invokevirtual 69, 3) := by decide +kernel
theorem dX8_link_32 : decode cX8_link 32 = .ok (.iload_n 2, 1) := by decide +kernel
theorem dX8_link_33 : decode cX8_link 33 = .ok (.ishr, 1) := by decide +kernel
theorem dX8_link_34 : decode cX8_link 34 = .ok (.iconst 1, 1) := by decide +kernel
theorem dX8_link_35 : decode cX8_link 35 = .ok (.iand, 1) := by decide +kernel
theorem dX8_link_36 : decode cX8_link 36 = .ok (.iload_n 3, 1) := by decide +kernel
theorem dX8_link_37 : decode cX8_link 37 = .ok (.ifCond .eq 7, 3) := by decide +kernel
theorem dX8_link_40 : decode cX8_link 40 = .ok (.iconst 1, 1) := by decide +kernel
theorem dX8_link_41 : decode cX8_link 41 = .ok (.goto 4, 3) := by decide +kernel
theorem dX8_link_44 : decode cX8_link 44 = .ok (.iconst 0, 1) := by decide +kernel
theorem dX8_link_45 : decode cX8_link 45 = .ok (.if_icmp .ne 6, 3) := by decide +kernel
theorem dX8_link_48 : decode cX8_link 48 = .ok (.bipush (-5), 2) := by decide +kernel
theorem dX8_link_50 : decode cX8_link 50 = .ok (.ireturn, 1) := by decide +kernel
theorem dX8_link_51 : decode cX8_link 51 = .ok (.aload_n 0, 1) := by decide +kernel
theorem dX8_link_52 : decode cX8_link 52 = .ok (.invokevirtual 58, 3) := by decide +kernel
theorem dX8_link_55 : decode cX8_link 55 = .ok (.aload_n 0, 1) := by decide +kernel
theorem dX8_link_56 : decode cX8_link 56 = .ok (.iload_n 1, 1) := by decide +kernel
theorem dX8_link_57 : decode cX8_link 57 = .ok (.iconst 3, 1) := by decide +kernel
theorem dX8_link_58 : decode cX8_link 58 = .ok (.aload_n 0, 1) := by decide +kernel
theorem dX8_link_59 : decode cX8_link 59 = .ok (.iload_n 1, 1) := by decide +kernel
theorem dX8_link_60 : decode cX8_link 60 = .ok (.iconst 3, 1) := by decide +kernel
theorem dX8_link_61 : decode cX8_link 61 = .ok (.invokevirtual 69, 3) := by decide +kernel
theorem dX8_link_64 : decode cX8_link 64 = .ok (.iconst 1, 1) := by decide +kernel
theorem dX8_link_65 : decode cX8_link 65 = .ok (.iload_n 2, 1) := by decide +kernel
theorem dX8_link_66 : decode cX8_link 66 = .ok (.ishl, 1) := by decide +kernel
theorem dX8_link_67 : decode cX8_link 67 = .ok (.ixor, 1) := by decide +kernel
theorem dX8_link_68 : decode cX8_link 68 = .ok (.invokevirtual 61, 3) := by decide +kernel
theorem dX8_link_71 : decode cX8_link 71 = .ok (.aload_n 0, 1) := by decide +kernel
theorem dX8_link_72 : decode cX8_link 72 = .ok (.iload_n 2, 1) := by decide +kernel
theorem dX8_link_73 : decode cX8_link 73 = .ok (.iconst 3, 1) := by decide +kernel
theorem dX8_link_74 : decode cX8_link 74 = .ok (.aload_n 0, 1) := by decide +kernel
theorem dX8_link_75 : decode cX8_link 75 = .ok (.iload_n 2, 1) := by decide +kernel
theorem dX8_link_76 : decode cX8_link 76 = .ok (.iconst 3, 1) := by decide +kernel
theorem dX8_link_77 : decode cX8_link 77 = .ok (.invokevirtual 69, 3) := by decide +kernel
theorem dX8_link_80 : decode cX8_link 80 = .ok (.iconst 1, 1) := by decide +kernel
theorem dX8_link_81 : decode cX8_link 81 = .ok (.iload_n 1, 1) := by decide +kernel
theorem dX8_link_82 : decode cX8_link 82 = .ok (.ishl, 1) := by decide +kernel
theorem dX8_link_83 : decode cX8_link 83 = .ok (.ixor, 1) := by decide +kernel
theorem dX8_link_84 : decode cX8_link 84 = .ok (.invokevirtual 61, 3) := by decide +kernel
theorem dX8_link_87 : decode cX8_link 87 = .ok (.aload_n 0, 1) := by decide +kernel
theorem dX8_link_88 : decode cX8_link 88 = .ok (.iload_n 1, 1) := by decide +kernel
theorem dX8_link_89 : decode cX8_link 89 = .ok (.iconst 3, 1) := by decide +kernel
theorem dX8_link_90 : decode cX8_link 90 = .ok (.invokevirtual 69, 3) := by decide +kernel
theorem dX8_link_93 : decode cX8_link 93 = .ok (.invokestatic 73, 3) := by decide +kernel
theorem dX8_link_96 : decode cX8_link 96 = .ok (.ireturn, 1) := by decide +kernel
theorem dX8_bars_0 : decode cX8_bars 0 = .ok (.aload_n 0, 1) := by decide +kernel
theorem dX8_bars_1 : decode cX8_bars 1 = .ok (.getfield 7, 3) := by decide +kernel
theorem dX8_bars_4 : decode cX8_bars 4 = .ok (.sipush 246, 3) := by decide +kernel
theorem dX8_bars_7 : decode cX8_bars 7 = .ok (.iload_n 1, 1) := by decide +kernel
theorem dX8_bars_8 : decode cX8_bars 8 = .ok (.iadd, 1) := by decide +kernel
theorem dX8_bars_9 : decode cX8_bars 9 = .ok (.iaload, 1) := by decide +kernel
theorem dX8_bars_10 : decode cX8_bars 10 = .ok (.iload_n 2, 1) := by decide +kernel
theorem dX8_bars_11 : decode cX8_bars 11 = .ok (.ishr, 1) := by decide +kernel
theorem dX8_bars_12 : decode cX8_bars 12 = .ok (.iconst 1, 1) := by decide +kernel
theorem dX8_bars_13 : decode cX8_bars 13 = .ok (.iand, 1) := by decide +kernel
theorem dX8_bars_14 : decode cX8_bars 14 = .ok (.iconst 1, 1) := by decide +kernel
theorem dX8_bars_15 : decode cX8_bars 15 = .ok (.if_icmp .ne 7, 3) := by decide +kernel
theorem dX8_bars_18 : decode cX8_bars 18 = .ok (.iconst 1, 1) := by decide +kernel
theorem dX8_bars_19 : decode cX8_bars 19 = .ok (.goto 4, 3) := by decide +kernel
theorem dX8_bars_22 : decode cX8_bars 22 = .ok (.iconst 0, 1) := by decide +kernel
theorem dX8_bars_23 : decode cX8_bars 23 = .ok (.ireturn, 1) := by decide +kernel
theorem dX8_bar_0 : decode cX8_bar 0 = .ok (.iload_n 1, 1) := by decide +kernel
theorem dX8_bar_1 : decode cX8_bar 1 = .ok (.iconst 0, 1) := by decide +kernel
theorem dX8_bar_2 : decode cX8_bar 2 = .ok (.iconst 4, 1) := by decide +kernel
theorem dX8_bar_3 : decode cX8_bar 3 = .ok (.invokestatic 32, 3) := by decide +kernel
theorem dX8_bar_6 : decode cX8_bar 6 = .ok (.ifCond .eq 12, 3) := by decide +kernel
theorem dX8_bar_9 : decode cX8_bar 9 = .ok (.iload_n 2, 1) := by decide +kernel
theorem dX8_bar_10 : decode cX8_bar 10 = .ok (.iconst 0, 1) := by decide +kernel
theorem dX8_bar_11 : decode cX8_bar 11 = .ok (.iconst 4, 1) := by decide +kernel
theorem dX8_bar_12 : decode cX8_bar 12 = .ok (.invokestatic 32, 3) := by decide +kernel
theorem dX8_bar_15 : decode cX8_bar 15 = .ok (.ifCond .ne 6, 3) := by decide +kernel
theorem dX8_bar_18 : decode cX8_bar 18 = .ok (.bipush (-2), 2) := by decide +kernel
theorem dX8_bar_20 : decode cX8_bar 20 = .ok (.ireturn, 1) := by decide +kernel
theorem dX8_bar_21 : decode cX8_bar 21 = .ok (.aload_n 0, 1) := by decide +kernel
theorem dX8_bar_22 : decode cX8_bar 22 = .ok (.iload_n 1, 1) := by decide +kernel
theorem dX8_bar_23 : decode cX8_bar 23 = .ok (.iload_n 2, 1) := by decide +kernel
theorem dX8_bar_24 : decode cX8_bar 24 = .ok (.invokevirtual 77, 3) := by decide +kernel
theorem dX8_bar_27 : decode cX8_bar 27 = .ok (.iload_n 3, 1) := by decide +kernel
theorem dX8_bar_28 : decode cX8_bar 28 = .ok (.if_icmp .ne 6, 3) := by decide +kernel
theorem dX8_bar_31 : decode cX8_bar 31 = .ok (.bipush (-5), 2) := by decide +kernel
theorem dX8_bar_33 : decode cX8_bar 33 = .ok (.ireturn, 1) := by decide +kernel
theorem dX8_bar_34 : decode cX8_bar 34 = .ok (.aload_n 0, 1) := by decide +kernel
theorem dX8_bar_35 : decode cX8_bar 35 = .ok (.invokevirtual 58, 3) := by decide +kernel
theorem dX8_bar_38 : decode cX8_bar 38 = .ok (.aload_n 0, 1) := by decide +kernel
theorem dX8_bar_39 : decode cX8_bar 39 = .ok (.getfield 7, 3) := by decide +kernel
theorem dX8_bar_42 : decode cX8_bar 42 = .ok (.sipush 246, 3) := by decide +kernel
theorem dX8_bar_45 : decode cX8_bar 45 = .ok (.iload_n 1, 1) := by decide +kernel
theorem dX8_bar_46 : decode cX8_bar 46 = .ok (.iadd, 1) := by decide +kernel
theorem dX8_bar_47 : decode cX8_bar 47 = .ok (.dup2, 1) := by decide +kernel
theorem dX8_bar_48 : decode cX8_bar 48 = .ok (.iaload, 1) := by decide +kernel
theorem dX8_bar_49 : decode cX8_bar 49 = .ok (.iconst 1, 1) := by decide +kernel
theorem dX8_bar_50 : decode cX8_bar 50 = .ok (.iload_n 2, 1) := by decide +kernel
theorem dX8_bar_51 : decode cX8_bar 51 = .ok (.ishl, 1) := by decide +kernel
theorem dX8_bar_52 : decode cX8_bar 52 = .ok (.ixor, 1) := by decide +kernel
theorem dX8_bar_53 : decode cX8_bar 53 = .ok (.iastore, 1) := by decide +kernel
theorem dX8_bar_54 : decode cX8_bar 54 = .ok (.iload_n 1, 1) := by decide +kernel
theorem dX8_bar_55 : decode cX8_bar 55 = .ok (.iload_n 2, 1) := by decide +kernel
theorem dX8_bar_56 : decode cX8_bar 56 = .ok (.if_icmp .eq 19, 3) := by decide +kernel
theorem dX8_bar_59 : decode cX8_bar 59 = .ok (.aload_n 0, 1) := by decide +kernel
theorem dX8_bar_60 : decode cX8_bar 60 = .ok (.getfield 7, 3) := by decide +kernel
theorem dX8_bar_63 : decode cX8_bar 63 = .ok (.sipush 246, 3) := by decide +kernel
theorem dX8_bar_66 : decode cX8_bar 66 = .ok (.iload_n 2, 1) := by decide +kernel
theorem dX8_bar_67 : decode cX8_bar 67 = .ok (.iadd, 1) := by decide +kernel
theorem dX8_bar_68 : decode cX8_bar 68 = .ok (.dup2, 1) := by decide +kernel
theorem dX8_bar_69 : decode cX8_bar 69 = .ok (.iaload, 1) := by decide +kernel
theorem dX8_bar_70 : decode cX8_bar 70 = .ok (.iconst 1, 1) := by decide +kernel
theorem dX8_bar_71 : decode cX8_bar 71 = .ok (.iload_n 1, 1) := by decide +kernel
theorem dX8_bar_72 : decode cX8_bar 72 = .ok (.ishl, 1) := by decide +kernel
theorem dX8_bar_73 : decode cX8_bar 73 = .ok (.ixor, 1) := by decide +kernel
theorem dX8_bar_74 : decode cX8_bar 74 = .ok (.iastore, 1) := by decide +kernel
theorem dX8_bar_75 : decode cX8_bar 75 = .ok (.aload_n 0, 1) := by decide +kernel
theorem dX8_bar_76 : decode cX8_bar 76 = .ok (.getfield 7, 3) := by decide +kernel
theorem dX8_bar_79 : decode cX8_bar 79 = .ok (.sipush 246, 3) := by decide +kernel
theorem dX8_bar_82 : decode cX8_bar 82 = .ok (.iload_n 1, 1) := by decide +kernel
theorem dX8_bar_83 : decode cX8_bar 83 = .ok (.iadd, 1) := by decide +kernel
theorem dX8_bar_84 : decode cX8_bar 84 = .ok (.iaload, 1) := by decide +kernel
theorem dX8_bar_85 : decode cX8_bar 85 = .ok (.invokestatic 73, 3) := by decide +kernel
theorem dX8_bar_88 : decode cX8_bar 88 = .ok (.ireturn, 1) := by decide +kernel
theorem dX8_addCrew_0 : decode cX8_addCrew 0 = .ok (.iload_n 1, 1) := by decide +kernel
theorem dX8_addCrew_1 : decode cX8_addCrew 1 = .ok (.iconst 1, 1) := by decide +kernel
theorem dX8_addCrew_2 : decode cX8_addCrew 2 = .ok (.bipush 6, 2) := by decide +kernel
theorem dX8_addCrew_4 : decode cX8_addCrew 4 = .ok (.invokestatic 32, 3) := by decide +kernel
theorem dX8_addCrew_7 : decode cX8_addCrew 7 = .ok (.ifCond .eq 13, 3) := by decide +kernel
theorem dX8_addCrew_10 : decode cX8_addCrew 10 = .ok (.iload_n 2, 1) := by decide +kernel
theorem dX8_addCrew_11 : decode cX8_addCrew 11 = .ok (.iconst 0, 1) := by decide +kernel
theorem dX8_addCrew_12 : decode cX8_addCrew 12 = .ok (.bipush 15, 2) := by decide +kernel
theorem dX8_addCrew_14 : decode cX8_addCrew 14 = .ok (.invokestatic 32, 3) := by decide +kernel
theorem dX8_addCrew_17 : decode cX8_addCrew 17 = .ok (.ifCond .ne 6, 3) := by decide +kernel
theorem dX8_addCrew_20 : decode cX8_addCrew 20 = .ok (.bipush (-2), 2) := by decide +kernel
theorem dX8_addCrew_22 : decode cX8_addCrew 22 = .ok (.ireturn, 1) := by decide +kernel
theorem dX8_addCrew_23 : decode cX8_addCrew 23 = .ok (.aload_n 0, 1) := by decide +kernel
theorem dX8_addCrew_24 : decode cX8_addCrew 24 = .ok (.getfield 7, 3) := by decide +kernel
theorem dX8_addCrew_27 : decode cX8_addCrew 27 = .ok (.iconst 2, 1) := by decide +kernel
theorem dX8_addCrew_28 : decode cX8_addCrew 28 = .ok (.iaload, 1) := by decide +kernel
theorem dX8_addCrew_29 : decode cX8_addCrew 29 = .ok (.iconst 5, 1) := by decide +kernel
theorem dX8_addCrew_30 : decode cX8_addCrew 30 = .ok (.if_icmp .ne 6, 3) := by decide +kernel
theorem dX8_addCrew_33 : decode cX8_addCrew 33 = .ok (.bipush (-3), 2) := by decide +kernel
theorem dX8_addCrew_35 : decode cX8_addCrew 35 = .ok (.ireturn, 1) := by decide +kernel
theorem dX8_addCrew_36 : decode cX8_addCrew 36 = .ok (.aload_n 0, 1) := by decide +kernel
theorem dX8_addCrew_37 : decode cX8_addCrew 37 = .ok (.invokevirtual 58, 3) := by decide +kernel
theorem dX8_addCrew_40 : decode cX8_addCrew 40 = .ok (.aload_n 0, 1) := by decide +kernel
theorem dX8_addCrew_41 : decode cX8_addCrew 41 = .ok (.getfield 7, 3) := by decide +kernel
theorem dX8_addCrew_44 : decode cX8_addCrew 44 = .ok (.sipush 236, 3) := by decide +kernel
theorem dX8_addCrew_47 : decode cX8_addCrew 47 = .ok (.iconst 2, 1) := by decide +kernel
theorem dX8_addCrew_48 : decode cX8_addCrew 48 = .ok (.aload_n 0, 1) := by decide +kernel
theorem dX8_addCrew_49 : decode cX8_addCrew 49 = .ok (.getfield 7, 3) := by decide +kernel
theorem dX8_addCrew_52 : decode cX8_addCrew 52 = .ok (.iconst 2, 1) := by decide +kernel
theorem dX8_addCrew_53 : decode cX8_addCrew 53 = .ok (.iaload, 1) := by decide +kernel
theorem dX8_addCrew_54 : decode cX8_addCrew 54 = .ok (.imul, 1) := by decide +kernel
theorem dX8_addCrew_55 : decode cX8_addCrew 55 = .ok (.iadd, 1) := by decide +kernel
theorem dX8_addCrew_56 : decode cX8_addCrew 56 = .ok (.iload_n 1, 1) := by decide +kernel
theorem dX8_addCrew_57 : decode cX8_addCrew 57 = .ok (.iastore, 1) := by decide +kernel
theorem dX8_addCrew_58 : decode cX8_addCrew 58 = .ok (.aload_n 0, 1) := by decide +kernel
theorem dX8_addCrew_59 : decode cX8_addCrew 59 = .ok (.getfield 7, 3) := by decide +kernel
theorem dX8_addCrew_62 : decode cX8_addCrew 62 = .ok (.sipush 236, 3) := by decide +kernel
theorem dX8_addCrew_65 : decode cX8_addCrew 65 = .ok (.iconst 2, 1) := by decide +kernel
theorem dX8_addCrew_66 : decode cX8_addCrew 66 = .ok (.aload_n 0, 1) := by decide +kernel
theorem dX8_addCrew_67 : decode cX8_addCrew 67 = .ok (.getfield 7, 3) := by decide +kernel
theorem dX8_addCrew_70 : decode cX8_addCrew 70 = .ok (.iconst 2, 1) := by decide +kernel
theorem dX8_addCrew_71 : decode cX8_addCrew 71 = .ok (.iaload, 1) := by decide +kernel
theorem dX8_addCrew_72 : decode cX8_addCrew 72 = .ok (.imul, 1) := by decide +kernel
theorem dX8_addCrew_73 : decode cX8_addCrew 73 = .ok (.iadd, 1) := by decide +kernel
theorem dX8_addCrew_74 : decode cX8_addCrew 74 = .ok (.iconst 1, 1) := by decide +kernel
theorem dX8_addCrew_75 : decode cX8_addCrew 75 = .ok (.iadd, 1) := by decide +kernel
theorem dX8_addCrew_76 : decode cX8_addCrew 76 = .ok (.iload_n 2, 1) := by decide +kernel
theorem dX8_addCrew_77 : decode cX8_addCrew 77 = .ok (.iastore, 1) := by decide +kernel
theorem dX8_addCrew_78 : decode cX8_addCrew 78 = .ok (.aload_n 0, 1) := by decide +kernel
theorem dX8_addCrew_79 : decode cX8_addCrew 79 = .ok (.getfield 7, 3) := by decide +kernel
theorem dX8_addCrew_82 : decode cX8_addCrew 82 = .ok (.iconst 2, 1) := by decide +kernel
theorem dX8_addCrew_83 : decode cX8_addCrew 83 = .ok (.dup2, 1) := by decide +kernel
theorem dX8_addCrew_84 : decode cX8_addCrew 84 = .ok (.iaload, 1) := by decide +kernel
theorem dX8_addCrew_85 : decode cX8_addCrew 85 = .ok (.iconst 1, 1) := by decide +kernel
theorem dX8_addCrew_86 : decode cX8_addCrew 86 = .ok (.iadd, 1) := by decide +kernel
theorem dX8_addCrew_87 : decode cX8_addCrew 87 = .ok (.iastore, 1) := by decide +kernel
theorem dX8_addCrew_88 : decode cX8_addCrew 88 = .ok (.aload_n 0, 1) := by decide +kernel
theorem dX8_addCrew_89 : decode cX8_addCrew 89 = .ok (.getfield 7, 3) := by decide +kernel
theorem dX8_addCrew_92 : decode cX8_addCrew 92 = .ok (.iconst 2, 1) := by decide +kernel
theorem dX8_addCrew_93 : decode cX8_addCrew 93 = .ok (.iaload, 1) := by decide +kernel
theorem dX8_addCrew_94 : decode cX8_addCrew 94 = .ok (.iconst 1, 1) := by decide +kernel
theorem dX8_addCrew_95 : decode cX8_addCrew 95 = .ok (.isub, 1) := by decide +kernel
theorem dX8_addCrew_96 : decode cX8_addCrew 96 = .ok (.ireturn, 1) := by decide +kernel
theorem dX8_addTask_0 : decode cX8_addTask 0 = .ok (.aload_n 0, 1) := by decide +kernel
theorem dX8_addTask_1 : decode cX8_addTask 1 = .ok (.iload_n 1, 1) := by decide +kernel
theorem dX8_addTask_2 : decode cX8_addTask 2 = .ok (.invokevirtual 65, 3) := by decide +kernel
theorem dX8_addTask_5 : decode cX8_addTask 5 = .ok (.ifCond .ne 5, 3) := by decide +kernel
theorem dX8_addTask_8 : decode cX8_addTask 8 = .ok (.iconst (-1), 1) := by decide +kernel
theorem dX8_addTask_9 : decode cX8_addTask 9 = .ok (.ireturn, 1) := by decide +kernel
theorem dX8_addTask_10 : decode cX8_addTask 10 = .ok (.iload_n 2, 1) := by decide +kernel
theorem dX8_addTask_11 : decode cX8_addTask 11 = .ok (.iconst 0, 1) := by decide +kernel
theorem dX8_addTask_12 : decode cX8_addTask 12 = .ok (.iconst 3, 1) := by decide +kernel
theorem dX8_addTask_13 : decode cX8_addTask 13 = .ok (.invokestatic 32, 3) := by decide +kernel
theorem dX8_addTask_16 : decode cX8_addTask 16 = .ok (.ifCond .eq 27, 3) := by decide +kernel
theorem dX8_addTask_19 : decode cX8_addTask 19 = .ok (.iload_n 3, 1) := by decide +kernel
theorem dX8_addTask_20 : decode cX8_addTask 20 = .ok (.iconst 1, 1) := by decide +kernel
theorem dX8_addTask_21 : decode cX8_addTask 21 = .ok (.bipush 6, 2) := by decide +kernel
theorem dX8_addTask_23 : decode cX8_addTask 23 = .ok (.invokestatic 32, 3) := by decide +kernel
theorem dX8_addTask_26 : decode cX8_addTask 26 = .ok (.ifCond .eq 17, 3) := by decide +kernel
theorem dX8_addTask_29 : decode cX8_addTask 29 = .ok (.iload 4, 2) := by decide +kernel
theorem dX8_addTask_31 : decode cX8_addTask 31 = .ok (.iconst 0, 1) := by decide +kernel
theorem dX8_addTask_32 : decode cX8_addTask 32 = .ok (.iconst 4, 1) := by decide +kernel
theorem dX8_addTask_33 : decode cX8_addTask 33 = .ok (.invokestatic 32, 3) := by decide +kernel
theorem dX8_addTask_36 : decode cX8_addTask 36 = .ok (.ifCond .eq 7, 3) := by decide +kernel
theorem dX8_addTask_39 : decode cX8_addTask 39 = .ok (.iconst 1, 1) := by decide +kernel
theorem dX8_addTask_40 : decode cX8_addTask 40 = .ok (.goto 4, 3) := by decide +kernel
theorem dX8_addTask_43 : decode cX8_addTask 43 = .ok (.iconst 0, 1) := by decide +kernel
theorem dX8_addTask_44 : decode cX8_addTask 44 = .ok (.istore 7, 2) := by decide +kernel
theorem dX8_addTask_46 : decode cX8_addTask 46 = .ok (.iload 7, 2) := by decide +kernel
theorem dX8_addTask_48 : decode cX8_addTask 48 = .ok (.ifCond .eq 31, 3) := by decide +kernel
theorem dX8_addTask_51 : decode cX8_addTask 51 = .ok (.iload 5, 2) := by decide +kernel
theorem dX8_addTask_53 : decode cX8_addTask 53 = .ok (.iconst 1, 1) := by decide +kernel
theorem dX8_addTask_54 : decode cX8_addTask 54 = .ok (.bipush 48, 2) := by decide +kernel
theorem dX8_addTask_56 : decode cX8_addTask 56 = .ok (.invokestatic 32, 3) := by decide +kernel
theorem dX8_addTask_59 : decode cX8_addTask 59 = .ok (.ifCond .eq 20, 3) := by decide +kernel
theorem dX8_addTask_62 : decode cX8_addTask 62 = .ok (.iload 6, 2) := by decide +kernel
theorem dX8_addTask_64 : decode cX8_addTask 64 = .ok (.aload_n 0, 1) := by decide +kernel
theorem dX8_addTask_65 : decode cX8_addTask 65 = .ok (.getfield 7, 3) := by decide +kernel
theorem dX8_addTask_68 : decode cX8_addTask 68 = .ok (.iconst 0, 1) := by decide +kernel
theorem dX8_addTask_69 : decode cX8_addTask 69 = .ok (.iaload, 1) := by decide +kernel
theorem dX8_addTask_70 : decode cX8_addTask 70 = .ok (.sipush 2000, 3) := by decide +kernel
theorem dX8_addTask_73 : decode cX8_addTask 73 = .ok (.invokestatic 32, 3) := by decide +kernel
theorem dX8_addTask_76 : decode cX8_addTask 76 = .ok (.ifCond .ne 6, 3) := by decide +kernel
theorem dX8_addTask_79 : decode cX8_addTask 79 = .ok (.bipush (-2), 2) := by decide +kernel
theorem dX8_addTask_81 : decode cX8_addTask 81 = .ok (.ireturn, 1) := by decide +kernel
theorem dX8_addTask_82 : decode cX8_addTask 82 = .ok (.aload_n 0, 1) := by decide +kernel
theorem dX8_addTask_83 : decode cX8_addTask 83 = .ok (.getfield 7, 3) := by decide +kernel
theorem dX8_addTask_86 : decode cX8_addTask 86 = .ok (.iconst 3, 1) := by decide +kernel
theorem dX8_addTask_87 : decode cX8_addTask 87 = .ok (.iaload, 1) := by decide +kernel
theorem dX8_addTask_88 : decode cX8_addTask 88 = .ok (.bipush 24, 2) := by decide +kernel
theorem dX8_addTask_90 : decode cX8_addTask 90 = .ok (.if_icmp .ne 6, 3) := by decide +kernel
theorem dX8_addTask_93 : decode cX8_addTask 93 = .ok (.bipush (-3), 2) := by decide +kernel
theorem dX8_addTask_95 : decode cX8_addTask 95 = .ok (.ireturn, 1) := by decide +kernel
theorem dX8_addTask_96 : decode cX8_addTask 96 = .ok (.aload_n 0, 1) := by decide +kernel
theorem dX8_addTask_97 : decode cX8_addTask 97 = .ok (.invokevirtual 58, 3) := by decide +kernel
theorem dX8_addTask_100 : decode cX8_addTask 100 = .ok (.aload_n 0, 1) := by decide +kernel
theorem dX8_addTask_101 : decode cX8_addTask 101 = .ok (.getfield 7, 3) := by decide +kernel
theorem dX8_addTask_104 : decode cX8_addTask 104 = .ok (.iconst 3, 1) := by decide +kernel
theorem dX8_addTask_105 : decode cX8_addTask 105 = .ok (.iaload, 1) := by decide +kernel
theorem dX8_addTask_106 : decode cX8_addTask 106 = .ok (.istore 8, 2) := by decide +kernel
theorem dX8_addTask_108 : decode cX8_addTask 108 = .ok (.aload_n 0, 1) := by decide +kernel
theorem dX8_addTask_109 : decode cX8_addTask 109 = .ok (.getfield 7, 3) := by decide +kernel
theorem dX8_addTask_112 : decode cX8_addTask 112 = .ok (.iconst 3, 1) := by decide +kernel
theorem dX8_addTask_113 : decode cX8_addTask 113 = .ok (.dup2, 1) := by decide +kernel
theorem dX8_addTask_114 : decode cX8_addTask 114 = .ok (.iaload, 1) := by decide +kernel
theorem dX8_addTask_115 : decode cX8_addTask 115 = .ok (.iconst 1, 1) := by decide +kernel
theorem dX8_addTask_116 : decode cX8_addTask 116 = .ok (.iadd, 1) := by decide +kernel
theorem dX8_addTask_117 : decode cX8_addTask 117 = .ok (.iastore, 1) := by decide +kernel
theorem dX8_addTask_118 : decode cX8_addTask 118 = .ok (.aload_n 0, 1) := by decide +kernel
theorem dX8_addTask_119 : decode cX8_addTask 119 = .ok (.iload 8, 2) := by decide +kernel
theorem dX8_addTask_121 : decode cX8_addTask 121 = .ok (.iconst 0, 1) := by decide +kernel
theorem dX8_addTask_122 : decode cX8_addTask 122 = .ok (.iload_n 1, 1) := by decide +kernel
theorem dX8_addTask_123 : decode cX8_addTask 123 = .ok (.invokevirtual 81, 3) := by decide +kernel
theorem dX8_addTask_126 : decode cX8_addTask 126 = .ok (.aload_n 0, 1) := by decide +kernel
theorem dX8_addTask_127 : decode cX8_addTask 127 = .ok (.iload 8, 2) := by decide +kernel
theorem dX8_addTask_129 : decode cX8_addTask 129 = .ok (.iconst 1, 1) := by decide +kernel
theorem dX8_addTask_130 : decode cX8_addTask 130 = .ok (.iload_n 2, 1) := by decide +kernel
theorem dX8_addTask_131 : decode cX8_addTask 131 = .ok (.invokevirtual 81, 3) := by decide +kernel
theorem dX8_addTask_134 : decode cX8_addTask 134 = .ok (.aload_n 0, 1) := by decide +kernel
theorem dX8_addTask_135 : decode cX8_addTask 135 = .ok (.iload 8, 2) := by decide +kernel
theorem dX8_addTask_137 : decode cX8_addTask 137 = .ok (.iconst 2, 1) := by decide +kernel
theorem dX8_addTask_138 : decode cX8_addTask 138 = .ok (.iload_n 3, 1) := by decide +kernel
theorem dX8_addTask_139 : decode cX8_addTask 139 = .ok (.invokevirtual 81, 3) := by decide +kernel
theorem dX8_addTask_142 : decode cX8_addTask 142 = .ok (.aload_n 0, 1) := by decide +kernel
theorem dX8_addTask_143 : decode cX8_addTask 143 = .ok (.iload 8, 2) := by decide +kernel
theorem dX8_addTask_145 : decode cX8_addTask 145 = .ok (.iconst 3, 1) := by decide +kernel
theorem dX8_addTask_146 : decode cX8_addTask 146 = .ok (.iload 4, 2) := by decide +kernel
theorem dX8_addTask_148 : decode cX8_addTask 148 = .ok (.invokevirtual 81, 3) := by decide +kernel
theorem dX8_addTask_151 : decode cX8_addTask 151 = .ok (.aload_n 0, 1) := by decide +kernel
theorem dX8_addTask_152 : decode cX8_addTask 152 = .ok (.iload 8, 2) := by decide +kernel
theorem dX8_addTask_154 : decode cX8_addTask 154 = .ok (.iconst 4, 1) := by decide +kernel
theorem dX8_addTask_155 : decode cX8_addTask 155 = .ok (.iload 5, 2) := by decide +kernel
theorem dX8_addTask_157 : decode cX8_addTask 157 = .ok (.invokevirtual 81, 3) := by decide +kernel
theorem dX8_addTask_160 : decode cX8_addTask 160 = .ok (.aload_n 0, 1) := by decide +kernel
theorem dX8_addTask_161 : decode cX8_addTask 161 = .ok (.iload 8, 2) := by decide +kernel
theorem dX8_addTask_163 : decode cX8_addTask 163 = .ok (.iconst 5, 1) := by decide +kernel
theorem dX8_addTask_164 : decode cX8_addTask 164 = .ok (.iload 6, 2) := by decide +kernel
theorem dX8_addTask_166 : decode cX8_addTask 166 = .ok (.invokevirtual 81, 3) := by decide +kernel
theorem dX8_addTask_169 : decode cX8_addTask 169 = .ok (.aload_n 0, 1) := by decide +kernel
theorem dX8_addTask_170 : decode cX8_addTask 170 = .ok (.iload 8, 2) := by decide +kernel
theorem dX8_addTask_172 : decode cX8_addTask 172 = .ok (.bipush 6, 2) := by decide +kernel
theorem dX8_addTask_174 : decode cX8_addTask 174 = .ok (.iconst 0, 1) := by decide +kernel
theorem dX8_addTask_175 : decode cX8_addTask 175 = .ok (.invokevirtual 81, 3) := by decide +kernel
theorem dX8_addTask_178 : decode cX8_addTask 178 = .ok (.aload_n 0, 1) := by decide +kernel
theorem dX8_addTask_179 : decode cX8_addTask 179 = .ok (.iload 8, 2) := by decide +kernel
theorem dX8_addTask_181 : decode cX8_addTask 181 = .ok (.bipush 7, 2) := by decide +kernel
theorem dX8_addTask_183 : decode cX8_addTask 183 = .ok (.bipush (-5), 2) := by decide +kernel
theorem dX8_addTask_185 : decode cX8_addTask 185 = .ok (.invokevirtual 81, 3) := by decide +kernel
theorem dX8_addTask_188 : decode cX8_addTask 188 = .ok (.aload_n 0, 1) := by decide +kernel
theorem dX8_addTask_189 : decode cX8_addTask 189 = .ok (.iload 8, 2) := by decide +kernel
theorem dX8_addTask_191 : decode cX8_addTask 191 = .ok (.bipush 8, 2) := by decide +kernel
theorem dX8_addTask_193 : decode cX8_addTask 193 = .ok (.iconst 0, 1) := by decide +kernel
theorem dX8_addTask_194 : decode cX8_addTask 194 = .ok (.invokevirtual 81, 3) := by decide +kernel
theorem dX8_addTask_197 : decode cX8_addTask 197 = .ok (.aload_n 0, 1) := by decide +kernel
theorem dX8_addTask_198 : decode cX8_addTask 198 = .ok (.iload 8, 2) := by decide +kernel
theorem dX8_addTask_200 : decode cX8_addTask 200 = .ok (.bipush 9, 2) := by decide +kernel
theorem dX8_addTask_202 : decode cX8_addTask 202 = .ok (.iconst 0, 1) := by decide +kernel
theorem dX8_addTask_203 : decode cX8_addTask 203 = .ok (.invokevirtual 81, 3) := by decide +kernel
theorem dX8_addTask_206 : decode cX8_addTask 206 = .ok (.iload 8, 2) := by decide +kernel
theorem dX8_addTask_208 : decode cX8_addTask 208 = .ok (.ireturn, 1) := by decide +kernel
theorem dX8_stateOf_0 : decode cX8_stateOf 0 = .ok (.aload_n 0, 1) := by decide +kernel
theorem dX8_stateOf_1 : decode cX8_stateOf 1 = .ok (.iload_n 1, 1) := by decide +kernel
theorem dX8_stateOf_2 : decode cX8_stateOf 2 = .ok (.bipush 6, 2) := by decide +kernel
theorem dX8_stateOf_4 : decode cX8_stateOf 4 = .ok (.invokevirtual 84, 3) := by decide +kernel
theorem dX8_stateOf_7 : decode cX8_stateOf 7 = .ok (.ireturn, 1) := by decide +kernel
theorem dX8_isBusy_0 : decode cX8_isBusy 0 = .ok (.aload_n 0, 1) := by decide +kernel
theorem dX8_isBusy_1 : decode cX8_isBusy 1 = .ok (.iload_n 1, 1) := by decide +kernel
theorem dX8_isBusy_2 : decode cX8_isBusy 2 = .ok (.invokevirtual 87, 3) := by decide +kernel
theorem dX8_isBusy_5 : decode cX8_isBusy 5 = .ok (.iconst 1, 1) := by decide +kernel
theorem dX8_isBusy_6 : decode cX8_isBusy 6 = .ok (.iconst 3, 1) := by decide +kernel
theorem dX8_isBusy_7 : decode cX8_isBusy 7 = .ok (.invokestatic 32, 3) := by decide +kernel
theorem dX8_isBusy_10 : decode cX8_isBusy 10 = .ok (.ireturn, 1) := by decide +kernel
theorem dX8_busy_0 : decode cX8_busy 0 = .ok (.iconst 0, 1) := by decide +kernel
theorem dX8_busy_1 : decode cX8_busy 1 = .ok (.istore_n 3, 1) := by decide +kernel
theorem dX8_busy_2 : decode cX8_busy 2 = .ok (.iconst 0, 1) := by decide +kernel
theorem dX8_busy_3 : decode cX8_busy 3 = .ok (.istore 4, 2) := by decide +kernel
theorem dX8_busy_5 : decode cX8_busy 5 = .ok (.iload 4, 2) := by decide +kernel
theorem dX8_busy_7 : decode cX8_busy 7 = .ok (.aload_n 0, 1) := by decide +kernel
theorem dX8_busy_8 : decode cX8_busy 8 = .ok (.getfield 7, 3) := by decide +kernel
theorem dX8_busy_11 : decode cX8_busy 11 = .ok (.iconst 3, 1) := by decide +kernel
theorem dX8_busy_12 : decode cX8_busy 12 = .ok (.iaload, 1) := by decide +kernel
theorem dX8_busy_13 : decode cX8_busy 13 = .ok (.if_icmp .ge 64, 3) := by decide +kernel
theorem dX8_busy_16 : decode cX8_busy 16 = .ok (.aload_n 0, 1) := by decide +kernel
theorem dX8_busy_17 : decode cX8_busy 17 = .ok (.iload 4, 2) := by decide +kernel
theorem dX8_busy_19 : decode cX8_busy 19 = .ok (.invokevirtual 90, 3) := by decide +kernel
theorem dX8_busy_22 : decode cX8_busy 22 = .ok (.ifCond .eq 19, 3) := by decide +kernel
theorem dX8_busy_25 : decode cX8_busy 25 = .ok (.aload_n 0, 1) := by decide +kernel
theorem dX8_busy_26 : decode cX8_busy 26 = .ok (.iload 4, 2) := by decide +kernel
theorem dX8_busy_28 : decode cX8_busy 28 = .ok (.bipush 7, 2) := by decide +kernel
theorem dX8_busy_30 : decode cX8_busy 30 = .ok (.invokevirtual 84, 3) := by decide +kernel
theorem dX8_busy_33 : decode cX8_busy 33 = .ok (.iload_n 1, 1) := by decide +kernel
theorem dX8_busy_34 : decode cX8_busy 34 = .ok (.if_icmp .ne 7, 3) := by decide +kernel
theorem dX8_busy_37 : decode cX8_busy 37 = .ok (.iconst 1, 1) := by decide +kernel
theorem dX8_busy_38 : decode cX8_busy 38 = .ok (.goto 4, 3) := by decide +kernel
theorem dX8_busy_41 : decode cX8_busy 41 = .ok (.iconst 0, 1) := by decide +kernel
theorem dX8_busy_42 : decode cX8_busy 42 = .ok (.istore 5, 2) := by decide +kernel
theorem dX8_busy_44 : decode cX8_busy 44 = .ok (.iload_n 3, 1) := by decide +kernel
theorem dX8_busy_45 : decode cX8_busy 45 = .ok (.iload 5, 2) := by decide +kernel
theorem dX8_busy_47 : decode cX8_busy 47 = .ok (.ifCond .ne 7, 3) := by decide +kernel
theorem dX8_busy_50 : decode cX8_busy 50 = .ok (.iconst 0, 1) := by decide +kernel
theorem dX8_busy_51 : decode cX8_busy 51 = .ok (.goto 18, 3) := by decide +kernel
theorem dX8_busy_54 : decode cX8_busy 54 = .ok (.iload_n 2, 1) := by decide +kernel
theorem dX8_busy_55 : decode cX8_busy 55 = .ok (.ifCond .eq 13, 3) := by decide +kernel
theorem dX8_busy_58 : decode cX8_busy 58 = .ok (.aload_n 0, 1) := by decide +kernel
theorem dX8_busy_59 : decode cX8_busy 59 = .ok (.iload 4, 2) := by decide +kernel
theorem dX8_busy_61 : decode cX8_busy 61 = .ok (.iconst 2, 1) := by decide +kernel
theorem dX8_busy_62 : decode cX8_busy 62 = .ok (.invokevirtual 84, 3) := by decide +kernel
theorem dX8_busy_65 : decode cX8_busy 65 = .ok (.goto 4, 3) := by decide +kernel
theorem dX8_busy_68 : decode cX8_busy 68 = .ok (.iconst 1, 1) := by decide +kernel
theorem dX8_busy_69 : decode cX8_busy 69 = .ok (.iadd, 1) := by decide +kernel
theorem dX8_busy_70 : decode cX8_busy 70 = .ok (.istore_n 3, 1) := by decide +kernel
theorem dX8_busy_71 : decode cX8_busy 71 = .ok (.iinc 4 1, 3) := by decide +kernel
theorem dX8_busy_74 : decode cX8_busy 74 = .ok (.goto (-69), 3) := by decide +kernel
theorem dX8_busy_77 : decode cX8_busy 77 = .ok (.iload_n 3, 1) := by decide +kernel
theorem dX8_busy_78 : decode cX8_busy 78 = .ok (.ireturn, 1) := by decide +kernel
theorem dX8_canHang_0 : decode cX8_canHang 0 = .ok (.aload_n 0, 1) := by decide +kernel
theorem dX8_canHang_1 : decode cX8_canHang 1 = .ok (.getfield 7, 3) := by decide +kernel
theorem dX8_canHang_4 : decode cX8_canHang 4 = .ok (.sipush 236, 3) := by decide +kernel
theorem dX8_canHang_7 : decode cX8_canHang 7 = .ok (.iconst 2, 1) := by decide +kernel
theorem dX8_canHang_8 : decode cX8_canHang 8 = .ok (.iload_n 2, 1) := by decide +kernel
theorem dX8_canHang_9 : decode cX8_canHang 9 = .ok (.imul, 1) := by decide +kernel
theorem dX8_canHang_10 : decode cX8_canHang 10 = .ok (.iadd, 1) := by decide +kernel
theorem dX8_canHang_11 : decode cX8_canHang 11 = .ok (.iconst 1, 1) := by decide +kernel
theorem dX8_canHang_12 : decode cX8_canHang 12 = .ok (.iadd, 1) := by decide +kernel
theorem dX8_canHang_13 : decode cX8_canHang 13 = .ok (.iaload, 1) := by decide +kernel
theorem dX8_canHang_14 : decode cX8_canHang 14 = .ok (.aload_n 0, 1) := by decide +kernel
theorem dX8_canHang_15 : decode cX8_canHang 15 = .ok (.iload_n 1, 1) := by decide +kernel
theorem dX8_canHang_16 : decode cX8_canHang 16 = .ok (.iconst 1, 1) := by decide +kernel
theorem dX8_canHang_17 : decode cX8_canHang 17 = .ok (.invokevirtual 84, 3) := by decide +kernel
theorem dX8_canHang_20 : decode cX8_canHang 20 = .ok (.ishr, 1) := by decide +kernel
theorem dX8_canHang_21 : decode cX8_canHang 21 = .ok (.iconst 1, 1) := by decide +kernel
theorem dX8_canHang_22 : decode cX8_canHang 22 = .ok (.iand, 1) := by decide +kernel
theorem dX8_canHang_23 : decode cX8_canHang 23 = .ok (.iconst 1, 1) := by decide +kernel
theorem dX8_canHang_24 : decode cX8_canHang 24 = .ok (.if_icmp .ne 7, 3) := by decide +kernel
theorem dX8_canHang_27 : decode cX8_canHang 27 = .ok (.iconst 1, 1) := by decide +kernel
theorem dX8_canHang_28 : decode cX8_canHang 28 = .ok (.goto 4, 3) := by decide +kernel
theorem dX8_canHang_31 : decode cX8_canHang 31 = .ok (.iconst 0, 1) := by decide +kernel
theorem dX8_canHang_32 : decode cX8_canHang 32 = .ok (.istore_n 3, 1) := by decide +kernel
theorem dX8_canHang_33 : decode cX8_canHang 33 = .ok (.iload_n 3, 1) := by decide +kernel
theorem dX8_canHang_34 : decode cX8_canHang 34 = .ok (.ifCond .eq 35, 3) := by decide +kernel
theorem dX8_canHang_37 : decode cX8_canHang 37 = .ok (.aload_n 0, 1) := by decide +kernel
theorem dX8_canHang_38 : decode cX8_canHang 38 = .ok (.getfield 7, 3) := by decide +kernel
theorem dX8_canHang_41 : decode cX8_canHang 41 = .ok (.sipush 236, 3) := by decide +kernel
theorem dX8_canHang_44 : decode cX8_canHang 44 = .ok (.iconst 2, 1) := by decide +kernel
theorem dX8_canHang_45 : decode cX8_canHang 45 = .ok (.iload_n 2, 1) := by decide +kernel
theorem dX8_canHang_46 : decode cX8_canHang 46 = .ok (.imul, 1) := by decide +kernel
theorem dX8_canHang_47 : decode cX8_canHang 47 = .ok (.iadd, 1) := by decide +kernel
theorem dX8_canHang_48 : decode cX8_canHang 48 = .ok (.iaload, 1) := by decide +kernel
theorem dX8_canHang_49 : decode cX8_canHang 49 = .ok (.aload_n 0, 1) := by decide +kernel
theorem dX8_canHang_50 : decode cX8_canHang 50 = .ok (.iload_n 2, 1) := by decide +kernel
theorem dX8_canHang_51 : decode cX8_canHang 51 = .ok (.iconst 1, 1) := by decide +kernel
theorem dX8_canHang_52 : decode cX8_canHang 52 = .ok (.invokevirtual 93, 3) := by decide +kernel
theorem dX8_canHang_55 : decode cX8_canHang 55 = .ok (.isub, 1) := by decide +kernel
theorem dX8_canHang_56 : decode cX8_canHang 56 = .ok (.aload_n 0, 1) := by decide +kernel
theorem dX8_canHang_57 : decode cX8_canHang 57 = .ok (.iload_n 1, 1) := by decide +kernel
theorem dX8_canHang_58 : decode cX8_canHang 58 = .ok (.iconst 2, 1) := by decide +kernel
theorem dX8_canHang_59 : decode cX8_canHang 59 = .ok (.invokevirtual 84, 3) := by decide +kernel
theorem dX8_canHang_62 : decode cX8_canHang 62 = .ok (.if_icmp .lt 7, 3) := by decide +kernel
theorem dX8_canHang_65 : decode cX8_canHang 65 = .ok (.iconst 1, 1) := by decide +kernel
theorem dX8_canHang_66 : decode cX8_canHang 66 = .ok (.goto 4, 3) := by decide +kernel
theorem dX8_canHang_69 : decode cX8_canHang 69 = .ok (.iconst 0, 1) := by decide +kernel
theorem dX8_canHang_70 : decode cX8_canHang 70 = .ok (.ireturn, 1) := by decide +kernel
theorem dX8_endOf_0 : decode cX8_endOf 0 = .ok (.aload_n 0, 1) := by decide +kernel
theorem dX8_endOf_1 : decode cX8_endOf 1 = .ok (.iload_n 1, 1) := by decide +kernel
theorem dX8_endOf_2 : decode cX8_endOf 2 = .ok (.iconst 5, 1) := by decide +kernel
theorem dX8_endOf_3 : decode cX8_endOf 3 = .ok (.invokevirtual 84, 3) := by decide +kernel
theorem dX8_endOf_6 : decode cX8_endOf 6 = .ok (.iconst 2, 1) := by decide +kernel
theorem dX8_endOf_7 : decode cX8_endOf 7 = .ok (.aload_n 0, 1) := by decide +kernel
theorem dX8_endOf_8 : decode cX8_endOf 8 = .ok (.iload_n 1, 1) := by decide +kernel
theorem dX8_endOf_9 : decode cX8_endOf 9 = .ok (.iconst 4, 1) := by decide +kernel
theorem dX8_endOf_10 : decode cX8_endOf 10 = .ok (.invokevirtual 84, 3) := by decide +kernel
theorem dX8_endOf_13 : decode cX8_endOf 13 = .ok (.imul, 1) := by decide +kernel
theorem dX8_endOf_14 : decode cX8_endOf 14 = .ok (.iadd, 1) := by decide +kernel
theorem dX8_endOf_15 : decode cX8_endOf 15 = .ok (.bipush 6, 2) := by decide +kernel
theorem dX8_endOf_17 : decode cX8_endOf 17 = .ok (.iadd, 1) := by decide +kernel
theorem dX8_endOf_18 : decode cX8_endOf 18 = .ok (.ireturn, 1) := by decide +kernel
theorem dX8_barredBy_0 : decode cX8_barredBy 0 = .ok (.aload_n 0, 1) := by decide +kernel
theorem dX8_barredBy_1 : decode cX8_barredBy 1 = .ok (.iload_n 1, 1) := by decide +kernel
theorem dX8_barredBy_2 : decode cX8_barredBy 2 = .ok (.iconst 0, 1) := by decide +kernel
theorem dX8_barredBy_3 : decode cX8_barredBy 3 = .ok (.invokevirtual 84, 3) := by decide +kernel
theorem dX8_barredBy_6 : decode cX8_barredBy 6 = .ok (.istore_n 2, 1) := by decide +kernel
theorem dX8_barredBy_7 : decode cX8_barredBy 7 = .ok (.iconst 0, 1) := by decide +kernel
theorem dX8_barredBy_8 : decode cX8_barredBy 8 = .ok (.istore_n 3, 1) := by decide +kernel
theorem dX8_barredBy_9 : decode cX8_barredBy 9 = .ok (.iload_n 3, 1) := by decide +kernel
theorem dX8_barredBy_10 : decode cX8_barredBy 10 = .ok (.aload_n 0, 1) := by decide +kernel
theorem dX8_barredBy_11 : decode cX8_barredBy 11 = .ok (.getfield 7, 3) := by decide +kernel
theorem dX8_barredBy_14 : decode cX8_barredBy 14 = .ok (.iconst 3, 1) := by decide +kernel
theorem dX8_barredBy_15 : decode cX8_barredBy 15 = .ok (.iaload, 1) := by decide +kernel
theorem dX8_barredBy_16 : decode cX8_barredBy 16 = .ok (.if_icmp .ge 85, 3) := by decide +kernel
theorem dX8_barredBy_19 : decode cX8_barredBy 19 = .ok (.aload_n 0, 1) := by decide +kernel
theorem dX8_barredBy_20 : decode cX8_barredBy 20 = .ok (.iload_n 3, 1) := by decide +kernel
theorem dX8_barredBy_21 : decode cX8_barredBy 21 = .ok (.iconst 0, 1) := by decide +kernel
theorem dX8_barredBy_22 : decode cX8_barredBy 22 = .ok (.invokevirtual 84, 3) := by decide +kernel
theorem dX8_barredBy_25 : decode cX8_barredBy 25 = .ok (.istore 4, 2) := by decide +kernel
theorem dX8_barredBy_27 : decode cX8_barredBy 27 = .ok (.iload 4, 2) := by decide +kernel
theorem dX8_barredBy_29 : decode cX8_barredBy 29 = .ok (.iload_n 2, 1) := by decide +kernel
theorem dX8_barredBy_30 : decode cX8_barredBy 30 = .ok (.if_icmp .eq 18, 3) := by decide +kernel
theorem dX8_barredBy_33 : decode cX8_barredBy 33 = .ok (.aload_n 0, 1) := by decide +kernel
theorem dX8_barredBy_34 : decode cX8_barredBy 34 = .ok (.iload_n 2, 1) := by decide +kernel
theorem dX8_barredBy_35 : decode cX8_barredBy 35 = .ok (.iconst 3, 1) := by decide +kernel
theorem dX8_barredBy_36 : decode cX8_barredBy 36 = .ok (.invokevirtual 69, 3) := by decide +kernel
theorem dX8_barredBy_39 : decode cX8_barredBy 39 = .ok (.iload 4, 2) := by decide +kernel
theorem dX8_barredBy_41 : decode cX8_barredBy 41 = .ok (.ishr, 1) := by decide +kernel
theorem dX8_barredBy_42 : decode cX8_barredBy 42 = .ok (.iconst 1, 1) := by decide +kernel
theorem dX8_barredBy_43 : decode cX8_barredBy 43 = .ok (.iand, 1) := by decide +kernel
theorem dX8_barredBy_44 : decode cX8_barredBy 44 = .ok (.iconst 1, 1) := by decide +kernel
theorem dX8_barredBy_45 : decode cX8_barredBy 45 = .ok (.if_icmp .ne 7, 3) := by decide +kernel
theorem dX8_barredBy_48 : decode cX8_barredBy 48 = .ok (.iconst 1, 1) := by decide +kernel
theorem dX8_barredBy_49 : decode cX8_barredBy 49 = .ok (.goto 4, 3) := by decide +kernel
theorem dX8_barredBy_52 : decode cX8_barredBy 52 = .ok (.iconst 0, 1) := by decide +kernel
theorem dX8_barredBy_53 : decode cX8_barredBy 53 = .ok (.istore 5, 2) := by decide +kernel
theorem dX8_barredBy_55 : decode cX8_barredBy 55 = .ok (.iload_n 3, 1) := by decide +kernel
theorem dX8_barredBy_56 : decode cX8_barredBy 56 = .ok (.iload_n 1, 1) := by decide +kernel
theorem dX8_barredBy_57 : decode cX8_barredBy 57 = .ok (.if_icmp .eq 38, 3) := by decide +kernel
theorem dX8_barredBy_60 : decode cX8_barredBy 60 = .ok (.aload_n 0, 1) := by decide +kernel
theorem dX8_barredBy_61 : decode cX8_barredBy 61 = .ok (.iload_n 3, 1) := by decide +kernel
theorem dX8_barredBy_62 : decode cX8_barredBy 62 = .ok (.invokevirtual 87, 3) := by decide +kernel
theorem dX8_barredBy_65 : decode cX8_barredBy 65 = .ok (.iconst 2, 1) := by decide +kernel
theorem dX8_barredBy_66 : decode cX8_barredBy 66 = .ok (.if_icmp .ne 29, 3) := by decide +kernel
theorem dX8_barredBy_69 : decode cX8_barredBy 69 = .ok (.iload 5, 2) := by decide +kernel
theorem dX8_barredBy_71 : decode cX8_barredBy 71 = .ok (.ifCond .eq 24, 3) := by decide +kernel
theorem dX8_barredBy_74 : decode cX8_barredBy 74 = .ok (.aload_n 0, 1) := by decide +kernel
theorem dX8_barredBy_75 : decode cX8_barredBy 75 = .ok (.aload_n 0, 1) := by decide +kernel
theorem dX8_barredBy_76 : decode cX8_barredBy 76 = .ok (.iload_n 1, 1) := by decide +kernel
theorem dX8_barredBy_77 : decode cX8_barredBy 77 = .ok (.iconst 3, 1) := by decide +kernel
theorem dX8_barredBy_78 : decode cX8_barredBy 78 = .ok (.invokevirtual 84, 3) := by decide +kernel
theorem dX8_barredBy_81 : decode cX8_barredBy 81 = .ok (.aload_n 0, 1) := by decide +kernel
theorem dX8_barredBy_82 : decode cX8_barredBy 82 = .ok (.iload_n 3, 1) := by decide +kernel
theorem dX8_barredBy_83 : decode cX8_barredBy 83 = .ok (.iconst 3, 1) := by decide +kernel
theorem dX8_barredBy_84 : decode cX8_barredBy 84 = .ok (.invokevirtual 84, 3) := by decide +kernel
theorem dX8_barredBy_87 : decode cX8_barredBy 87 = .ok (.invokevirtual 77, 3) := by decide +kernel
theorem dX8_barredBy_90 : decode cX8_barredBy 90 = .ok (.ifCond .eq 5, 3) := by decide +kernel
theorem dX8_barredBy_93 : decode cX8_barredBy 93 = .ok (.iload_n 3, 1) := by decide +kernel
theorem dX8_barredBy_94 : decode cX8_barredBy 94 = .ok (.ireturn, 1) := by decide +kernel
theorem dX8_barredBy_95 : decode cX8_barredBy 95 = .ok (.iinc 3 1, 3) := by decide +kernel
theorem dX8_barredBy_98 : decode cX8_barredBy 98 = .ok (.goto (-89), 3) := by decide +kernel
theorem dX8_barredBy_101 : decode cX8_barredBy 101 = .ok (.bipush (-5), 2) := by decide +kernel
theorem dX8_barredBy_103 : decode cX8_barredBy 103 = .ok (.ireturn, 1) := by decide +kernel
theorem dX8_isTooLate_0 : decode cX8_isTooLate 0 = .ok (.aload_n 0, 1) := by decide +kernel
theorem dX8_isTooLate_1 : decode cX8_isTooLate 1 = .ok (.getfield 7, 3) := by decide +kernel
theorem dX8_isTooLate_4 : decode cX8_isTooLate 4 = .ok (.iconst 0, 1) := by decide +kernel
theorem dX8_isTooLate_5 : decode cX8_isTooLate 5 = .ok (.iaload, 1) := by decide +kernel
theorem dX8_isTooLate_6 : decode cX8_isTooLate 6 = .ok (.aload_n 0, 1) := by decide +kernel
theorem dX8_isTooLate_7 : decode cX8_isTooLate 7 = .ok (.iload_n 1, 1) := by decide +kernel
theorem dX8_isTooLate_8 : decode cX8_isTooLate 8 = .ok (.iconst 4, 1) := by decide +kernel
theorem dX8_isTooLate_9 : decode cX8_isTooLate 9 = .ok (.invokevirtual 84, 3) := by decide +kernel
theorem dX8_isTooLate_12 : decode cX8_isTooLate 12 = .ok (.iadd, 1) := by decide +kernel
theorem dX8_isTooLate_13 : decode cX8_isTooLate 13 = .ok (.aload_n 0, 1) := by decide +kernel
theorem dX8_isTooLate_14 : decode cX8_isTooLate 14 = .ok (.iload_n 1, 1) := by decide +kernel
theorem dX8_isTooLate_15 : decode cX8_isTooLate 15 = .ok (.invokevirtual 97, 3) := by decide +kernel
theorem dX8_isTooLate_18 : decode cX8_isTooLate 18 = .ok (.if_icmp .le 7, 3) := by decide +kernel
theorem dX8_isTooLate_21 : decode cX8_isTooLate 21 = .ok (.iconst 1, 1) := by decide +kernel
theorem dX8_isTooLate_22 : decode cX8_isTooLate 22 = .ok (.goto 4, 3) := by decide +kernel
theorem dX8_isTooLate_25 : decode cX8_isTooLate 25 = .ok (.iconst 0, 1) := by decide +kernel
theorem dX8_isTooLate_26 : decode cX8_isTooLate 26 = .ok (.ireturn, 1) := by decide +kernel
theorem dX8_reasonOf_0 : decode cX8_reasonOf 0 = .ok (.aload_n 0, 1) := by decide +kernel
theorem dX8_reasonOf_1 : decode cX8_reasonOf 1 = .ok (.iload_n 1, 1) := by decide +kernel
theorem dX8_reasonOf_2 : decode cX8_reasonOf 2 = .ok (.invokevirtual 87, 3) := by decide +kernel
theorem dX8_reasonOf_5 : decode cX8_reasonOf 5 = .ok (.iconst 1, 1) := by decide +kernel
theorem dX8_reasonOf_6 : decode cX8_reasonOf 6 = .ok (.if_icmp .eq 5, 3) := by decide +kernel
theorem dX8_reasonOf_9 : decode cX8_reasonOf 9 = .ok (.iconst 1, 1) := by decide +kernel
theorem dX8_reasonOf_10 : decode cX8_reasonOf 10 = .ok (.ireturn, 1) := by decide +kernel
theorem dX8_reasonOf_11 : decode cX8_reasonOf 11 = .ok (.aload_n 0, 1) := by decide +kernel
theorem dX8_reasonOf_12 : decode cX8_reasonOf 12 = .ok (.getfield 7, 3) := by decide +kernel
theorem dX8_reasonOf_15 : decode cX8_reasonOf 15 = .ok (.iconst 0, 1) := by decide +kernel
theorem dX8_reasonOf_16 : decode cX8_reasonOf 16 = .ok (.iaload, 1) := by decide +kernel
theorem dX8_reasonOf_17 : decode cX8_reasonOf 17 = .ok (.aload_n 0, 1) := by decide +kernel
theorem dX8_reasonOf_18 : decode cX8_reasonOf 18 = .ok (.iload_n 1, 1) := by decide +kernel
theorem dX8_reasonOf_19 : decode cX8_reasonOf 19 = .ok (.iconst 5, 1) := by decide +kernel
theorem dX8_reasonOf_20 : decode cX8_reasonOf 20 = .ok (.invokevirtual 84, 3) := by decide +kernel
theorem dX8_reasonOf_23 : decode cX8_reasonOf 23 = .ok (.if_icmp .ge 5, 3) := by decide +kernel
theorem dX8_reasonOf_26 : decode cX8_reasonOf 26 = .ok (.iconst 2, 1) := by decide +kernel
theorem dX8_reasonOf_27 : decode cX8_reasonOf 27 = .ok (.ireturn, 1) := by decide +kernel
theorem dX8_reasonOf_28 : decode cX8_reasonOf 28 = .ok (.aload_n 0, 1) := by decide +kernel
theorem dX8_reasonOf_29 : decode cX8_reasonOf 29 = .ok (.iload_n 1, 1) := by decide +kernel
theorem dX8_reasonOf_30 : decode cX8_reasonOf 30 = .ok (.invokevirtual 100, 3) := by decide +kernel
theorem dX8_reasonOf_33 : decode cX8_reasonOf 33 = .ok (.ifCond .eq 5, 3) := by decide +kernel
theorem dX8_reasonOf_36 : decode cX8_reasonOf 36 = .ok (.iconst 3, 1) := by decide +kernel
theorem dX8_reasonOf_37 : decode cX8_reasonOf 37 = .ok (.ireturn, 1) := by decide +kernel
theorem dX8_reasonOf_38 : decode cX8_reasonOf 38 = .ok (.aload_n 0, 1) := by decide +kernel
theorem dX8_reasonOf_39 : decode cX8_reasonOf 39 = .ok (.iload_n 1, 1) := by decide +kernel
theorem dX8_reasonOf_40 : decode cX8_reasonOf 40 = .ok (.invokevirtual 103, 3) := by decide +kernel
theorem dX8_reasonOf_43 : decode cX8_reasonOf 43 = .ok (.bipush (-5), 2) := by decide +kernel
theorem dX8_reasonOf_45 : decode cX8_reasonOf 45 = .ok (.if_icmp .ne 7, 3) := by decide +kernel
theorem dX8_reasonOf_48 : decode cX8_reasonOf 48 = .ok (.iconst 0, 1) := by decide +kernel
theorem dX8_reasonOf_49 : decode cX8_reasonOf 49 = .ok (.goto 4, 3) := by decide +kernel
theorem dX8_reasonOf_52 : decode cX8_reasonOf 52 = .ok (.iconst 4, 1) := by decide +kernel
theorem dX8_reasonOf_53 : decode cX8_reasonOf 53 = .ok (.ireturn, 1) := by decide +kernel
theorem dX8_running_0 : decode cX8_running 0 = .ok (.iconst 0, 1) := by decide +kernel
theorem dX8_running_1 : decode cX8_running 1 = .ok (.istore_n 1, 1) := by decide +kernel
theorem dX8_running_2 : decode cX8_running 2 = .ok (.iconst 0, 1) := by decide +kernel
theorem dX8_running_3 : decode cX8_running 3 = .ok (.istore_n 2, 1) := by decide +kernel
theorem dX8_running_4 : decode cX8_running 4 = .ok (.iload_n 2, 1) := by decide +kernel
theorem dX8_running_5 : decode cX8_running 5 = .ok (.aload_n 0, 1) := by decide +kernel
theorem dX8_running_6 : decode cX8_running 6 = .ok (.getfield 7, 3) := by decide +kernel
theorem dX8_running_9 : decode cX8_running 9 = .ok (.iconst 1, 1) := by decide +kernel
theorem dX8_running_10 : decode cX8_running 10 = .ok (.iaload, 1) := by decide +kernel
theorem dX8_running_11 : decode cX8_running 11 = .ok (.if_icmp .ge 18, 3) := by decide +kernel
theorem dX8_running_14 : decode cX8_running 14 = .ok (.iload_n 1, 1) := by decide +kernel
theorem dX8_running_15 : decode cX8_running 15 = .ok (.aload_n 0, 1) := by decide +kernel
theorem dX8_running_16 : decode cX8_running 16 = .ok (.iload_n 2, 1) := by decide +kernel
theorem dX8_running_17 : decode cX8_running 17 = .ok (.iconst 2, 1) := by decide +kernel
theorem dX8_running_18 : decode cX8_running 18 = .ok (.invokevirtual 69, 3) := by decide +kernel
theorem dX8_running_21 : decode cX8_running 21 = .ok (.iadd, 1) := by decide +kernel
theorem dX8_running_22 : decode cX8_running 22 = .ok (.istore_n 1, 1) := by decide +kernel
theorem dX8_running_23 : decode cX8_running 23 = .ok (.iinc 2 1, 3) := by decide +kernel
theorem dX8_running_26 : decode cX8_running 26 = .ok (.goto (-22), 3) := by decide +kernel
theorem dX8_running_29 : decode cX8_running 29 = .ok (.iload_n 1, 1) := by decide +kernel
theorem dX8_running_30 : decode cX8_running 30 = .ok (.ireturn, 1) := by decide +kernel
theorem dX8_runError_0 : decode cX8_runError 0 = .ok (.aload_n 0, 1) := by decide +kernel
theorem dX8_runError_1 : decode cX8_runError 1 = .ok (.iload_n 1, 1) := by decide +kernel
theorem dX8_runError_2 : decode cX8_runError 2 = .ok (.invokevirtual 65, 3) := by decide +kernel
theorem dX8_runError_5 : decode cX8_runError 5 = .ok (.ifCond .ne 5, 3) := by decide +kernel
theorem dX8_runError_8 : decode cX8_runError 8 = .ok (.iconst (-1), 1) := by decide +kernel
theorem dX8_runError_9 : decode cX8_runError 9 = .ok (.ireturn, 1) := by decide +kernel
theorem dX8_runError_10 : decode cX8_runError 10 = .ok (.aload_n 0, 1) := by decide +kernel
theorem dX8_runError_11 : decode cX8_runError 11 = .ok (.iload_n 1, 1) := by decide +kernel
theorem dX8_runError_12 : decode cX8_runError 12 = .ok (.iconst 4, 1) := by decide +kernel
theorem dX8_runError_13 : decode cX8_runError 13 = .ok (.invokevirtual 69, 3) := by decide +kernel
theorem dX8_runError_16 : decode cX8_runError 16 = .ok (.ifCond .le 6, 3) := by decide +kernel
theorem dX8_runError_19 : decode cX8_runError 19 = .ok (.bipush (-4), 2) := by decide +kernel
theorem dX8_runError_21 : decode cX8_runError 21 = .ok (.ireturn, 1) := by decide +kernel
theorem dX8_runError_22 : decode cX8_runError 22 = .ok (.aload_n 0, 1) := by decide +kernel
theorem dX8_runError_23 : decode cX8_runError 23 = .ok (.iload_n 1, 1) := by decide +kernel
theorem dX8_runError_24 : decode cX8_runError 24 = .ok (.iconst 2, 1) := by decide +kernel
theorem dX8_runError_25 : decode cX8_runError 25 = .ok (.invokevirtual 69, 3) := by decide +kernel
theorem dX8_runError_28 : decode cX8_runError 28 = .ok (.iconst 1, 1) := by decide +kernel
theorem dX8_runError_29 : decode cX8_runError 29 = .ok (.if_icmp .ne 8, 3) := by decide +kernel
theorem dX8_runError_32 : decode cX8_runError 32 = .ok (.bipush (-5), 2) := by decide +kernel
theorem dX8_runError_34 : decode cX8_runError 34 = .ok (.goto 4, 3) := by decide +kernel
theorem dX8_runError_37 : decode cX8_runError 37 = .ok (.iconst 0, 1) := by decide +kernel
theorem dX8_runError_38 : decode cX8_runError 38 = .ok (.ireturn, 1) := by decide +kernel
theorem dX8_stopError_0 : decode cX8_stopError 0 = .ok (.aload_n 0, 1) := by decide +kernel
theorem dX8_stopError_1 : decode cX8_stopError 1 = .ok (.iload_n 1, 1) := by decide +kernel
theorem dX8_stopError_2 : decode cX8_stopError 2 = .ok (.invokevirtual 65, 3) := by decide +kernel
theorem dX8_stopError_5 : decode cX8_stopError 5 = .ok (.ifCond .ne 5, 3) := by decide +kernel
theorem dX8_stopError_8 : decode cX8_stopError 8 = .ok (.iconst (-1), 1) := by decide +kernel
theorem dX8_stopError_9 : decode cX8_stopError 9 = .ok (.ireturn, 1) := by decide +kernel
theorem dX8_stopError_10 : decode cX8_stopError 10 = .ok (.aload_n 0, 1) := by decide +kernel
theorem dX8_stopError_11 : decode cX8_stopError 11 = .ok (.iload_n 1, 1) := by decide +kernel
theorem dX8_stopError_12 : decode cX8_stopError 12 = .ok (.iconst 2, 1) := by decide +kernel
theorem dX8_stopError_13 : decode cX8_stopError 13 = .ok (.invokevirtual 69, 3) := by decide +kernel
theorem dX8_stopError_16 : decode cX8_stopError 16 = .ok (.ifCond .ne 8, 3) := by decide +kernel
theorem dX8_stopError_19 : decode cX8_stopError 19 = .ok (.bipush (-5), 2) := by decide +kernel
theorem dX8_stopError_21 : decode cX8_stopError 21 = .ok (.goto 4, 3) := by decide +kernel
theorem dX8_stopError_24 : decode cX8_stopError 24 = .ok (.iconst 0, 1) := by decide +kernel
theorem dX8_stopError_25 : decode cX8_stopError 25 = .ok (.ireturn, 1) := by decide +kernel
theorem dX8_goes_0 : decode cX8_goes 0 = .ok (.aload_n 0, 1) := by decide +kernel
theorem dX8_goes_1 : decode cX8_goes 1 = .ok (.iload_n 1, 1) := by decide +kernel
theorem dX8_goes_2 : decode cX8_goes 2 = .ok (.iconst 2, 1) := by decide +kernel
theorem dX8_goes_3 : decode cX8_goes 3 = .ok (.iload_n 2, 1) := by decide +kernel
theorem dX8_goes_4 : decode cX8_goes 4 = .ok (.invokevirtual 61, 3) := by decide +kernel
theorem dX8_goes_7 : decode cX8_goes 7 = .ok (.aload_n 0, 1) := by decide +kernel
theorem dX8_goes_8 : decode cX8_goes 8 = .ok (.invokevirtual 106, 3) := by decide +kernel
theorem dX8_goes_11 : decode cX8_goes 11 = .ok (.ireturn, 1) := by decide +kernel
theorem dX8_run_0 : decode cX8_run 0 = .ok (.aload_n 0, 1) := by decide +kernel
theorem dX8_run_1 : decode cX8_run 1 = .ok (.iload_n 1, 1) := by decide +kernel
theorem dX8_run_2 : decode cX8_run 2 = .ok (.invokevirtual 110, 3) := by decide +kernel
theorem dX8_run_5 : decode cX8_run 5 = .ok (.istore_n 2, 1) := by decide +kernel
theorem dX8_run_6 : decode cX8_run 6 = .ok (.iload_n 2, 1) := by decide +kernel
theorem dX8_run_7 : decode cX8_run 7 = .ok (.ifCond .eq 5, 3) := by decide +kernel
theorem dX8_run_10 : decode cX8_run 10 = .ok (.iload_n 2, 1) := by decide +kernel
theorem dX8_run_11 : decode cX8_run 11 = .ok (.ireturn, 1) := by decide +kernel
theorem dX8_run_12 : decode cX8_run 12 = .ok (.aload_n 0, 1) := by decide +kernel
theorem dX8_run_13 : decode cX8_run 13 = .ok (.invokevirtual 58, 3) := by decide +kernel
theorem dX8_run_16 : decode cX8_run 16 = .ok (.aload_n 0, 1) := by decide +kernel
theorem dX8_run_17 : decode cX8_run 17 = .ok (.iload_n 1, 1) := by decide +kernel
theorem dX8_run_18 : decode cX8_run 18 = .ok (.iconst 1, 1) := by decide +kernel
theorem dX8_run_19 : decode cX8_run 19 = .ok (.invokevirtual 113, 3) := by decide +kernel
theorem dX8_run_22 : decode cX8_run 22 = .ok (.ireturn, 1) := by decide +kernel
theorem dX8_stop_0 : decode cX8_stop 0 = .ok (.aload_n 0, 1) := by decide +kernel
theorem dX8_stop_1 : decode cX8_stop 1 = .ok (.iload_n 1, 1) := by decide +kernel
theorem dX8_stop_2 : decode cX8_stop 2 = .ok (.invokevirtual 116, 3) := by decide +kernel
theorem dX8_stop_5 : decode cX8_stop 5 = .ok (.istore_n 2, 1) := by decide +kernel
theorem dX8_stop_6 : decode cX8_stop 6 = .ok (.iload_n 2, 1) := by decide +kernel
theorem dX8_stop_7 : decode cX8_stop 7 = .ok (.ifCond .eq 5, 3) := by decide +kernel
theorem dX8_stop_10 : decode cX8_stop 10 = .ok (.iload_n 2, 1) := by decide +kernel
theorem dX8_stop_11 : decode cX8_stop 11 = .ok (.ireturn, 1) := by decide +kernel
theorem dX8_stop_12 : decode cX8_stop 12 = .ok (.aload_n 0, 1) := by decide +kernel
theorem dX8_stop_13 : decode cX8_stop 13 = .ok (.invokevirtual 58, 3) := by decide +kernel
theorem dX8_stop_16 : decode cX8_stop 16 = .ok (.aload_n 0, 1) := by decide +kernel
theorem dX8_stop_17 : decode cX8_stop 17 = .ok (.iload_n 1, 1) := by decide +kernel
theorem dX8_stop_18 : decode cX8_stop 18 = .ok (.iconst 0, 1) := by decide +kernel
theorem dX8_stop_19 : decode cX8_stop 19 = .ok (.invokevirtual 113, 3) := by decide +kernel
theorem dX8_stop_22 : decode cX8_stop 22 = .ok (.ireturn, 1) := by decide +kernel
theorem dX8_hangError_0 : decode cX8_hangError 0 = .ok (.aload_n 0, 1) := by decide +kernel
theorem dX8_hangError_1 : decode cX8_hangError 1 = .ok (.iload_n 1, 1) := by decide +kernel
theorem dX8_hangError_2 : decode cX8_hangError 2 = .ok (.invokevirtual 119, 3) := by decide +kernel
theorem dX8_hangError_5 : decode cX8_hangError 5 = .ok (.ifCond .eq 11, 3) := by decide +kernel
theorem dX8_hangError_8 : decode cX8_hangError 8 = .ok (.aload_n 0, 1) := by decide +kernel
theorem dX8_hangError_9 : decode cX8_hangError 9 = .ok (.iload_n 2, 1) := by decide +kernel
theorem dX8_hangError_10 : decode cX8_hangError 10 = .ok (.invokevirtual 122, 3) := by decide +kernel
theorem dX8_hangError_13 : decode cX8_hangError 13 = .ok (.ifCond .ne 5, 3) := by decide +kernel
theorem dX8_hangError_16 : decode cX8_hangError 16 = .ok (.iconst (-1), 1) := by decide +kernel
theorem dX8_hangError_17 : decode cX8_hangError 17 = .ok (.ireturn, 1) := by decide +kernel
theorem dX8_hangError_18 : decode cX8_hangError 18 = .ok (.aload_n 0, 1) := by decide +kernel
theorem dX8_hangError_19 : decode cX8_hangError 19 = .ok (.iload_n 1, 1) := by decide +kernel
theorem dX8_hangError_20 : decode cX8_hangError 20 = .ok (.invokevirtual 87, 3) := by decide +kernel
theorem dX8_hangError_23 : decode cX8_hangError 23 = .ok (.ifCond .ne 30, 3) := by decide +kernel
theorem dX8_hangError_26 : decode cX8_hangError 26 = .ok (.aload_n 0, 1) := by decide +kernel
theorem dX8_hangError_27 : decode cX8_hangError 27 = .ok (.aload_n 0, 1) := by decide +kernel
theorem dX8_hangError_28 : decode cX8_hangError 28 = .ok (.iload_n 1, 1) := by decide +kernel
theorem dX8_hangError_29 : decode cX8_hangError 29 = .ok (.iconst 0, 1) := by decide +kernel
theorem dX8_hangError_30 : decode cX8_hangError 30 = .ok (.invokevirtual 84, 3) := by decide +kernel
theorem dX8_hangError_33 : decode cX8_hangError 33 = .ok (.iconst 2, 1) := by decide +kernel
theorem dX8_hangError_34 : decode cX8_hangError 34 = .ok (.invokevirtual 69, 3) := by decide +kernel
theorem dX8_hangError_37 : decode cX8_hangError 37 = .ok (.ifCond .ne 16, 3) := by decide +kernel
theorem dX8_hangError_40 : decode cX8_hangError 40 = .ok (.aload_n 0, 1) := by decide +kernel
theorem dX8_hangError_41 : decode cX8_hangError 41 = .ok (.iload_n 1, 1) := by decide +kernel
theorem dX8_hangError_42 : decode cX8_hangError 42 = .ok (.iload_n 2, 1) := by decide +kernel
theorem dX8_hangError_43 : decode cX8_hangError 43 = .ok (.invokevirtual 125, 3) := by decide +kernel
theorem dX8_hangError_46 : decode cX8_hangError 46 = .ok (.ifCond .eq 7, 3) := by decide +kernel
theorem dX8_hangError_49 : decode cX8_hangError 49 = .ok (.iconst 1, 1) := by decide +kernel
theorem dX8_hangError_50 : decode cX8_hangError 50 = .ok (.goto 4, 3) := by decide +kernel
theorem dX8_hangError_53 : decode cX8_hangError 53 = .ok (.iconst 0, 1) := by decide +kernel
theorem dX8_hangError_54 : decode cX8_hangError 54 = .ok (.istore_n 3, 1) := by decide +kernel
theorem dX8_hangError_55 : decode cX8_hangError 55 = .ok (.iload_n 3, 1) := by decide +kernel
theorem dX8_hangError_56 : decode cX8_hangError 56 = .ok (.ifCond .eq 7, 3) := by decide +kernel
theorem dX8_hangError_59 : decode cX8_hangError 59 = .ok (.iconst 0, 1) := by decide +kernel
theorem dX8_hangError_60 : decode cX8_hangError 60 = .ok (.goto 5, 3) := by decide +kernel
theorem dX8_hangError_63 : decode cX8_hangError 63 = .ok (.bipush (-4), 2) := by decide +kernel
theorem dX8_hangError_65 : decode cX8_hangError 65 = .ok (.ireturn, 1) := by decide +kernel
theorem dX8_hangs_0 : decode cX8_hangs 0 = .ok (.aload_n 0, 1) := by decide +kernel
theorem dX8_hangs_1 : decode cX8_hangs 1 = .ok (.iload_n 1, 1) := by decide +kernel
theorem dX8_hangs_2 : decode cX8_hangs 2 = .ok (.iconst 0, 1) := by decide +kernel
theorem dX8_hangs_3 : decode cX8_hangs 3 = .ok (.invokevirtual 84, 3) := by decide +kernel
theorem dX8_hangs_6 : decode cX8_hangs 6 = .ok (.istore_n 3, 1) := by decide +kernel
theorem dX8_hangs_7 : decode cX8_hangs 7 = .ok (.aload_n 0, 1) := by decide +kernel
theorem dX8_hangs_8 : decode cX8_hangs 8 = .ok (.iload_n 3, 1) := by decide +kernel
theorem dX8_hangs_9 : decode cX8_hangs 9 = .ok (.iconst 4, 1) := by decide +kernel
theorem dX8_hangs_10 : decode cX8_hangs 10 = .ok (.invokevirtual 69, 3) := by decide +kernel
theorem dX8_hangs_13 : decode cX8_hangs 13 = .ok (.istore 4, 2) := by decide +kernel
theorem dX8_hangs_15 : decode cX8_hangs 15 = .ok (.aload_n 0, 1) := by decide +kernel
theorem dX8_hangs_16 : decode cX8_hangs 16 = .ok (.getfield 7, 3) := by decide +kernel
theorem dX8_hangs_19 : decode cX8_hangs 19 = .ok (.bipush 44, 2) := by decide +kernel
theorem dX8_hangs_21 : decode cX8_hangs 21 = .ok (.bipush 24, 2) := by decide +kernel
theorem dX8_hangs_23 : decode cX8_hangs 23 = .ok (.iload_n 3, 1) := by decide +kernel
theorem dX8_hangs_24 : decode cX8_hangs 24 = .ok (.imul, 1) := by decide +kernel
theorem dX8_hangs_25 : decode cX8_hangs 25 = .ok (.iadd, 1) := by decide +kernel
theorem dX8_hangs_26 : decode cX8_hangs 26 = .ok (.iload 4, 2) := by decide +kernel
theorem dX8_hangs_28 : decode cX8_hangs 28 = .ok (.iadd, 1) := by decide +kernel
theorem dX8_hangs_29 : decode cX8_hangs 29 = .ok (.iload_n 1, 1) := by decide +kernel
theorem dX8_hangs_30 : decode cX8_hangs 30 = .ok (.iastore, 1) := by decide +kernel
theorem dX8_hangs_31 : decode cX8_hangs 31 = .ok (.aload_n 0, 1) := by decide +kernel
theorem dX8_hangs_32 : decode cX8_hangs 32 = .ok (.iload_n 3, 1) := by decide +kernel
theorem dX8_hangs_33 : decode cX8_hangs 33 = .ok (.iconst 4, 1) := by decide +kernel
theorem dX8_hangs_34 : decode cX8_hangs 34 = .ok (.iload 4, 2) := by decide +kernel
theorem dX8_hangs_36 : decode cX8_hangs 36 = .ok (.iconst 1, 1) := by decide +kernel
theorem dX8_hangs_37 : decode cX8_hangs 37 = .ok (.iadd, 1) := by decide +kernel
theorem dX8_hangs_38 : decode cX8_hangs 38 = .ok (.invokevirtual 61, 3) := by decide +kernel
theorem dX8_hangs_41 : decode cX8_hangs 41 = .ok (.aload_n 0, 1) := by decide +kernel
theorem dX8_hangs_42 : decode cX8_hangs 42 = .ok (.iload_n 1, 1) := by decide +kernel
theorem dX8_hangs_43 : decode cX8_hangs 43 = .ok (.bipush 6, 2) := by decide +kernel
theorem dX8_hangs_45 : decode cX8_hangs 45 = .ok (.iconst 1, 1) := by decide +kernel
theorem dX8_hangs_46 : decode cX8_hangs 46 = .ok (.invokevirtual 81, 3) := by decide +kernel
theorem dX8_hangs_49 : decode cX8_hangs 49 = .ok (.aload_n 0, 1) := by decide +kernel
theorem dX8_hangs_50 : decode cX8_hangs 50 = .ok (.iload_n 1, 1) := by decide +kernel
theorem dX8_hangs_51 : decode cX8_hangs 51 = .ok (.bipush 7, 2) := by decide +kernel
theorem dX8_hangs_53 : decode cX8_hangs 53 = .ok (.iload_n 2, 1) := by decide +kernel
theorem dX8_hangs_54 : decode cX8_hangs 54 = .ok (.invokevirtual 81, 3) := by decide +kernel
theorem dX8_hangs_57 : decode cX8_hangs 57 = .ok (.iload 4, 2) := by decide +kernel
theorem dX8_hangs_59 : decode cX8_hangs 59 = .ok (.iconst 1, 1) := by decide +kernel
theorem dX8_hangs_60 : decode cX8_hangs 60 = .ok (.iadd, 1) := by decide +kernel
theorem dX8_hangs_61 : decode cX8_hangs 61 = .ok (.ireturn, 1) := by decide +kernel
theorem dX8_hang_0 : decode cX8_hang 0 = .ok (.aload_n 0, 1) := by decide +kernel
theorem dX8_hang_1 : decode cX8_hang 1 = .ok (.iload_n 1, 1) := by decide +kernel
theorem dX8_hang_2 : decode cX8_hang 2 = .ok (.iload_n 2, 1) := by decide +kernel
theorem dX8_hang_3 : decode cX8_hang 3 = .ok (.invokevirtual 128, 3) := by decide +kernel
theorem dX8_hang_6 : decode cX8_hang 6 = .ok (.istore_n 3, 1) := by decide +kernel
theorem dX8_hang_7 : decode cX8_hang 7 = .ok (.iload_n 3, 1) := by decide +kernel
theorem dX8_hang_8 : decode cX8_hang 8 = .ok (.ifCond .eq 5, 3) := by decide +kernel
theorem dX8_hang_11 : decode cX8_hang 11 = .ok (.iload_n 3, 1) := by decide +kernel
theorem dX8_hang_12 : decode cX8_hang 12 = .ok (.ireturn, 1) := by decide +kernel
theorem dX8_hang_13 : decode cX8_hang 13 = .ok (.aload_n 0, 1) := by decide +kernel
theorem dX8_hang_14 : decode cX8_hang 14 = .ok (.invokevirtual 58, 3) := by decide +kernel
theorem dX8_hang_17 : decode cX8_hang 17 = .ok (.aload_n 0, 1) := by decide +kernel
theorem dX8_hang_18 : decode cX8_hang 18 = .ok (.iload_n 1, 1) := by decide +kernel
theorem dX8_hang_19 : decode cX8_hang 19 = .ok (.iload_n 2, 1) := by decide +kernel
theorem dX8_hang_20 : decode cX8_hang 20 = .ok (.invokevirtual 131, 3) := by decide +kernel
theorem dX8_hang_23 : decode cX8_hang 23 = .ok (.ireturn, 1) := by decide +kernel
theorem dX8_beginError_0 : decode cX8_beginError 0 = .ok (.aload_n 0, 1) := by decide +kernel
theorem dX8_beginError_1 : decode cX8_beginError 1 = .ok (.iload_n 1, 1) := by decide +kernel
theorem dX8_beginError_2 : decode cX8_beginError 2 = .ok (.invokevirtual 119, 3) := by decide +kernel
theorem dX8_beginError_5 : decode cX8_beginError 5 = .ok (.ifCond .ne 5, 3) := by decide +kernel
theorem dX8_beginError_8 : decode cX8_beginError 8 = .ok (.iconst (-1), 1) := by decide +kernel
theorem dX8_beginError_9 : decode cX8_beginError 9 = .ok (.ireturn, 1) := by decide +kernel
theorem dX8_beginError_10 : decode cX8_beginError 10 = .ok (.aload_n 0, 1) := by decide +kernel
theorem dX8_beginError_11 : decode cX8_beginError 11 = .ok (.iload_n 1, 1) := by decide +kernel
theorem dX8_beginError_12 : decode cX8_beginError 12 = .ok (.invokevirtual 134, 3) := by decide +kernel
theorem dX8_beginError_15 : decode cX8_beginError 15 = .ok (.ifCond .ne 7, 3) := by decide +kernel
theorem dX8_beginError_18 : decode cX8_beginError 18 = .ok (.iconst 0, 1) := by decide +kernel
theorem dX8_beginError_19 : decode cX8_beginError 19 = .ok (.goto 5, 3) := by decide +kernel
theorem dX8_beginError_22 : decode cX8_beginError 22 = .ok (.bipush (-4), 2) := by decide +kernel
theorem dX8_beginError_24 : decode cX8_beginError 24 = .ok (.ireturn, 1) := by decide +kernel
theorem dX8_begins_0 : decode cX8_begins 0 = .ok (.aload_n 0, 1) := by decide +kernel
theorem dX8_begins_1 : decode cX8_begins 1 = .ok (.iload_n 1, 1) := by decide +kernel
theorem dX8_begins_2 : decode cX8_begins 2 = .ok (.bipush 6, 2) := by decide +kernel
theorem dX8_begins_4 : decode cX8_begins 4 = .ok (.iconst 2, 1) := by decide +kernel
theorem dX8_begins_5 : decode cX8_begins 5 = .ok (.invokevirtual 81, 3) := by decide +kernel
theorem dX8_begins_8 : decode cX8_begins 8 = .ok (.aload_n 0, 1) := by decide +kernel
theorem dX8_begins_9 : decode cX8_begins 9 = .ok (.iload_n 1, 1) := by decide +kernel
theorem dX8_begins_10 : decode cX8_begins 10 = .ok (.bipush 8, 2) := by decide +kernel
theorem dX8_begins_12 : decode cX8_begins 12 = .ok (.aload_n 0, 1) := by decide +kernel
theorem dX8_begins_13 : decode cX8_begins 13 = .ok (.iload_n 1, 1) := by decide +kernel
theorem dX8_begins_14 : decode cX8_begins 14 = .ok (.iconst 4, 1) := by decide +kernel
theorem dX8_begins_15 : decode cX8_begins 15 = .ok (.invokevirtual 84, 3) := by decide +kernel
theorem dX8_begins_18 : decode cX8_begins 18 = .ok (.invokevirtual 81, 3) := by decide +kernel
theorem dX8_begins_21 : decode cX8_begins 21 = .ok (.aload_n 0, 1) := by decide +kernel
theorem dX8_begins_22 : decode cX8_begins 22 = .ok (.getfield 7, 3) := by decide +kernel
theorem dX8_begins_25 : decode cX8_begins 25 = .ok (.iconst 0, 1) := by decide +kernel
theorem dX8_begins_26 : decode cX8_begins 26 = .ok (.iaload, 1) := by decide +kernel
theorem dX8_begins_27 : decode cX8_begins 27 = .ok (.aload_n 0, 1) := by decide +kernel
theorem dX8_begins_28 : decode cX8_begins 28 = .ok (.iload_n 1, 1) := by decide +kernel
theorem dX8_begins_29 : decode cX8_begins 29 = .ok (.iconst 4, 1) := by decide +kernel
theorem dX8_begins_30 : decode cX8_begins 30 = .ok (.invokevirtual 84, 3) := by decide +kernel
theorem dX8_begins_33 : decode cX8_begins 33 = .ok (.iadd, 1) := by decide +kernel
theorem dX8_begins_34 : decode cX8_begins 34 = .ok (.ireturn, 1) := by decide +kernel
theorem dX8_begin_0 : decode cX8_begin 0 = .ok (.aload_n 0, 1) := by decide +kernel
theorem dX8_begin_1 : decode cX8_begin 1 = .ok (.iload_n 1, 1) := by decide +kernel
theorem dX8_begin_2 : decode cX8_begin 2 = .ok (.invokevirtual 137, 3) := by decide +kernel
theorem dX8_begin_5 : decode cX8_begin 5 = .ok (.istore_n 2, 1) := by decide +kernel
theorem dX8_begin_6 : decode cX8_begin 6 = .ok (.iload_n 2, 1) := by decide +kernel
theorem dX8_begin_7 : decode cX8_begin 7 = .ok (.ifCond .eq 5, 3) := by decide +kernel
theorem dX8_begin_10 : decode cX8_begin 10 = .ok (.iload_n 2, 1) := by decide +kernel
theorem dX8_begin_11 : decode cX8_begin 11 = .ok (.ireturn, 1) := by decide +kernel
theorem dX8_begin_12 : decode cX8_begin 12 = .ok (.aload_n 0, 1) := by decide +kernel
theorem dX8_begin_13 : decode cX8_begin 13 = .ok (.invokevirtual 58, 3) := by decide +kernel
theorem dX8_begin_16 : decode cX8_begin 16 = .ok (.aload_n 0, 1) := by decide +kernel
theorem dX8_begin_17 : decode cX8_begin 17 = .ok (.iload_n 1, 1) := by decide +kernel
theorem dX8_begin_18 : decode cX8_begin 18 = .ok (.invokevirtual 140, 3) := by decide +kernel
theorem dX8_begin_21 : decode cX8_begin 21 = .ok (.ireturn, 1) := by decide +kernel
theorem dX8_topOf_0 : decode cX8_topOf 0 = .ok (.aload_n 0, 1) := by decide +kernel
theorem dX8_topOf_1 : decode cX8_topOf 1 = .ok (.iload_n 1, 1) := by decide +kernel
theorem dX8_topOf_2 : decode cX8_topOf 2 = .ok (.iconst 4, 1) := by decide +kernel
theorem dX8_topOf_3 : decode cX8_topOf 3 = .ok (.invokevirtual 69, 3) := by decide +kernel
theorem dX8_topOf_6 : decode cX8_topOf 6 = .ok (.istore_n 2, 1) := by decide +kernel
theorem dX8_topOf_7 : decode cX8_topOf 7 = .ok (.iload_n 2, 1) := by decide +kernel
theorem dX8_topOf_8 : decode cX8_topOf 8 = .ok (.ifCond .ne 8, 3) := by decide +kernel
theorem dX8_topOf_11 : decode cX8_topOf 11 = .ok (.bipush (-5), 2) := by decide +kernel
theorem dX8_topOf_13 : decode cX8_topOf 13 = .ok (.goto 19, 3) := by decide +kernel
theorem dX8_topOf_16 : decode cX8_topOf 16 = .ok (.aload_n 0, 1) := by decide +kernel
theorem dX8_topOf_17 : decode cX8_topOf 17 = .ok (.getfield 7, 3) := by decide +kernel
theorem dX8_topOf_20 : decode cX8_topOf 20 = .ok (.bipush 44, 2) := by decide +kernel
theorem dX8_topOf_22 : decode cX8_topOf 22 = .ok (.bipush 24, 2) := by decide +kernel
theorem dX8_topOf_24 : decode cX8_topOf 24 = .ok (.iload_n 1, 1) := by decide +kernel
theorem dX8_topOf_25 : decode cX8_topOf 25 = .ok (.imul, 1) := by decide +kernel
theorem dX8_topOf_26 : decode cX8_topOf 26 = .ok (.iadd, 1) := by decide +kernel
theorem dX8_topOf_27 : decode cX8_topOf 27 = .ok (.iload_n 2, 1) := by decide +kernel
theorem dX8_topOf_28 : decode cX8_topOf 28 = .ok (.iadd, 1) := by decide +kernel
theorem dX8_topOf_29 : decode cX8_topOf 29 = .ok (.iconst 1, 1) := by decide +kernel
theorem dX8_topOf_30 : decode cX8_topOf 30 = .ok (.isub, 1) := by decide +kernel
theorem dX8_topOf_31 : decode cX8_topOf 31 = .ok (.iaload, 1) := by decide +kernel
theorem dX8_topOf_32 : decode cX8_topOf 32 = .ok (.ireturn, 1) := by decide +kernel
theorem dX8_liftError_0 : decode cX8_liftError 0 = .ok (.aload_n 0, 1) := by decide +kernel
theorem dX8_liftError_1 : decode cX8_liftError 1 = .ok (.iload_n 1, 1) := by decide +kernel
theorem dX8_liftError_2 : decode cX8_liftError 2 = .ok (.invokevirtual 119, 3) := by decide +kernel
theorem dX8_liftError_5 : decode cX8_liftError 5 = .ok (.ifCond .eq 11, 3) := by decide +kernel
theorem dX8_liftError_8 : decode cX8_liftError 8 = .ok (.aload_n 0, 1) := by decide +kernel
theorem dX8_liftError_9 : decode cX8_liftError 9 = .ok (.iload_n 2, 1) := by decide +kernel
theorem dX8_liftError_10 : decode cX8_liftError 10 = .ok (.invokevirtual 122, 3) := by decide +kernel
theorem dX8_liftError_13 : decode cX8_liftError 13 = .ok (.ifCond .ne 5, 3) := by decide +kernel
theorem dX8_liftError_16 : decode cX8_liftError 16 = .ok (.iconst (-1), 1) := by decide +kernel
theorem dX8_liftError_17 : decode cX8_liftError 17 = .ok (.ireturn, 1) := by decide +kernel
theorem dX8_liftError_18 : decode cX8_liftError 18 = .ok (.aload_n 0, 1) := by decide +kernel
theorem dX8_liftError_19 : decode cX8_liftError 19 = .ok (.iload_n 1, 1) := by decide +kernel
theorem dX8_liftError_20 : decode cX8_liftError 20 = .ok (.invokevirtual 87, 3) := by decide +kernel
theorem dX8_liftError_23 : decode cX8_liftError 23 = .ok (.iconst 1, 1) := by decide +kernel
theorem dX8_liftError_24 : decode cX8_liftError 24 = .ok (.if_icmp .eq 12, 3) := by decide +kernel
theorem dX8_liftError_27 : decode cX8_liftError 27 = .ok (.aload_n 0, 1) := by decide +kernel
theorem dX8_liftError_28 : decode cX8_liftError 28 = .ok (.iload_n 1, 1) := by decide +kernel
theorem dX8_liftError_29 : decode cX8_liftError 29 = .ok (.invokevirtual 87, 3) := by decide +kernel
theorem dX8_liftError_32 : decode cX8_liftError 32 = .ok (.iconst 3, 1) := by decide +kernel
theorem dX8_liftError_33 : decode cX8_liftError 33 = .ok (.if_icmp .ne 7, 3) := by decide +kernel
theorem dX8_liftError_36 : decode cX8_liftError 36 = .ok (.iconst 1, 1) := by decide +kernel
theorem dX8_liftError_37 : decode cX8_liftError 37 = .ok (.goto 4, 3) := by decide +kernel
theorem dX8_liftError_40 : decode cX8_liftError 40 = .ok (.iconst 0, 1) := by decide +kernel
theorem dX8_liftError_41 : decode cX8_liftError 41 = .ok (.istore_n 3, 1) := by decide +kernel
theorem dX8_liftError_42 : decode cX8_liftError 42 = .ok (.iload_n 3, 1) := by decide +kernel
theorem dX8_liftError_43 : decode cX8_liftError 43 = .ok (.ifCond .eq 32, 3) := by decide +kernel
theorem dX8_liftError_46 : decode cX8_liftError 46 = .ok (.aload_n 0, 1) := by decide +kernel
theorem dX8_liftError_47 : decode cX8_liftError 47 = .ok (.iload_n 1, 1) := by decide +kernel
theorem dX8_liftError_48 : decode cX8_liftError 48 = .ok (.bipush 7, 2) := by decide +kernel
theorem dX8_liftError_50 : decode cX8_liftError 50 = .ok (.invokevirtual 84, 3) := by decide +kernel
theorem dX8_liftError_53 : decode cX8_liftError 53 = .ok (.iload_n 2, 1) := by decide +kernel
theorem dX8_liftError_54 : decode cX8_liftError 54 = .ok (.if_icmp .ne 21, 3) := by decide +kernel
theorem dX8_liftError_57 : decode cX8_liftError 57 = .ok (.aload_n 0, 1) := by decide +kernel
theorem dX8_liftError_58 : decode cX8_liftError 58 = .ok (.aload_n 0, 1) := by decide +kernel
theorem dX8_liftError_59 : decode cX8_liftError 59 = .ok (.iload_n 1, 1) := by decide +kernel
theorem dX8_liftError_60 : decode cX8_liftError 60 = .ok (.iconst 0, 1) := by decide +kernel
theorem dX8_liftError_61 : decode cX8_liftError 61 = .ok (.invokevirtual 84, 3) := by decide +kernel
theorem dX8_liftError_64 : decode cX8_liftError 64 = .ok (.invokevirtual 143, 3) := by decide +kernel
theorem dX8_liftError_67 : decode cX8_liftError 67 = .ok (.iload_n 1, 1) := by decide +kernel
theorem dX8_liftError_68 : decode cX8_liftError 68 = .ok (.if_icmp .ne 7, 3) := by decide +kernel
theorem dX8_liftError_71 : decode cX8_liftError 71 = .ok (.iconst 0, 1) := by decide +kernel
theorem dX8_liftError_72 : decode cX8_liftError 72 = .ok (.goto 5, 3) := by decide +kernel
theorem dX8_liftError_75 : decode cX8_liftError 75 = .ok (.bipush (-4), 2) := by decide +kernel
theorem dX8_liftError_77 : decode cX8_liftError 77 = .ok (.ireturn, 1) := by decide +kernel
theorem dX8_lifts_0 : decode cX8_lifts 0 = .ok (.aload_n 0, 1) := by decide +kernel
theorem dX8_lifts_1 : decode cX8_lifts 1 = .ok (.iload_n 1, 1) := by decide +kernel
theorem dX8_lifts_2 : decode cX8_lifts 2 = .ok (.iconst 0, 1) := by decide +kernel
theorem dX8_lifts_3 : decode cX8_lifts 3 = .ok (.invokevirtual 84, 3) := by decide +kernel
theorem dX8_lifts_6 : decode cX8_lifts 6 = .ok (.istore_n 2, 1) := by decide +kernel
theorem dX8_lifts_7 : decode cX8_lifts 7 = .ok (.aload_n 0, 1) := by decide +kernel
theorem dX8_lifts_8 : decode cX8_lifts 8 = .ok (.iload_n 2, 1) := by decide +kernel
theorem dX8_lifts_9 : decode cX8_lifts 9 = .ok (.iconst 4, 1) := by decide +kernel
theorem dX8_lifts_10 : decode cX8_lifts 10 = .ok (.aload_n 0, 1) := by decide +kernel
theorem dX8_lifts_11 : decode cX8_lifts 11 = .ok (.iload_n 2, 1) := by decide +kernel
theorem dX8_lifts_12 : decode cX8_lifts 12 = .ok (.iconst 4, 1) := by decide +kernel
theorem dX8_lifts_13 : decode cX8_lifts 13 = .ok (.invokevirtual 69, 3) := by decide +kernel
theorem dX8_lifts_16 : decode cX8_lifts 16 = .ok (.iconst 1, 1) := by decide +kernel
theorem dX8_lifts_17 : decode cX8_lifts 17 = .ok (.isub, 1) := by decide +kernel
theorem dX8_lifts_18 : decode cX8_lifts 18 = .ok (.invokevirtual 61, 3) := by decide +kernel
theorem dX8_lifts_21 : decode cX8_lifts 21 = .ok (.aload_n 0, 1) := by decide +kernel
theorem dX8_lifts_22 : decode cX8_lifts 22 = .ok (.iload_n 1, 1) := by decide +kernel
theorem dX8_lifts_23 : decode cX8_lifts 23 = .ok (.invokevirtual 87, 3) := by decide +kernel
theorem dX8_lifts_26 : decode cX8_lifts 26 = .ok (.iconst 3, 1) := by decide +kernel
theorem dX8_lifts_27 : decode cX8_lifts 27 = .ok (.if_icmp .ne 14, 3) := by decide +kernel
theorem dX8_lifts_30 : decode cX8_lifts 30 = .ok (.aload_n 0, 1) := by decide +kernel
theorem dX8_lifts_31 : decode cX8_lifts 31 = .ok (.iload_n 1, 1) := by decide +kernel
theorem dX8_lifts_32 : decode cX8_lifts 32 = .ok (.bipush 6, 2) := by decide +kernel
theorem dX8_lifts_34 : decode cX8_lifts 34 = .ok (.iconst 4, 1) := by decide +kernel
theorem dX8_lifts_35 : decode cX8_lifts 35 = .ok (.invokevirtual 81, 3) := by decide +kernel
theorem dX8_lifts_38 : decode cX8_lifts 38 = .ok (.goto 20, 3) := by decide +kernel
theorem dX8_lifts_41 : decode cX8_lifts 41 = .ok (.aload_n 0, 1) := by decide +kernel
theorem dX8_lifts_42 : decode cX8_lifts 42 = .ok (.iload_n 1, 1) := by decide +kernel
theorem dX8_lifts_43 : decode cX8_lifts 43 = .ok (.bipush 6, 2) := by decide +kernel
theorem dX8_lifts_45 : decode cX8_lifts 45 = .ok (.iconst 0, 1) := by decide +kernel
theorem dX8_lifts_46 : decode cX8_lifts 46 = .ok (.invokevirtual 81, 3) := by decide +kernel
theorem dX8_lifts_49 : decode cX8_lifts 49 = .ok (.aload_n 0, 1) := by decide +kernel
theorem dX8_lifts_50 : decode cX8_lifts 50 = .ok (.iload_n 1, 1) := by decide +kernel
theorem dX8_lifts_51 : decode cX8_lifts 51 = .ok (.bipush 7, 2) := by decide +kernel
theorem dX8_lifts_53 : decode cX8_lifts 53 = .ok (.bipush (-5), 2) := by decide +kernel
theorem dX8_lifts_55 : decode cX8_lifts 55 = .ok (.invokevirtual 81, 3) := by decide +kernel
theorem dX8_lifts_58 : decode cX8_lifts 58 = .ok (.aload_n 0, 1) := by decide +kernel
theorem dX8_lifts_59 : decode cX8_lifts 59 = .ok (.iload_n 2, 1) := by decide +kernel
theorem dX8_lifts_60 : decode cX8_lifts 60 = .ok (.iconst 4, 1) := by decide +kernel
theorem dX8_lifts_61 : decode cX8_lifts 61 = .ok (.invokevirtual 69, 3) := by decide +kernel
theorem dX8_lifts_64 : decode cX8_lifts 64 = .ok (.ireturn, 1) := by decide +kernel
theorem dX8_lift_0 : decode cX8_lift 0 = .ok (.aload_n 0, 1) := by decide +kernel
theorem dX8_lift_1 : decode cX8_lift 1 = .ok (.iload_n 1, 1) := by decide +kernel
theorem dX8_lift_2 : decode cX8_lift 2 = .ok (.iload_n 2, 1) := by decide +kernel
theorem dX8_lift_3 : decode cX8_lift 3 = .ok (.invokevirtual 146, 3) := by decide +kernel
theorem dX8_lift_6 : decode cX8_lift 6 = .ok (.istore_n 3, 1) := by decide +kernel
theorem dX8_lift_7 : decode cX8_lift 7 = .ok (.iload_n 3, 1) := by decide +kernel
theorem dX8_lift_8 : decode cX8_lift 8 = .ok (.ifCond .eq 5, 3) := by decide +kernel
theorem dX8_lift_11 : decode cX8_lift 11 = .ok (.iload_n 3, 1) := by decide +kernel
theorem dX8_lift_12 : decode cX8_lift 12 = .ok (.ireturn, 1) := by decide +kernel
theorem dX8_lift_13 : decode cX8_lift 13 = .ok (.aload_n 0, 1) := by decide +kernel
theorem dX8_lift_14 : decode cX8_lift 14 = .ok (.invokevirtual 58, 3) := by decide +kernel
theorem dX8_lift_17 : decode cX8_lift 17 = .ok (.aload_n 0, 1) := by decide +kernel
theorem dX8_lift_18 : decode cX8_lift 18 = .ok (.iload_n 1, 1) := by decide +kernel
theorem dX8_lift_19 : decode cX8_lift 19 = .ok (.invokevirtual 149, 3) := by decide +kernel
theorem dX8_lift_22 : decode cX8_lift 22 = .ok (.ireturn, 1) := by decide +kernel
theorem dX8_cancel_0 : decode cX8_cancel 0 = .ok (.aload_n 0, 1) := by decide +kernel
theorem dX8_cancel_1 : decode cX8_cancel 1 = .ok (.iload_n 1, 1) := by decide +kernel
theorem dX8_cancel_2 : decode cX8_cancel 2 = .ok (.invokevirtual 119, 3) := by decide +kernel
theorem dX8_cancel_5 : decode cX8_cancel 5 = .ok (.ifCond .ne 5, 3) := by decide +kernel
theorem dX8_cancel_8 : decode cX8_cancel 8 = .ok (.iconst (-1), 1) := by decide +kernel
theorem dX8_cancel_9 : decode cX8_cancel 9 = .ok (.ireturn, 1) := by decide +kernel
theorem dX8_cancel_10 : decode cX8_cancel 10 = .ok (.aload_n 0, 1) := by decide +kernel
theorem dX8_cancel_11 : decode cX8_cancel 11 = .ok (.iload_n 1, 1) := by decide +kernel
theorem dX8_cancel_12 : decode cX8_cancel 12 = .ok (.invokevirtual 87, 3) := by decide +kernel
theorem dX8_cancel_15 : decode cX8_cancel 15 = .ok (.ifCond .eq 6, 3) := by decide +kernel
theorem dX8_cancel_18 : decode cX8_cancel 18 = .ok (.bipush (-4), 2) := by decide +kernel
theorem dX8_cancel_20 : decode cX8_cancel 20 = .ok (.ireturn, 1) := by decide +kernel
theorem dX8_cancel_21 : decode cX8_cancel 21 = .ok (.aload_n 0, 1) := by decide +kernel
theorem dX8_cancel_22 : decode cX8_cancel 22 = .ok (.invokevirtual 58, 3) := by decide +kernel
theorem dX8_cancel_25 : decode cX8_cancel 25 = .ok (.aload_n 0, 1) := by decide +kernel
theorem dX8_cancel_26 : decode cX8_cancel 26 = .ok (.iload_n 1, 1) := by decide +kernel
theorem dX8_cancel_27 : decode cX8_cancel 27 = .ok (.bipush 6, 2) := by decide +kernel
theorem dX8_cancel_29 : decode cX8_cancel 29 = .ok (.bipush 6, 2) := by decide +kernel
theorem dX8_cancel_31 : decode cX8_cancel 31 = .ok (.invokevirtual 81, 3) := by decide +kernel
theorem dX8_cancel_34 : decode cX8_cancel 34 = .ok (.aload_n 0, 1) := by decide +kernel
theorem dX8_cancel_35 : decode cX8_cancel 35 = .ok (.iload_n 1, 1) := by decide +kernel
theorem dX8_cancel_36 : decode cX8_cancel 36 = .ok (.bipush 9, 2) := by decide +kernel
theorem dX8_cancel_38 : decode cX8_cancel 38 = .ok (.invokevirtual 84, 3) := by decide +kernel
theorem dX8_cancel_41 : decode cX8_cancel 41 = .ok (.ireturn, 1) := by decide +kernel
theorem dX8_worn_0 : decode cX8_worn 0 = .ok (.aload_n 0, 1) := by decide +kernel
theorem dX8_worn_1 : decode cX8_worn 1 = .ok (.iload_n 1, 1) := by decide +kernel
theorem dX8_worn_2 : decode cX8_worn 2 = .ok (.iconst 1, 1) := by decide +kernel
theorem dX8_worn_3 : decode cX8_worn 3 = .ok (.invokevirtual 69, 3) := by decide +kernel
theorem dX8_worn_6 : decode cX8_worn 6 = .ok (.i2f, 1) := by decide +kernel
theorem dX8_worn_7 : decode cX8_worn 7 = .ok (.ldc 152, 2) := by decide +kernel
theorem dX8_worn_9 : decode cX8_worn 9 = .ok (.fdiv, 1) := by decide +kernel
theorem dX8_worn_10 : decode cX8_worn 10 = .ok (.fstore_n 3, 1) := by decide +kernel
theorem dX8_worn_11 : decode cX8_worn 11 = .ok (.fload_n 2, 1) := by decide +kernel
theorem dX8_worn_12 : decode cX8_worn 12 = .ok (.fload_n 2, 1) := by decide +kernel
theorem dX8_worn_13 : decode cX8_worn 13 = .ok (.fload_n 3, 1) := by decide +kernel
theorem dX8_worn_14 : decode cX8_worn 14 = .ok (.fmul, 1) := by decide +kernel
theorem dX8_worn_15 : decode cX8_worn 15 = .ok (.fsub, 1) := by decide +kernel
theorem dX8_worn_16 : decode cX8_worn 16 = .ok (.fstore 4, 2) := by decide +kernel
theorem dX8_worn_18 : decode cX8_worn 18 = .ok (.fload 4, 2) := by decide +kernel
theorem dX8_worn_20 : decode cX8_worn 20 = .ok (.ldc 153, 2) := by decide +kernel
theorem dX8_worn_22 : decode cX8_worn 22 = .ok (.fcmp .g, 1) := by decide +kernel
theorem dX8_worn_23 : decode cX8_worn 23 = .ok (.ifCond .ge 8, 3) := by decide +kernel
theorem dX8_worn_26 : decode cX8_worn 26 = .ok (.ldc 153, 2) := by decide +kernel
theorem dX8_worn_28 : decode cX8_worn 28 = .ok (.goto 5, 3) := by decide +kernel
theorem dX8_worn_31 : decode cX8_worn 31 = .ok (.fload 4, 2) := by decide +kernel
theorem dX8_worn_33 : decode cX8_worn 33 = .ok (.freturn, 1) := by decide +kernel
theorem dX8_runsHour_0 : decode cX8_runsHour 0 = .ok (.aload_n 0, 1) := by decide +kernel
theorem dX8_runsHour_1 : decode cX8_runsHour 1 = .ok (.getfield 17, 3) := by decide +kernel
theorem dX8_runsHour_4 : decode cX8_runsHour 4 = .ok (.iload_n 1, 1) := by decide +kernel
theorem dX8_runsHour_5 : decode cX8_runsHour 5 = .ok (.aload_n 0, 1) := by decide +kernel
theorem dX8_runsHour_6 : decode cX8_runsHour 6 = .ok (.getfield 17, 3) := by decide +kernel
theorem dX8_runsHour_9 : decode cX8_runsHour 9 = .ok (.iload_n 1, 1) := by decide +kernel
theorem dX8_runsHour_10 : decode cX8_runsHour 10 = .ok (.faload, 1) := by decide +kernel
theorem dX8_runsHour_11 : decode cX8_runsHour 11 = .ok (.aload_n 0, 1) := by decide +kernel
theorem dX8_runsHour_12 : decode cX8_runsHour 12 = .ok (.iload_n 1, 1) := by decide +kernel
theorem dX8_runsHour_13 : decode cX8_runsHour 13 = .ok (.iconst 0, 1) := by decide +kernel
theorem dX8_runsHour_14 : decode cX8_runsHour 14 = .ok (.invokevirtual 69, 3) := by decide +kernel
theorem dX8_runsHour_17 : decode cX8_runsHour 17 = .ok (.i2f, 1) := by decide +kernel
theorem dX8_runsHour_18 : decode cX8_runsHour 18 = .ok (.aload_n 0, 1) := by decide +kernel
theorem dX8_runsHour_19 : decode cX8_runsHour 19 = .ok (.getfield 13, 3) := by decide +kernel
theorem dX8_runsHour_22 : decode cX8_runsHour 22 = .ok (.iload_n 1, 1) := by decide +kernel
theorem dX8_runsHour_23 : decode cX8_runsHour 23 = .ok (.faload, 1) := by decide +kernel
theorem dX8_runsHour_24 : decode cX8_runsHour 24 = .ok (.fmul, 1) := by decide +kernel
theorem dX8_runsHour_25 : decode cX8_runsHour 25 = .ok (.fadd, 1) := by decide +kernel
theorem dX8_runsHour_26 : decode cX8_runsHour 26 = .ok (.fastore, 1) := by decide +kernel
theorem dX8_runsHour_27 : decode cX8_runsHour 27 = .ok (.aload_n 0, 1) := by decide +kernel
theorem dX8_runsHour_28 : decode cX8_runsHour 28 = .ok (.getfield 13, 3) := by decide +kernel
theorem dX8_runsHour_31 : decode cX8_runsHour 31 = .ok (.iload_n 1, 1) := by decide +kernel
theorem dX8_runsHour_32 : decode cX8_runsHour 32 = .ok (.aload_n 0, 1) := by decide +kernel
theorem dX8_runsHour_33 : decode cX8_runsHour 33 = .ok (.iload_n 1, 1) := by decide +kernel
theorem dX8_runsHour_34 : decode cX8_runsHour 34 = .ok (.aload_n 0, 1) := by decide +kernel
theorem dX8_runsHour_35 : decode cX8_runsHour 35 = .ok (.getfield 13, 3) := by decide +kernel
theorem dX8_runsHour_38 : decode cX8_runsHour 38 = .ok (.iload_n 1, 1) := by decide +kernel
theorem dX8_runsHour_39 : decode cX8_runsHour 39 = .ok (.faload, 1) := by decide +kernel
theorem dX8_runsHour_40 : decode cX8_runsHour 40 = .ok (.invokevirtual 154, 3) := by decide +kernel
theorem dX8_runsHour_43 : decode cX8_runsHour 43 = .ok (.fastore, 1) := by decide +kernel
theorem dX8_runsHour_44 : decode cX8_runsHour 44 = .ok (.return_, 1) := by decide +kernel
theorem dX8_slips_0 : decode cX8_slips 0 = .ok (.aload_n 0, 1) := by decide +kernel
theorem dX8_slips_1 : decode cX8_slips 1 = .ok (.iload_n 1, 1) := by decide +kernel
theorem dX8_slips_2 : decode cX8_slips 2 = .ok (.invokevirtual 87, 3) := by decide +kernel
theorem dX8_slips_5 : decode cX8_slips 5 = .ok (.ifCond .ne 25, 3) := by decide +kernel
theorem dX8_slips_8 : decode cX8_slips 8 = .ok (.aload_n 0, 1) := by decide +kernel
theorem dX8_slips_9 : decode cX8_slips 9 = .ok (.iload_n 1, 1) := by decide +kernel
theorem dX8_slips_10 : decode cX8_slips 10 = .ok (.bipush 9, 2) := by decide +kernel
theorem dX8_slips_12 : decode cX8_slips 12 = .ok (.invokevirtual 84, 3) := by decide +kernel
theorem dX8_slips_15 : decode cX8_slips 15 = .ok (.iconst 3, 1) := by decide +kernel
theorem dX8_slips_16 : decode cX8_slips 16 = .ok (.if_icmp .lt 14, 3) := by decide +kernel
theorem dX8_slips_19 : decode cX8_slips 19 = .ok (.aload_n 0, 1) := by decide +kernel
theorem dX8_slips_20 : decode cX8_slips 20 = .ok (.iload_n 1, 1) := by decide +kernel
theorem dX8_slips_21 : decode cX8_slips 21 = .ok (.bipush 6, 2) := by decide +kernel
theorem dX8_slips_23 : decode cX8_slips 23 = .ok (.iconst 5, 1) := by decide +kernel
theorem dX8_slips_24 : decode cX8_slips 24 = .ok (.invokevirtual 81, 3) := by decide +kernel
theorem dX8_slips_27 : decode cX8_slips 27 = .ok (.goto 34, 3) := by decide +kernel
theorem dX8_slips_30 : decode cX8_slips 30 = .ok (.aload_n 0, 1) := by decide +kernel
theorem dX8_slips_31 : decode cX8_slips 31 = .ok (.iload_n 1, 1) := by decide +kernel
theorem dX8_slips_32 : decode cX8_slips 32 = .ok (.iconst 5, 1) := by decide +kernel
theorem dX8_slips_33 : decode cX8_slips 33 = .ok (.aload_n 0, 1) := by decide +kernel
theorem dX8_slips_34 : decode cX8_slips 34 = .ok (.iload_n 1, 1) := by decide +kernel
theorem dX8_slips_35 : decode cX8_slips 35 = .ok (.iconst 5, 1) := by decide +kernel
theorem dX8_slips_36 : decode cX8_slips 36 = .ok (.invokevirtual 84, 3) := by decide +kernel
theorem dX8_slips_39 : decode cX8_slips 39 = .ok (.bipush 24, 2) := by decide +kernel
theorem dX8_slips_41 : decode cX8_slips 41 = .ok (.iadd, 1) := by decide +kernel
theorem dX8_slips_42 : decode cX8_slips 42 = .ok (.invokevirtual 81, 3) := by decide +kernel
theorem dX8_slips_45 : decode cX8_slips 45 = .ok (.aload_n 0, 1) := by decide +kernel
theorem dX8_slips_46 : decode cX8_slips 46 = .ok (.iload_n 1, 1) := by decide +kernel
theorem dX8_slips_47 : decode cX8_slips 47 = .ok (.bipush 9, 2) := by decide +kernel
theorem dX8_slips_49 : decode cX8_slips 49 = .ok (.aload_n 0, 1) := by decide +kernel
theorem dX8_slips_50 : decode cX8_slips 50 = .ok (.iload_n 1, 1) := by decide +kernel
theorem dX8_slips_51 : decode cX8_slips 51 = .ok (.bipush 9, 2) := by decide +kernel
theorem dX8_slips_53 : decode cX8_slips 53 = .ok (.invokevirtual 84, 3) := by decide +kernel
theorem dX8_slips_56 : decode cX8_slips 56 = .ok (.iconst 1, 1) := by decide +kernel
theorem dX8_slips_57 : decode cX8_slips 57 = .ok (.iadd, 1) := by decide +kernel
theorem dX8_slips_58 : decode cX8_slips 58 = .ok (.invokevirtual 81, 3) := by decide +kernel
theorem dX8_slips_61 : decode cX8_slips 61 = .ok (.return_, 1) := by decide +kernel
theorem dX8_passesHour_0 : decode cX8_passesHour 0 = .ok (.iconst 0, 1) := by decide +kernel
theorem dX8_passesHour_1 : decode cX8_passesHour 1 = .ok (.istore_n 1, 1) := by decide +kernel
theorem dX8_passesHour_2 : decode cX8_passesHour 2 = .ok (.iconst 0, 1) := by decide +kernel
theorem dX8_passesHour_3 : decode cX8_passesHour 3 = .ok (.istore_n 2, 1) := by decide +kernel
theorem dX8_passesHour_4 : decode cX8_passesHour 4 = .ok (.iload_n 2, 1) := by decide +kernel
theorem dX8_passesHour_5 : decode cX8_passesHour 5 = .ok (.aload_n 0, 1) := by decide +kernel
theorem dX8_passesHour_6 : decode cX8_passesHour 6 = .ok (.getfield 7, 3) := by decide +kernel
theorem dX8_passesHour_9 : decode cX8_passesHour 9 = .ok (.iconst 1, 1) := by decide +kernel
theorem dX8_passesHour_10 : decode cX8_passesHour 10 = .ok (.iaload, 1) := by decide +kernel
theorem dX8_passesHour_11 : decode cX8_passesHour 11 = .ok (.if_icmp .ge 24, 3) := by decide +kernel
theorem dX8_passesHour_14 : decode cX8_passesHour 14 = .ok (.aload_n 0, 1) := by decide +kernel
theorem dX8_passesHour_15 : decode cX8_passesHour 15 = .ok (.iload_n 2, 1) := by decide +kernel
theorem dX8_passesHour_16 : decode cX8_passesHour 16 = .ok (.iconst 2, 1) := by decide +kernel
theorem dX8_passesHour_17 : decode cX8_passesHour 17 = .ok (.invokevirtual 69, 3) := by decide +kernel
theorem dX8_passesHour_20 : decode cX8_passesHour 20 = .ok (.iconst 1, 1) := by decide +kernel
theorem dX8_passesHour_21 : decode cX8_passesHour 21 = .ok (.if_icmp .ne 8, 3) := by decide +kernel
theorem dX8_passesHour_24 : decode cX8_passesHour 24 = .ok (.aload_n 0, 1) := by decide +kernel
theorem dX8_passesHour_25 : decode cX8_passesHour 25 = .ok (.iload_n 2, 1) := by decide +kernel
theorem dX8_passesHour_26 : decode cX8_passesHour 26 = .ok (.invokevirtual 158, 3) := by decide +kernel
theorem dX8_passesHour_29 : decode cX8_passesHour 29 = .ok (.iinc 2 1, 3) := by decide +kernel
theorem dX8_passesHour_32 : decode cX8_passesHour 32 = .ok (.goto (-28), 3) := by decide +kernel
theorem dX8_passesHour_35 : decode cX8_passesHour 35 = .ok (.iconst 0, 1) := by decide +kernel
theorem dX8_passesHour_36 : decode cX8_passesHour 36 = .ok (.istore_n 2, 1) := by decide +kernel
theorem dX8_passesHour_37 : decode cX8_passesHour 37 = .ok (.iload_n 2, 1) := by decide +kernel
theorem dX8_passesHour_38 : decode cX8_passesHour 38 = .ok (.aload_n 0, 1) := by decide +kernel
theorem dX8_passesHour_39 : decode cX8_passesHour 39 = .ok (.getfield 7, 3) := by decide +kernel
theorem dX8_passesHour_42 : decode cX8_passesHour 42 = .ok (.iconst 3, 1) := by decide +kernel
theorem dX8_passesHour_43 : decode cX8_passesHour 43 = .ok (.iaload, 1) := by decide +kernel
theorem dX8_passesHour_44 : decode cX8_passesHour 44 = .ok (.if_icmp .ge 86, 3) := by decide +kernel
theorem dX8_passesHour_47 : decode cX8_passesHour 47 = .ok (.aload_n 0, 1) := by decide +kernel
theorem dX8_passesHour_48 : decode cX8_passesHour 48 = .ok (.iload_n 2, 1) := by decide +kernel
theorem dX8_passesHour_49 : decode cX8_passesHour 49 = .ok (.invokevirtual 87, 3) := by decide +kernel
theorem dX8_passesHour_52 : decode cX8_passesHour 52 = .ok (.iconst 2, 1) := by decide +kernel
theorem dX8_passesHour_53 : decode cX8_passesHour 53 = .ok (.if_icmp .ne 71, 3) := by decide +kernel
theorem dX8_passesHour_56 : decode cX8_passesHour 56 = .ok (.aload_n 0, 1) := by decide +kernel
theorem dX8_passesHour_57 : decode cX8_passesHour 57 = .ok (.iload_n 2, 1) := by decide +kernel
theorem dX8_passesHour_58 : decode cX8_passesHour 58 = .ok (.bipush 8, 2) := by decide +kernel
theorem dX8_passesHour_60 : decode cX8_passesHour 60 = .ok (.aload_n 0, 1) := by decide +kernel
theorem dX8_passesHour_61 : decode cX8_passesHour 61 = .ok (.iload_n 2, 1) := by decide +kernel
theorem dX8_passesHour_62 : decode cX8_passesHour 62 = .ok (.bipush 8, 2) := by decide +kernel
theorem dX8_passesHour_64 : decode cX8_passesHour 64 = .ok (.invokevirtual 84, 3) := by decide +kernel
theorem dX8_passesHour_67 : decode cX8_passesHour 67 = .ok (.iconst 1, 1) := by decide +kernel
theorem dX8_passesHour_68 : decode cX8_passesHour 68 = .ok (.isub, 1) := by decide +kernel
theorem dX8_passesHour_69 : decode cX8_passesHour 69 = .ok (.invokevirtual 81, 3) := by decide +kernel
theorem dX8_passesHour_72 : decode cX8_passesHour 72 = .ok (.aload_n 0, 1) := by decide +kernel
theorem dX8_passesHour_73 : decode cX8_passesHour 73 = .ok (.iload_n 2, 1) := by decide +kernel
theorem dX8_passesHour_74 : decode cX8_passesHour 74 = .ok (.bipush 8, 2) := by decide +kernel
theorem dX8_passesHour_76 : decode cX8_passesHour 76 = .ok (.invokevirtual 84, 3) := by decide +kernel
theorem dX8_passesHour_79 : decode cX8_passesHour 79 = .ok (.ifCond .ne 45, 3) := by decide +kernel
theorem dX8_passesHour_82 : decode cX8_passesHour 82 = .ok (.aload_n 0, 1) := by decide +kernel
theorem dX8_passesHour_83 : decode cX8_passesHour 83 = .ok (.iload_n 2, 1) := by decide +kernel
theorem dX8_passesHour_84 : decode cX8_passesHour 84 = .ok (.iconst 0, 1) := by decide +kernel
theorem dX8_passesHour_85 : decode cX8_passesHour 85 = .ok (.invokevirtual 84, 3) := by decide +kernel
theorem dX8_passesHour_88 : decode cX8_passesHour 88 = .ok (.istore_n 3, 1) := by decide +kernel
theorem dX8_passesHour_89 : decode cX8_passesHour 89 = .ok (.aload_n 0, 1) := by decide +kernel
theorem dX8_passesHour_90 : decode cX8_passesHour 90 = .ok (.iload_n 2, 1) := by decide +kernel
theorem dX8_passesHour_91 : decode cX8_passesHour 91 = .ok (.bipush 6, 2) := by decide +kernel
theorem dX8_passesHour_93 : decode cX8_passesHour 93 = .ok (.iconst 3, 1) := by decide +kernel
theorem dX8_passesHour_94 : decode cX8_passesHour 94 = .ok (.invokevirtual 81, 3) := by decide +kernel
theorem dX8_passesHour_97 : decode cX8_passesHour 97 = .ok (.aload_n 0, 1) := by decide +kernel
theorem dX8_passesHour_98 : decode cX8_passesHour 98 = .ok (.getfield 13, 3) := by decide +kernel
theorem dX8_passesHour_101 : decode cX8_passesHour 101 = .ok (.iload_n 3, 1) := by decide +kernel
theorem dX8_passesHour_102 : decode cX8_passesHour 102 = .ok (.aload_n 0, 1) := by decide +kernel
theorem dX8_passesHour_103 : decode cX8_passesHour 103 = .ok (.getfield 13, 3) := by decide +kernel
theorem dX8_passesHour_106 : decode cX8_passesHour 106 = .ok (.iload_n 3, 1) := by decide +kernel
theorem dX8_passesHour_107 : decode cX8_passesHour 107 = .ok (.faload, 1) := by decide +kernel
theorem dX8_passesHour_108 : decode cX8_passesHour 108 = .ok (.fconst 1, 1) := by decide +kernel
theorem dX8_passesHour_109 : decode cX8_passesHour 109 = .ok (.aload_n 0, 1) := by decide +kernel
theorem dX8_passesHour_110 : decode cX8_passesHour 110 = .ok (.getfield 13, 3) := by decide +kernel
theorem dX8_passesHour_113 : decode cX8_passesHour 113 = .ok (.iload_n 3, 1) := by decide +kernel
theorem dX8_passesHour_114 : decode cX8_passesHour 114 = .ok (.faload, 1) := by decide +kernel
theorem dX8_passesHour_115 : decode cX8_passesHour 115 = .ok (.fsub, 1) := by decide +kernel
theorem dX8_passesHour_116 : decode cX8_passesHour 116 = .ok (.ldc 161, 2) := by decide +kernel
theorem dX8_passesHour_118 : decode cX8_passesHour 118 = .ok (.fmul, 1) := by decide +kernel
theorem dX8_passesHour_119 : decode cX8_passesHour 119 = .ok (.fadd, 1) := by decide +kernel
theorem dX8_passesHour_120 : decode cX8_passesHour 120 = .ok (.fastore, 1) := by decide +kernel
theorem dX8_passesHour_121 : decode cX8_passesHour 121 = .ok (.iinc 1 1, 3) := by decide +kernel
theorem dX8_passesHour_124 : decode cX8_passesHour 124 = .ok (.iinc 2 1, 3) := by decide +kernel
theorem dX8_passesHour_127 : decode cX8_passesHour 127 = .ok (.goto (-90), 3) := by decide +kernel
theorem dX8_passesHour_130 : decode cX8_passesHour 130 = .ok (.aload_n 0, 1) := by decide +kernel
theorem dX8_passesHour_131 : decode cX8_passesHour 131 = .ok (.getfield 7, 3) := by decide +kernel
theorem dX8_passesHour_134 : decode cX8_passesHour 134 = .ok (.iconst 0, 1) := by decide +kernel
theorem dX8_passesHour_135 : decode cX8_passesHour 135 = .ok (.dup2, 1) := by decide +kernel
theorem dX8_passesHour_136 : decode cX8_passesHour 136 = .ok (.iaload, 1) := by decide +kernel
theorem dX8_passesHour_137 : decode cX8_passesHour 137 = .ok (.iconst 1, 1) := by decide +kernel
theorem dX8_passesHour_138 : decode cX8_passesHour 138 = .ok (.iadd, 1) := by decide +kernel
theorem dX8_passesHour_139 : decode cX8_passesHour 139 = .ok (.iastore, 1) := by decide +kernel
theorem dX8_passesHour_140 : decode cX8_passesHour 140 = .ok (.iconst 0, 1) := by decide +kernel
theorem dX8_passesHour_141 : decode cX8_passesHour 141 = .ok (.istore_n 2, 1) := by decide +kernel
theorem dX8_passesHour_142 : decode cX8_passesHour 142 = .ok (.iload_n 2, 1) := by decide +kernel
theorem dX8_passesHour_143 : decode cX8_passesHour 143 = .ok (.aload_n 0, 1) := by decide +kernel
theorem dX8_passesHour_144 : decode cX8_passesHour 144 = .ok (.getfield 7, 3) := by decide +kernel
theorem dX8_passesHour_147 : decode cX8_passesHour 147 = .ok (.iconst 3, 1) := by decide +kernel
theorem dX8_passesHour_148 : decode cX8_passesHour 148 = .ok (.iaload, 1) := by decide +kernel
theorem dX8_passesHour_149 : decode cX8_passesHour 149 = .ok (.if_icmp .ge 35, 3) := by decide +kernel
theorem dX8_passesHour_152 : decode cX8_passesHour 152 = .ok (.aload_n 0, 1) := by decide +kernel
theorem dX8_passesHour_153 : decode cX8_passesHour 153 = .ok (.iload_n 2, 1) := by decide +kernel
theorem dX8_passesHour_154 : decode cX8_passesHour 154 = .ok (.invokevirtual 87, 3) := by decide +kernel
theorem dX8_passesHour_157 : decode cX8_passesHour 157 = .ok (.iconst 0, 1) := by decide +kernel
theorem dX8_passesHour_158 : decode cX8_passesHour 158 = .ok (.iconst 1, 1) := by decide +kernel
theorem dX8_passesHour_159 : decode cX8_passesHour 159 = .ok (.invokestatic 32, 3) := by decide +kernel
theorem dX8_passesHour_162 : decode cX8_passesHour 162 = .ok (.ifCond .eq 16, 3) := by decide +kernel
theorem dX8_passesHour_165 : decode cX8_passesHour 165 = .ok (.aload_n 0, 1) := by decide +kernel
theorem dX8_passesHour_166 : decode cX8_passesHour 166 = .ok (.iload_n 2, 1) := by decide +kernel
theorem dX8_passesHour_167 : decode cX8_passesHour 167 = .ok (.invokevirtual 100, 3) := by decide +kernel
theorem dX8_passesHour_170 : decode cX8_passesHour 170 = .ok (.ifCond .eq 8, 3) := by decide +kernel
theorem dX8_passesHour_173 : decode cX8_passesHour 173 = .ok (.aload_n 0, 1) := by decide +kernel
theorem dX8_passesHour_174 : decode cX8_passesHour 174 = .ok (.iload_n 2, 1) := by decide +kernel
theorem dX8_passesHour_175 : decode cX8_passesHour 175 = .ok (.invokevirtual 162, 3) := by decide +kernel
theorem dX8_passesHour_178 : decode cX8_passesHour 178 = .ok (.iinc 2 1, 3) := by decide +kernel
theorem dX8_passesHour_181 : decode cX8_passesHour 181 = .ok (.goto (-39), 3) := by decide +kernel
theorem dX8_passesHour_184 : decode cX8_passesHour 184 = .ok (.iload_n 1, 1) := by decide +kernel
theorem dX8_passesHour_185 : decode cX8_passesHour 185 = .ok (.ireturn, 1) := by decide +kernel
theorem dX8_passError_0 : decode cX8_passError 0 = .ok (.iload_n 1, 1) := by decide +kernel
theorem dX8_passError_1 : decode cX8_passError 1 = .ok (.iconst 1, 1) := by decide +kernel
theorem dX8_passError_2 : decode cX8_passError 2 = .ok (.bipush 48, 2) := by decide +kernel
theorem dX8_passError_4 : decode cX8_passError 4 = .ok (.invokestatic 32, 3) := by decide +kernel
theorem dX8_passError_7 : decode cX8_passError 7 = .ok (.ifCond .ne 6, 3) := by decide +kernel
theorem dX8_passError_10 : decode cX8_passError 10 = .ok (.bipush (-2), 2) := by decide +kernel
theorem dX8_passError_12 : decode cX8_passError 12 = .ok (.ireturn, 1) := by decide +kernel
theorem dX8_passError_13 : decode cX8_passError 13 = .ok (.aload_n 0, 1) := by decide +kernel
theorem dX8_passError_14 : decode cX8_passError 14 = .ok (.getfield 7, 3) := by decide +kernel
theorem dX8_passError_17 : decode cX8_passError 17 = .ok (.iconst 0, 1) := by decide +kernel
theorem dX8_passError_18 : decode cX8_passError 18 = .ok (.iaload, 1) := by decide +kernel
theorem dX8_passError_19 : decode cX8_passError 19 = .ok (.iload_n 1, 1) := by decide +kernel
theorem dX8_passError_20 : decode cX8_passError 20 = .ok (.iadd, 1) := by decide +kernel
theorem dX8_passError_21 : decode cX8_passError 21 = .ok (.sipush 2000, 3) := by decide +kernel
theorem dX8_passError_24 : decode cX8_passError 24 = .ok (.if_icmp .le 8, 3) := by decide +kernel
theorem dX8_passError_27 : decode cX8_passError 27 = .ok (.bipush (-4), 2) := by decide +kernel
theorem dX8_passError_29 : decode cX8_passError 29 = .ok (.goto 4, 3) := by decide +kernel
theorem dX8_passError_32 : decode cX8_passError 32 = .ok (.iconst 0, 1) := by decide +kernel
theorem dX8_passError_33 : decode cX8_passError 33 = .ok (.ireturn, 1) := by decide +kernel
theorem dX8_passes_0 : decode cX8_passes 0 = .ok (.iconst 0, 1) := by decide +kernel
theorem dX8_passes_1 : decode cX8_passes 1 = .ok (.istore_n 2, 1) := by decide +kernel
theorem dX8_passes_2 : decode cX8_passes 2 = .ok (.iconst 0, 1) := by decide +kernel
theorem dX8_passes_3 : decode cX8_passes 3 = .ok (.istore_n 3, 1) := by decide +kernel
theorem dX8_passes_4 : decode cX8_passes 4 = .ok (.iload_n 3, 1) := by decide +kernel
theorem dX8_passes_5 : decode cX8_passes 5 = .ok (.iload_n 1, 1) := by decide +kernel
theorem dX8_passes_6 : decode cX8_passes 6 = .ok (.if_icmp .ge 16, 3) := by decide +kernel
theorem dX8_passes_9 : decode cX8_passes 9 = .ok (.iload_n 2, 1) := by decide +kernel
theorem dX8_passes_10 : decode cX8_passes 10 = .ok (.aload_n 0, 1) := by decide +kernel
theorem dX8_passes_11 : decode cX8_passes 11 = .ok (.invokevirtual 165, 3) := by decide +kernel
theorem dX8_passes_14 : decode cX8_passes 14 = .ok (.iadd, 1) := by decide +kernel
theorem dX8_passes_15 : decode cX8_passes 15 = .ok (.istore_n 2, 1) := by decide +kernel
theorem dX8_passes_16 : decode cX8_passes 16 = .ok (.iinc 3 1, 3) := by decide +kernel
theorem dX8_passes_19 : decode cX8_passes 19 = .ok (.goto (-15), 3) := by decide +kernel
theorem dX8_passes_22 : decode cX8_passes 22 = .ok (.iload_n 2, 1) := by decide +kernel
theorem dX8_passes_23 : decode cX8_passes 23 = .ok (.ireturn, 1) := by decide +kernel
theorem dX8_pass_0 : decode cX8_pass 0 = .ok (.aload_n 0, 1) := by decide +kernel
theorem dX8_pass_1 : decode cX8_pass 1 = .ok (.iload_n 1, 1) := by decide +kernel
theorem dX8_pass_2 : decode cX8_pass 2 = .ok (.invokevirtual 168, 3) := by decide +kernel
theorem dX8_pass_5 : decode cX8_pass 5 = .ok (.istore_n 2, 1) := by decide +kernel
theorem dX8_pass_6 : decode cX8_pass 6 = .ok (.iload_n 2, 1) := by decide +kernel
theorem dX8_pass_7 : decode cX8_pass 7 = .ok (.ifCond .eq 5, 3) := by decide +kernel
theorem dX8_pass_10 : decode cX8_pass 10 = .ok (.iload_n 2, 1) := by decide +kernel
theorem dX8_pass_11 : decode cX8_pass 11 = .ok (.ireturn, 1) := by decide +kernel
theorem dX8_pass_12 : decode cX8_pass 12 = .ok (.aload_n 0, 1) := by decide +kernel
theorem dX8_pass_13 : decode cX8_pass 13 = .ok (.invokevirtual 58, 3) := by decide +kernel
theorem dX8_pass_16 : decode cX8_pass 16 = .ok (.aload_n 0, 1) := by decide +kernel
theorem dX8_pass_17 : decode cX8_pass 17 = .ok (.iload_n 1, 1) := by decide +kernel
theorem dX8_pass_18 : decode cX8_pass 18 = .ok (.invokevirtual 171, 3) := by decide +kernel
theorem dX8_pass_21 : decode cX8_pass 21 = .ok (.ireturn, 1) := by decide +kernel
theorem dX8_type_0 : decode cX8_type 0 = .ok (.aload_n 0, 1) := by decide +kernel
theorem dX8_type_1 : decode cX8_type 1 = .ok (.getfield 174, 3) := by decide +kernel
theorem dX8_type_4 : decode cX8_type 4 = .ok (.bipush 60, 2) := by decide +kernel
theorem dX8_type_6 : decode cX8_type 6 = .ok (.if_icmp .ne 6, 3) := by decide +kernel
theorem dX8_type_9 : decode cX8_type 9 = .ok (.bipush (-3), 2) := by decide +kernel
theorem dX8_type_11 : decode cX8_type 11 = .ok (.ireturn, 1) := by decide +kernel
theorem dX8_type_12 : decode cX8_type 12 = .ok (.aload_n 0, 1) := by decide +kernel
theorem dX8_type_13 : decode cX8_type 13 = .ok (.getfield 29, 3) := by decide +kernel
theorem dX8_type_16 : decode cX8_type 16 = .ok (.aload_n 0, 1) := by decide +kernel
theorem dX8_type_17 : decode cX8_type 17 = .ok (.getfield 174, 3) := by decide +kernel
theorem dX8_type_20 : decode cX8_type 20 = .ok (.iload_n 1, 1) := by decide +kernel
theorem dX8_type_21 : decode cX8_type 21 = .ok (.iastore, 1) := by decide +kernel
theorem dX8_type_22 : decode cX8_type 22 = .ok (.aload_n 0, 1) := by decide +kernel
theorem dX8_type_23 : decode cX8_type 23 = .ok (.dup, 1) := by decide +kernel
theorem dX8_type_24 : decode cX8_type 24 = .ok (.getfield 174, 3) := by decide +kernel
theorem dX8_type_27 : decode cX8_type 27 = .ok (.iconst 1, 1) := by decide +kernel
theorem dX8_type_28 : decode cX8_type 28 = .ok (.iadd, 1) := by decide +kernel
theorem dX8_type_29 : decode cX8_type 29 = .ok (.putfield 174, 3) := by decide +kernel
theorem dX8_type_32 : decode cX8_type 32 = .ok (.aload_n 0, 1) := by decide +kernel
theorem dX8_type_33 : decode cX8_type 33 = .ok (.getfield 174, 3) := by decide +kernel
theorem dX8_type_36 : decode cX8_type 36 = .ok (.ireturn, 1) := by decide +kernel
theorem dX8_clearText_0 : decode cX8_clearText 0 = .ok (.aload_n 0, 1) := by decide +kernel
theorem dX8_clearText_1 : decode cX8_clearText 1 = .ok (.getfield 174, 3) := by decide +kernel
theorem dX8_clearText_4 : decode cX8_clearText 4 = .ok (.istore_n 1, 1) := by decide +kernel
theorem dX8_clearText_5 : decode cX8_clearText 5 = .ok (.aload_n 0, 1) := by decide +kernel
theorem dX8_clearText_6 : decode cX8_clearText 6 = .ok (.iconst 0, 1) := by decide +kernel
theorem dX8_clearText_7 : decode cX8_clearText 7 = .ok (.putfield 174, 3) := by decide +kernel
theorem dX8_clearText_10 : decode cX8_clearText 10 = .ok (.iload_n 1, 1) := by decide +kernel
theorem dX8_clearText_11 : decode cX8_clearText 11 = .ok (.ireturn, 1) := by decide +kernel
theorem dX8_isHere_0 : decode cX8_isHere 0 = .ok (.aload_n 0, 1) := by decide +kernel
theorem dX8_isHere_1 : decode cX8_isHere 1 = .ok (.getfield 177, 3) := by decide +kernel
theorem dX8_isHere_4 : decode cX8_isHere 4 = .ok (.aload_n 0, 1) := by decide +kernel
theorem dX8_isHere_5 : decode cX8_isHere 5 = .ok (.getfield 174, 3) := by decide +kernel
theorem dX8_isHere_8 : decode cX8_isHere 8 = .ok (.if_icmp .ge 24, 3) := by decide +kernel
theorem dX8_isHere_11 : decode cX8_isHere 11 = .ok (.aload_n 0, 1) := by decide +kernel
theorem dX8_isHere_12 : decode cX8_isHere 12 = .ok (.getfield 29, 3) := by decide +kernel
theorem dX8_isHere_15 : decode cX8_isHere 15 = .ok (.aload_n 0, 1) := by decide +kernel
theorem dX8_isHere_16 : decode cX8_isHere 16 = .ok (.getfield 177, 3) := by decide +kernel
theorem dX8_isHere_19 : decode cX8_isHere 19 = .ok (.iaload, 1) := by decide +kernel
theorem dX8_isHere_20 : decode cX8_isHere 20 = .ok (.iload_n 1, 1) := by decide +kernel
theorem dX8_isHere_21 : decode cX8_isHere 21 = .ok (.iload_n 2, 1) := by decide +kernel
theorem dX8_isHere_22 : decode cX8_isHere 22 = .ok (.invokestatic 32, 3) := by decide +kernel
theorem dX8_isHere_25 : decode cX8_isHere 25 = .ok (.ifCond .eq 7, 3) := by decide +kernel
theorem dX8_isHere_28 : decode cX8_isHere 28 = .ok (.iconst 1, 1) := by decide +kernel
theorem dX8_isHere_29 : decode cX8_isHere 29 = .ok (.goto 4, 3) := by decide +kernel
theorem dX8_isHere_32 : decode cX8_isHere 32 = .ok (.iconst 0, 1) := by decide +kernel
theorem dX8_isHere_33 : decode cX8_isHere 33 = .ok (.ireturn, 1) := by decide +kernel
theorem dX8_passesSign_0 : decode cX8_passesSign 0 = .ok (.aload_n 0, 1) := by decide +kernel
theorem dX8_passesSign_1 : decode cX8_passesSign 1 = .ok (.iload_n 1, 1) := by decide +kernel
theorem dX8_passesSign_2 : decode cX8_passesSign 2 = .ok (.iload_n 1, 1) := by decide +kernel
theorem dX8_passesSign_3 : decode cX8_passesSign 3 = .ok (.invokevirtual 180, 3) := by decide +kernel
theorem dX8_passesSign_6 : decode cX8_passesSign 6 = .ok (.istore_n 2, 1) := by decide +kernel
theorem dX8_passesSign_7 : decode cX8_passesSign 7 = .ok (.aload_n 0, 1) := by decide +kernel
theorem dX8_passesSign_8 : decode cX8_passesSign 8 = .ok (.dup, 1) := by decide +kernel
theorem dX8_passesSign_9 : decode cX8_passesSign 9 = .ok (.getfield 177, 3) := by decide +kernel
theorem dX8_passesSign_12 : decode cX8_passesSign 12 = .ok (.iload_n 2, 1) := by decide +kernel
theorem dX8_passesSign_13 : decode cX8_passesSign 13 = .ok (.ifCond .eq 7, 3) := by decide +kernel
theorem dX8_passesSign_16 : decode cX8_passesSign 16 = .ok (.iconst 1, 1) := by decide +kernel
theorem dX8_passesSign_17 : decode cX8_passesSign 17 = .ok (.goto 4, 3) := by decide +kernel
theorem dX8_passesSign_20 : decode cX8_passesSign 20 = .ok (.iconst 0, 1) := by decide +kernel
theorem dX8_passesSign_21 : decode cX8_passesSign 21 = .ok (.iadd, 1) := by decide +kernel
theorem dX8_passesSign_22 : decode cX8_passesSign 22 = .ok (.putfield 177, 3) := by decide +kernel
theorem dX8_passesSign_25 : decode cX8_passesSign 25 = .ok (.iload_n 2, 1) := by decide +kernel
theorem dX8_passesSign_26 : decode cX8_passesSign 26 = .ok (.ireturn, 1) := by decide +kernel
theorem dX8_passesNumber_0 : decode cX8_passesNumber 0 = .ok (.aload_n 0, 1) := by decide +kernel
theorem dX8_passesNumber_1 : decode cX8_passesNumber 1 = .ok (.bipush 48, 2) := by decide +kernel
theorem dX8_passesNumber_3 : decode cX8_passesNumber 3 = .ok (.bipush 57, 2) := by decide +kernel
theorem dX8_passesNumber_5 : decode cX8_passesNumber 5 = .ok (.invokevirtual 180, 3) := by decide +kernel
theorem dX8_passesNumber_8 : decode cX8_passesNumber 8 = .ok (.ifCond .ne 5, 3) := by decide +kernel
theorem dX8_passesNumber_11 : decode cX8_passesNumber 11 = .ok (.iconst 0, 1) := by decide +kernel
theorem dX8_passesNumber_12 : decode cX8_passesNumber 12 = .ok (.ireturn, 1) := by decide +kernel
theorem dX8_passesNumber_13 : decode cX8_passesNumber 13 = .ok (.aload_n 0, 1) := by decide +kernel
theorem dX8_passesNumber_14 : decode cX8_passesNumber 14 = .ok (.getfield 29, 3) := by decide +kernel
theorem dX8_passesNumber_17 : decode cX8_passesNumber 17 = .ok (.aload_n 0, 1) := by decide +kernel
theorem dX8_passesNumber_18 : decode cX8_passesNumber 18 = .ok (.getfield 177, 3) := by decide +kernel
theorem dX8_passesNumber_21 : decode cX8_passesNumber 21 = .ok (.iaload, 1) := by decide +kernel
theorem dX8_passesNumber_22 : decode cX8_passesNumber 22 = .ok (.bipush 48, 2) := by decide +kernel
theorem dX8_passesNumber_24 : decode cX8_passesNumber 24 = .ok (.isub, 1) := by decide +kernel
theorem dX8_passesNumber_25 : decode cX8_passesNumber 25 = .ok (.istore_n 2, 1) := by decide +kernel
theorem dX8_passesNumber_26 : decode cX8_passesNumber 26 = .ok (.aload_n 0, 1) := by decide +kernel
theorem dX8_passesNumber_27 : decode cX8_passesNumber 27 = .ok (.dup, 1) := by decide +kernel
theorem dX8_passesNumber_28 : decode cX8_passesNumber 28 = .ok (.getfield 177, 3) := by decide +kernel
theorem dX8_passesNumber_31 : decode cX8_passesNumber 31 = .ok (.iconst 1, 1) := by decide +kernel
theorem dX8_passesNumber_32 : decode cX8_passesNumber 32 = .ok (.iadd, 1) := by decide +kernel
theorem dX8_passesNumber_33 : decode cX8_passesNumber 33 = .ok (.putfield 177, 3) := by decide +kernel
theorem dX8_passesNumber_36 : decode cX8_passesNumber 36 = .ok (.iconst 1, 1) := by decide +kernel
theorem dX8_passesNumber_37 : decode cX8_passesNumber 37 = .ok (.istore_n 3, 1) := by decide +kernel
theorem dX8_passesNumber_38 : decode cX8_passesNumber 38 = .ok (.iload_n 3, 1) := by decide +kernel
theorem dX8_passesNumber_39 : decode cX8_passesNumber 39 = .ok (.iload_n 1, 1) := by decide +kernel
theorem dX8_passesNumber_40 : decode cX8_passesNumber 40 = .ok (.if_icmp .ge 52, 3) := by decide +kernel
theorem dX8_passesNumber_43 : decode cX8_passesNumber 43 = .ok (.iload_n 2, 1) := by decide +kernel
theorem dX8_passesNumber_44 : decode cX8_passesNumber 44 = .ok (.ifCond .le 48, 3) := by decide +kernel
theorem dX8_passesNumber_47 : decode cX8_passesNumber 47 = .ok (.aload_n 0, 1) := by decide +kernel
theorem dX8_passesNumber_48 : decode cX8_passesNumber 48 = .ok (.bipush 48, 2) := by decide +kernel
theorem dX8_passesNumber_50 : decode cX8_passesNumber 50 = .ok (.bipush 57, 2) := by decide +kernel
theorem dX8_passesNumber_52 : decode cX8_passesNumber 52 = .ok (.invokevirtual 180, 3) := by decide +kernel
theorem dX8_passesNumber_55 : decode cX8_passesNumber 55 = .ok (.ifCond .eq 37, 3) := by decide +kernel
theorem dX8_passesNumber_58 : decode cX8_passesNumber 58 = .ok (.bipush 10, 2) := by decide +kernel
theorem dX8_passesNumber_60 : decode cX8_passesNumber 60 = .ok (.iload_n 2, 1) := by decide +kernel
theorem dX8_passesNumber_61 : decode cX8_passesNumber 61 = .ok (.imul, 1) := by decide +kernel
theorem dX8_passesNumber_62 : decode cX8_passesNumber 62 = .ok (.aload_n 0, 1) := by decide +kernel
theorem dX8_passesNumber_63 : decode cX8_passesNumber 63 = .ok (.getfield 29, 3) := by decide +kernel
theorem dX8_passesNumber_66 : decode cX8_passesNumber 66 = .ok (.aload_n 0, 1) := by decide +kernel
theorem dX8_passesNumber_67 : decode cX8_passesNumber 67 = .ok (.getfield 177, 3) := by decide +kernel
theorem dX8_passesNumber_70 : decode cX8_passesNumber 70 = .ok (.iaload, 1) := by decide +kernel
theorem dX8_passesNumber_71 : decode cX8_passesNumber 71 = .ok (.iadd, 1) := by decide +kernel
theorem dX8_passesNumber_72 : decode cX8_passesNumber 72 = .ok (.bipush 48, 2) := by decide +kernel
theorem dX8_passesNumber_74 : decode cX8_passesNumber 74 = .ok (.isub, 1) := by decide +kernel
theorem dX8_passesNumber_75 : decode cX8_passesNumber 75 = .ok (.istore_n 2, 1) := by decide +kernel
theorem dX8_passesNumber_76 : decode cX8_passesNumber 76 = .ok (.aload_n 0, 1) := by decide +kernel
theorem dX8_passesNumber_77 : decode cX8_passesNumber 77 = .ok (.dup, 1) := by decide +kernel
theorem dX8_passesNumber_78 : decode cX8_passesNumber 78 = .ok (.getfield 177, 3) := by decide +kernel
theorem dX8_passesNumber_81 : decode cX8_passesNumber 81 = .ok (.iconst 1, 1) := by decide +kernel
theorem dX8_passesNumber_82 : decode cX8_passesNumber 82 = .ok (.iadd, 1) := by decide +kernel
theorem dX8_passesNumber_83 : decode cX8_passesNumber 83 = .ok (.putfield 177, 3) := by decide +kernel
theorem dX8_passesNumber_86 : decode cX8_passesNumber 86 = .ok (.iinc 3 1, 3) := by decide +kernel
theorem dX8_passesNumber_89 : decode cX8_passesNumber 89 = .ok (.goto (-51), 3) := by decide +kernel
theorem dX8_passesNumber_92 : decode cX8_passesNumber 92 = .ok (.aload_n 0, 1) := by decide +kernel
theorem dX8_passesNumber_93 : decode cX8_passesNumber 93 = .ok (.iload_n 2, 1) := by decide +kernel
theorem dX8_passesNumber_94 : decode cX8_passesNumber 94 = .ok (.putfield 183, 3) := by decide +kernel
theorem dX8_passesNumber_97 : decode cX8_passesNumber 97 = .ok (.iconst 1, 1) := by decide +kernel
theorem dX8_passesNumber_98 : decode cX8_passesNumber 98 = .ok (.ireturn, 1) := by decide +kernel
theorem dX8_passesOrder_0 : decode cX8_passesOrder 0 = .ok (.aload_n 0, 1) := by decide +kernel
theorem dX8_passesOrder_1 : decode cX8_passesOrder 1 = .ok (.aload_n 0, 1) := by decide +kernel
theorem dX8_passesOrder_2 : decode cX8_passesOrder 2 = .ok (.getfield 177, 3) := by decide +kernel
theorem dX8_passesOrder_5 : decode cX8_passesOrder 5 = .ok (.aload_n 0, 1) := by decide +kernel
theorem dX8_passesOrder_6 : decode cX8_passesOrder 6 = .ok (.getfield 174, 3) := by decide +kernel
theorem dX8_passesOrder_9 : decode cX8_passesOrder 9 = .ok (.if_icmp .ge 15, 3) := by decide +kernel
theorem dX8_passesOrder_12 : decode cX8_passesOrder 12 = .ok (.aload_n 0, 1) := by decide +kernel
theorem dX8_passesOrder_13 : decode cX8_passesOrder 13 = .ok (.getfield 29, 3) := by decide +kernel
theorem dX8_passesOrder_16 : decode cX8_passesOrder 16 = .ok (.aload_n 0, 1) := by decide +kernel
theorem dX8_passesOrder_17 : decode cX8_passesOrder 17 = .ok (.getfield 177, 3) := by decide +kernel
theorem dX8_passesOrder_20 : decode cX8_passesOrder 20 = .ok (.iaload, 1) := by decide +kernel
theorem dX8_passesOrder_21 : decode cX8_passesOrder 21 = .ok (.goto 4, 3) := by decide +kernel
theorem dX8_passesOrder_24 : decode cX8_passesOrder 24 = .ok (.iconst 0, 1) := by decide +kernel
theorem dX8_passesOrder_25 : decode cX8_passesOrder 25 = .ok (.putfield 186, 3) := by decide +kernel
theorem dX8_passesOrder_28 : decode cX8_passesOrder 28 = .ok (.aload_n 0, 1) := by decide +kernel
theorem dX8_passesOrder_29 : decode cX8_passesOrder 29 = .ok (.getfield 186, 3) := by decide +kernel
theorem dX8_passesOrder_32 : decode cX8_passesOrder 32 = .ok (.bipush 104, 2) := by decide +kernel
theorem dX8_passesOrder_34 : decode cX8_passesOrder 34 = .ok (.if_icmp .eq 50, 3) := by decide +kernel
theorem dX8_passesOrder_37 : decode cX8_passesOrder 37 = .ok (.aload_n 0, 1) := by decide +kernel
theorem dX8_passesOrder_38 : decode cX8_passesOrder 38 = .ok (.getfield 186, 3) := by decide +kernel
theorem dX8_passesOrder_41 : decode cX8_passesOrder 41 = .ok (.bipush 108, 2) := by decide +kernel
theorem dX8_passesOrder_43 : decode cX8_passesOrder 43 = .ok (.if_icmp .eq 41, 3) := by decide +kernel
theorem dX8_passesOrder_46 : decode cX8_passesOrder 46 = .ok (.aload_n 0, 1) := by decide +kernel
theorem dX8_passesOrder_47 : decode cX8_passesOrder 47 = .ok (.getfield 186, 3) := by decide +kernel
theorem dX8_passesOrder_50 : decode cX8_passesOrder 50 = .ok (.bipush 98, 2) := by decide +kernel
theorem dX8_passesOrder_52 : decode cX8_passesOrder 52 = .ok (.if_icmp .eq 32, 3) := by decide +kernel
theorem dX8_passesOrder_55 : decode cX8_passesOrder 55 = .ok (.aload_n 0, 1) := by decide +kernel
theorem dX8_passesOrder_56 : decode cX8_passesOrder 56 = .ok (.getfield 186, 3) := by decide +kernel
theorem dX8_passesOrder_59 : decode cX8_passesOrder 59 = .ok (.bipush 114, 2) := by decide +kernel
theorem dX8_passesOrder_61 : decode cX8_passesOrder 61 = .ok (.if_icmp .eq 23, 3) := by decide +kernel
theorem dX8_passesOrder_64 : decode cX8_passesOrder 64 = .ok (.aload_n 0, 1) := by decide +kernel
theorem dX8_passesOrder_65 : decode cX8_passesOrder 65 = .ok (.getfield 186, 3) := by decide +kernel
theorem dX8_passesOrder_68 : decode cX8_passesOrder 68 = .ok (.bipush 115, 2) := by decide +kernel
theorem dX8_passesOrder_70 : decode cX8_passesOrder 70 = .ok (.if_icmp .eq 14, 3) := by decide +kernel
theorem dX8_passesOrder_73 : decode cX8_passesOrder 73 = .ok (.aload_n 0, 1) := by decide +kernel
theorem dX8_passesOrder_74 : decode cX8_passesOrder 74 = .ok (.getfield 186, 3) := by decide +kernel
theorem dX8_passesOrder_77 : decode cX8_passesOrder 77 = .ok (.bipush 112, 2) := by decide +kernel
theorem dX8_passesOrder_79 : decode cX8_passesOrder 79 = .ok (.if_icmp .eq 5, 3) := by decide +kernel
theorem dX8_passesOrder_82 : decode cX8_passesOrder 82 = .ok (.iconst 0, 1) := by decide +kernel
theorem dX8_passesOrder_83 : decode cX8_passesOrder 83 = .ok (.ireturn, 1) := by decide +kernel
theorem dX8_passesOrder_84 : decode cX8_passesOrder 84 = .ok (.aload_n 0, 1) := by decide +kernel
theorem dX8_passesOrder_85 : decode cX8_passesOrder 85 = .ok (.dup, 1) := by decide +kernel
theorem dX8_passesOrder_86 : decode cX8_passesOrder 86 = .ok (.getfield 177, 3) := by decide +kernel
theorem dX8_passesOrder_89 : decode cX8_passesOrder 89 = .ok (.iconst 1, 1) := by decide +kernel
theorem dX8_passesOrder_90 : decode cX8_passesOrder 90 = .ok (.iadd, 1) := by decide +kernel
theorem dX8_passesOrder_91 : decode cX8_passesOrder 91 = .ok (.putfield 177, 3) := by decide +kernel
theorem dX8_passesOrder_94 : decode cX8_passesOrder 94 = .ok (.aload_n 0, 1) := by decide +kernel
theorem dX8_passesOrder_95 : decode cX8_passesOrder 95 = .ok (.aload_n 0, 1) := by decide +kernel
theorem dX8_passesOrder_96 : decode cX8_passesOrder 96 = .ok (.getfield 186, 3) := by decide +kernel
theorem dX8_passesOrder_99 : decode cX8_passesOrder 99 = .ok (.bipush 114, 2) := by decide +kernel
theorem dX8_passesOrder_101 : decode cX8_passesOrder 101 = .ok (.if_icmp .eq 12, 3) := by decide +kernel
theorem dX8_passesOrder_104 : decode cX8_passesOrder 104 = .ok (.aload_n 0, 1) := by decide +kernel
theorem dX8_passesOrder_105 : decode cX8_passesOrder 105 = .ok (.getfield 186, 3) := by decide +kernel
theorem dX8_passesOrder_108 : decode cX8_passesOrder 108 = .ok (.bipush 115, 2) := by decide +kernel
theorem dX8_passesOrder_110 : decode cX8_passesOrder 110 = .ok (.if_icmp .ne 7, 3) := by decide +kernel
theorem dX8_passesOrder_113 : decode cX8_passesOrder 113 = .ok (.iconst 1, 1) := by decide +kernel
theorem dX8_passesOrder_114 : decode cX8_passesOrder 114 = .ok (.goto 4, 3) := by decide +kernel
theorem dX8_passesOrder_117 : decode cX8_passesOrder 117 = .ok (.iconst 2, 1) := by decide +kernel
theorem dX8_passesOrder_118 : decode cX8_passesOrder 118 = .ok (.invokevirtual 189, 3) := by decide +kernel
theorem dX8_passesOrder_121 : decode cX8_passesOrder 121 = .ok (.ifCond .ne 5, 3) := by decide +kernel
theorem dX8_passesOrder_124 : decode cX8_passesOrder 124 = .ok (.iconst 0, 1) := by decide +kernel
theorem dX8_passesOrder_125 : decode cX8_passesOrder 125 = .ok (.ireturn, 1) := by decide +kernel
theorem dX8_passesOrder_126 : decode cX8_passesOrder 126 = .ok (.aload_n 0, 1) := by decide +kernel
theorem dX8_passesOrder_127 : decode cX8_passesOrder 127 = .ok (.aload_n 0, 1) := by decide +kernel
theorem dX8_passesOrder_128 : decode cX8_passesOrder 128 = .ok (.getfield 183, 3) := by decide +kernel
theorem dX8_passesOrder_131 : decode cX8_passesOrder 131 = .ok (.putfield 192, 3) := by decide +kernel
theorem dX8_passesOrder_134 : decode cX8_passesOrder 134 = .ok (.aload_n 0, 1) := by decide +kernel
theorem dX8_passesOrder_135 : decode cX8_passesOrder 135 = .ok (.getfield 186, 3) := by decide +kernel
theorem dX8_passesOrder_138 : decode cX8_passesOrder 138 = .ok (.bipush 104, 2) := by decide +kernel
theorem dX8_passesOrder_140 : decode cX8_passesOrder 140 = .ok (.if_icmp .eq 12, 3) := by decide +kernel
theorem dX8_passesOrder_143 : decode cX8_passesOrder 143 = .ok (.aload_n 0, 1) := by decide +kernel
theorem dX8_passesOrder_144 : decode cX8_passesOrder 144 = .ok (.getfield 186, 3) := by decide +kernel
theorem dX8_passesOrder_147 : decode cX8_passesOrder 147 = .ok (.bipush 108, 2) := by decide +kernel
theorem dX8_passesOrder_149 : decode cX8_passesOrder 149 = .ok (.if_icmp .ne 30, 3) := by decide +kernel
theorem dX8_passesOrder_152 : decode cX8_passesOrder 152 = .ok (.aload_n 0, 1) := by decide +kernel
theorem dX8_passesOrder_153 : decode cX8_passesOrder 153 = .ok (.bipush 99, 2) := by decide +kernel
theorem dX8_passesOrder_155 : decode cX8_passesOrder 155 = .ok (.invokevirtual 195, 3) := by decide +kernel
theorem dX8_passesOrder_158 : decode cX8_passesOrder 158 = .ok (.ifCond .eq 11, 3) := by decide +kernel
theorem dX8_passesOrder_161 : decode cX8_passesOrder 161 = .ok (.aload_n 0, 1) := by decide +kernel
theorem dX8_passesOrder_162 : decode cX8_passesOrder 162 = .ok (.iconst 1, 1) := by decide +kernel
theorem dX8_passesOrder_163 : decode cX8_passesOrder 163 = .ok (.invokevirtual 189, 3) := by decide +kernel
theorem dX8_passesOrder_166 : decode cX8_passesOrder 166 = .ok (.ifCond .ne 5, 3) := by decide +kernel
theorem dX8_passesOrder_169 : decode cX8_passesOrder 169 = .ok (.iconst 0, 1) := by decide +kernel
theorem dX8_passesOrder_170 : decode cX8_passesOrder 170 = .ok (.ireturn, 1) := by decide +kernel
theorem dX8_passesOrder_171 : decode cX8_passesOrder 171 = .ok (.aload_n 0, 1) := by decide +kernel
theorem dX8_passesOrder_172 : decode cX8_passesOrder 172 = .ok (.aload_n 0, 1) := by decide +kernel
theorem dX8_passesOrder_173 : decode cX8_passesOrder 173 = .ok (.getfield 183, 3) := by decide +kernel
theorem dX8_passesOrder_176 : decode cX8_passesOrder 176 = .ok (.putfield 198, 3) := by decide +kernel
theorem dX8_passesOrder_179 : decode cX8_passesOrder 179 = .ok (.iconst 1, 1) := by decide +kernel
theorem dX8_passesOrder_180 : decode cX8_passesOrder 180 = .ok (.ireturn, 1) := by decide +kernel
theorem dX8_faultOf_0 : decode cX8_faultOf 0 = .ok (.aload_n 0, 1) := by decide +kernel
theorem dX8_faultOf_1 : decode cX8_faultOf 1 = .ok (.iconst 0, 1) := by decide +kernel
theorem dX8_faultOf_2 : decode cX8_faultOf 2 = .ok (.putfield 177, 3) := by decide +kernel
theorem dX8_faultOf_5 : decode cX8_faultOf 5 = .ok (.aload_n 0, 1) := by decide +kernel
theorem dX8_faultOf_6 : decode cX8_faultOf 6 = .ok (.invokevirtual 201, 3) := by decide +kernel
theorem dX8_faultOf_9 : decode cX8_faultOf 9 = .ok (.ifCond .ne 8, 3) := by decide +kernel
theorem dX8_faultOf_12 : decode cX8_faultOf 12 = .ok (.aload_n 0, 1) := by decide +kernel
theorem dX8_faultOf_13 : decode cX8_faultOf 13 = .ok (.getfield 177, 3) := by decide +kernel
theorem dX8_faultOf_16 : decode cX8_faultOf 16 = .ok (.ireturn, 1) := by decide +kernel
theorem dX8_faultOf_17 : decode cX8_faultOf 17 = .ok (.aload_n 0, 1) := by decide +kernel
theorem dX8_faultOf_18 : decode cX8_faultOf 18 = .ok (.getfield 177, 3) := by decide +kernel
theorem dX8_faultOf_21 : decode cX8_faultOf 21 = .ok (.aload_n 0, 1) := by decide +kernel
theorem dX8_faultOf_22 : decode cX8_faultOf 22 = .ok (.getfield 174, 3) := by decide +kernel
theorem dX8_faultOf_25 : decode cX8_faultOf 25 = .ok (.if_icmp .ge 24, 3) := by decide +kernel
theorem dX8_faultOf_28 : decode cX8_faultOf 28 = .ok (.aload_n 0, 1) := by decide +kernel
theorem dX8_faultOf_29 : decode cX8_faultOf 29 = .ok (.bipush 59, 2) := by decide +kernel
theorem dX8_faultOf_31 : decode cX8_faultOf 31 = .ok (.invokevirtual 195, 3) := by decide +kernel
theorem dX8_faultOf_34 : decode cX8_faultOf 34 = .ok (.ifCond .eq 10, 3) := by decide +kernel
theorem dX8_faultOf_37 : decode cX8_faultOf 37 = .ok (.aload_n 0, 1) := by decide +kernel
theorem dX8_faultOf_38 : decode cX8_faultOf 38 = .ok (.invokevirtual 201, 3) := by decide +kernel
theorem dX8_faultOf_41 : decode cX8_faultOf 41 = .ok (.ifCond .ne (-24), 3) := by decide +kernel
theorem dX8_faultOf_44 : decode cX8_faultOf 44 = .ok (.aload_n 0, 1) := by decide +kernel
theorem dX8_faultOf_45 : decode cX8_faultOf 45 = .ok (.getfield 177, 3) := by decide +kernel
theorem dX8_faultOf_48 : decode cX8_faultOf 48 = .ok (.ireturn, 1) := by decide +kernel
theorem dX8_faultOf_49 : decode cX8_faultOf 49 = .ok (.bipush (-5), 2) := by decide +kernel
theorem dX8_faultOf_51 : decode cX8_faultOf 51 = .ok (.ireturn, 1) := by decide +kernel
theorem dX8_orderError_0 : decode cX8_orderError 0 = .ok (.aload_n 0, 1) := by decide +kernel
theorem dX8_orderError_1 : decode cX8_orderError 1 = .ok (.getfield 186, 3) := by decide +kernel
theorem dX8_orderError_4 : decode cX8_orderError 4 = .ok (.lookupswitch 105 #[(98, 78), (104, 52), (108, 65), (114, 87), (115, 96)], 52) := by decide +kernel
theorem dX8_orderError_56 : decode cX8_orderError 56 = .ok (.aload_n 0, 1) := by decide +kernel
theorem dX8_orderError_57 : decode cX8_orderError 57 = .ok (.aload_n 0, 1) := by decide +kernel
theorem dX8_orderError_58 : decode cX8_orderError 58 = .ok (.getfield 192, 3) := by decide +kernel
theorem dX8_orderError_61 : decode cX8_orderError 61 = .ok (.aload_n 0, 1) := by decide +kernel
theorem dX8_orderError_62 : decode cX8_orderError 62 = .ok (.getfield 198, 3) := by decide +kernel
theorem dX8_orderError_65 : decode cX8_orderError 65 = .ok (.invokevirtual 128, 3) := by decide +kernel
theorem dX8_orderError_68 : decode cX8_orderError 68 = .ok (.ireturn, 1) := by decide +kernel
theorem dX8_orderError_69 : decode cX8_orderError 69 = .ok (.aload_n 0, 1) := by decide +kernel
theorem dX8_orderError_70 : decode cX8_orderError 70 = .ok (.aload_n 0, 1) := by decide +kernel
theorem dX8_orderError_71 : decode cX8_orderError 71 = .ok (.getfield 192, 3) := by decide +kernel
theorem dX8_orderError_74 : decode cX8_orderError 74 = .ok (.aload_n 0, 1) := by decide +kernel
theorem dX8_orderError_75 : decode cX8_orderError 75 = .ok (.getfield 198, 3) := by decide +kernel
theorem dX8_orderError_78 : decode cX8_orderError 78 = .ok (.invokevirtual 146, 3) := by decide +kernel
theorem dX8_orderError_81 : decode cX8_orderError 81 = .ok (.ireturn, 1) := by decide +kernel
theorem dX8_orderError_82 : decode cX8_orderError 82 = .ok (.aload_n 0, 1) := by decide +kernel
theorem dX8_orderError_83 : decode cX8_orderError 83 = .ok (.aload_n 0, 1) := by decide +kernel
theorem dX8_orderError_84 : decode cX8_orderError 84 = .ok (.getfield 192, 3) := by decide +kernel
theorem dX8_orderError_87 : decode cX8_orderError 87 = .ok (.invokevirtual 137, 3) := by decide +kernel
theorem dX8_orderError_90 : decode cX8_orderError 90 = .ok (.ireturn, 1) := by decide +kernel
theorem dX8_orderError_91 : decode cX8_orderError 91 = .ok (.aload_n 0, 1) := by decide +kernel
theorem dX8_orderError_92 : decode cX8_orderError 92 = .ok (.aload_n 0, 1) := by decide +kernel
theorem dX8_orderError_93 : decode cX8_orderError 93 = .ok (.getfield 192, 3) := by decide +kernel
theorem dX8_orderError_96 : decode cX8_orderError 96 = .ok (.invokevirtual 110, 3) := by decide +kernel
theorem dX8_orderError_99 : decode cX8_orderError 99 = .ok (.ireturn, 1) := by decide +kernel
theorem dX8_orderError_100 : decode cX8_orderError 100 = .ok (.aload_n 0, 1) := by decide +kernel
theorem dX8_orderError_101 : decode cX8_orderError 101 = .ok (.aload_n 0, 1) := by decide +kernel
theorem dX8_orderError_102 : decode cX8_orderError 102 = .ok (.getfield 192, 3) := by decide +kernel
theorem dX8_orderError_105 : decode cX8_orderError 105 = .ok (.invokevirtual 116, 3) := by decide +kernel
theorem dX8_orderError_108 : decode cX8_orderError 108 = .ok (.ireturn, 1) := by decide +kernel
theorem dX8_orderError_109 : decode cX8_orderError 109 = .ok (.aload_n 0, 1) := by decide +kernel
theorem dX8_orderError_110 : decode cX8_orderError 110 = .ok (.aload_n 0, 1) := by decide +kernel
theorem dX8_orderError_111 : decode cX8_orderError 111 = .ok (.getfield 192, 3) := by decide +kernel
theorem dX8_orderError_114 : decode cX8_orderError 114 = .ok (.invokevirtual 168, 3) := by decide +kernel
theorem dX8_orderError_117 : decode cX8_orderError 117 = .ok (.ireturn, 1) := by decide +kernel
theorem dX8_does_0 : decode cX8_does 0 = .ok (.aload_n 0, 1) := by decide +kernel
theorem dX8_does_1 : decode cX8_does 1 = .ok (.getfield 186, 3) := by decide +kernel
theorem dX8_does_4 : decode cX8_does 4 = .ok (.lookupswitch 103 #[(98, 74), (104, 52), (108, 65), (114, 83), (115, 93)], 52) := by decide +kernel
theorem dX8_does_56 : decode cX8_does 56 = .ok (.aload_n 0, 1) := by decide +kernel
theorem dX8_does_57 : decode cX8_does 57 = .ok (.aload_n 0, 1) := by decide +kernel
theorem dX8_does_58 : decode cX8_does 58 = .ok (.getfield 192, 3) := by decide +kernel
theorem dX8_does_61 : decode cX8_does 61 = .ok (.aload_n 0, 1) := by decide +kernel
theorem dX8_does_62 : decode cX8_does 62 = .ok (.getfield 198, 3) := by decide +kernel
theorem dX8_does_65 : decode cX8_does 65 = .ok (.invokevirtual 131, 3) := by decide +kernel
theorem dX8_does_68 : decode cX8_does 68 = .ok (.ireturn, 1) := by decide +kernel
theorem dX8_does_69 : decode cX8_does 69 = .ok (.aload_n 0, 1) := by decide +kernel
theorem dX8_does_70 : decode cX8_does 70 = .ok (.aload_n 0, 1) := by decide +kernel
theorem dX8_does_71 : decode cX8_does 71 = .ok (.getfield 192, 3) := by decide +kernel
theorem dX8_does_74 : decode cX8_does 74 = .ok (.invokevirtual 149, 3) := by decide +kernel
theorem dX8_does_77 : decode cX8_does 77 = .ok (.ireturn, 1) := by decide +kernel
theorem dX8_does_78 : decode cX8_does 78 = .ok (.aload_n 0, 1) := by decide +kernel
theorem dX8_does_79 : decode cX8_does 79 = .ok (.aload_n 0, 1) := by decide +kernel
theorem dX8_does_80 : decode cX8_does 80 = .ok (.getfield 192, 3) := by decide +kernel
theorem dX8_does_83 : decode cX8_does 83 = .ok (.invokevirtual 140, 3) := by decide +kernel
theorem dX8_does_86 : decode cX8_does 86 = .ok (.ireturn, 1) := by decide +kernel
theorem dX8_does_87 : decode cX8_does 87 = .ok (.aload_n 0, 1) := by decide +kernel
theorem dX8_does_88 : decode cX8_does 88 = .ok (.aload_n 0, 1) := by decide +kernel
theorem dX8_does_89 : decode cX8_does 89 = .ok (.getfield 192, 3) := by decide +kernel
theorem dX8_does_92 : decode cX8_does 92 = .ok (.iconst 1, 1) := by decide +kernel
theorem dX8_does_93 : decode cX8_does 93 = .ok (.invokevirtual 113, 3) := by decide +kernel
theorem dX8_does_96 : decode cX8_does 96 = .ok (.ireturn, 1) := by decide +kernel
theorem dX8_does_97 : decode cX8_does 97 = .ok (.aload_n 0, 1) := by decide +kernel
theorem dX8_does_98 : decode cX8_does 98 = .ok (.aload_n 0, 1) := by decide +kernel
theorem dX8_does_99 : decode cX8_does 99 = .ok (.getfield 192, 3) := by decide +kernel
theorem dX8_does_102 : decode cX8_does 102 = .ok (.iconst 0, 1) := by decide +kernel
theorem dX8_does_103 : decode cX8_does 103 = .ok (.invokevirtual 113, 3) := by decide +kernel
theorem dX8_does_106 : decode cX8_does 106 = .ok (.ireturn, 1) := by decide +kernel
theorem dX8_does_107 : decode cX8_does 107 = .ok (.aload_n 0, 1) := by decide +kernel
theorem dX8_does_108 : decode cX8_does 108 = .ok (.aload_n 0, 1) := by decide +kernel
theorem dX8_does_109 : decode cX8_does 109 = .ok (.getfield 192, 3) := by decide +kernel
theorem dX8_does_112 : decode cX8_does 112 = .ok (.invokevirtual 171, 3) := by decide +kernel
theorem dX8_does_115 : decode cX8_does 115 = .ok (.ireturn, 1) := by decide +kernel
theorem dX8_perform_0 : decode cX8_perform 0 = .ok (.aload_n 0, 1) := by decide +kernel
theorem dX8_perform_1 : decode cX8_perform 1 = .ok (.invokevirtual 205, 3) := by decide +kernel
theorem dX8_perform_4 : decode cX8_perform 4 = .ok (.istore_n 1, 1) := by decide +kernel
theorem dX8_perform_5 : decode cX8_perform 5 = .ok (.iload_n 1, 1) := by decide +kernel
theorem dX8_perform_6 : decode cX8_perform 6 = .ok (.bipush (-5), 2) := by decide +kernel
theorem dX8_perform_8 : decode cX8_perform 8 = .ok (.if_icmp .eq 8, 3) := by decide +kernel
theorem dX8_perform_11 : decode cX8_perform 11 = .ok (.bipush (-100), 2) := by decide +kernel
theorem dX8_perform_13 : decode cX8_perform 13 = .ok (.iload_n 1, 1) := by decide +kernel
theorem dX8_perform_14 : decode cX8_perform 14 = .ok (.isub, 1) := by decide +kernel
theorem dX8_perform_15 : decode cX8_perform 15 = .ok (.ireturn, 1) := by decide +kernel
theorem dX8_perform_16 : decode cX8_perform 16 = .ok (.aload_n 0, 1) := by decide +kernel
theorem dX8_perform_17 : decode cX8_perform 17 = .ok (.iconst 5, 1) := by decide +kernel
theorem dX8_perform_18 : decode cX8_perform 18 = .ok (.invokevirtual 44, 3) := by decide +kernel
theorem dX8_perform_21 : decode cX8_perform 21 = .ok (.iconst 0, 1) := by decide +kernel
theorem dX8_perform_22 : decode cX8_perform 22 = .ok (.istore_n 2, 1) := by decide +kernel
theorem dX8_perform_23 : decode cX8_perform 23 = .ok (.aload_n 0, 1) := by decide +kernel
theorem dX8_perform_24 : decode cX8_perform 24 = .ok (.iconst 0, 1) := by decide +kernel
theorem dX8_perform_25 : decode cX8_perform 25 = .ok (.putfield 177, 3) := by decide +kernel
theorem dX8_perform_28 : decode cX8_perform 28 = .ok (.aload_n 0, 1) := by decide +kernel
theorem dX8_perform_29 : decode cX8_perform 29 = .ok (.getfield 177, 3) := by decide +kernel
theorem dX8_perform_32 : decode cX8_perform 32 = .ok (.aload_n 0, 1) := by decide +kernel
theorem dX8_perform_33 : decode cX8_perform 33 = .ok (.getfield 174, 3) := by decide +kernel
theorem dX8_perform_36 : decode cX8_perform 36 = .ok (.if_icmp .ge 79, 3) := by decide +kernel
theorem dX8_perform_39 : decode cX8_perform 39 = .ok (.aload_n 0, 1) := by decide +kernel
theorem dX8_perform_40 : decode cX8_perform 40 = .ok (.invokevirtual 201, 3) := by decide +kernel
theorem dX8_perform_43 : decode cX8_perform 43 = .ok (.istore_n 3, 1) := by decide +kernel
theorem dX8_perform_44 : decode cX8_perform 44 = .ok (.aload_n 0, 1) := by decide +kernel
theorem dX8_perform_45 : decode cX8_perform 45 = .ok (.invokevirtual 208, 3) := by decide +kernel
theorem dX8_perform_48 : decode cX8_perform 48 = .ok (.istore 4, 2) := by decide +kernel
theorem dX8_perform_50 : decode cX8_perform 50 = .ok (.iload 4, 2) := by decide +kernel
theorem dX8_perform_52 : decode cX8_perform 52 = .ok (.ifCond .ne 21, 3) := by decide +kernel
theorem dX8_perform_55 : decode cX8_perform 55 = .ok (.iload_n 2, 1) := by decide +kernel
theorem dX8_perform_56 : decode cX8_perform 56 = .ok (.aload_n 0, 1) := by decide +kernel
theorem dX8_perform_57 : decode cX8_perform 57 = .ok (.invokevirtual 211, 3) := by decide +kernel
theorem dX8_perform_60 : decode cX8_perform 60 = .ok (.ifCond .ge 7, 3) := by decide +kernel
theorem dX8_perform_63 : decode cX8_perform 63 = .ok (.iconst 0, 1) := by decide +kernel
theorem dX8_perform_64 : decode cX8_perform 64 = .ok (.goto 4, 3) := by decide +kernel
theorem dX8_perform_67 : decode cX8_perform 67 = .ok (.iconst 1, 1) := by decide +kernel
theorem dX8_perform_68 : decode cX8_perform 68 = .ok (.iadd, 1) := by decide +kernel
theorem dX8_perform_69 : decode cX8_perform 69 = .ok (.istore_n 2, 1) := by decide +kernel
theorem dX8_perform_70 : decode cX8_perform 70 = .ok (.goto 24, 3) := by decide +kernel
theorem dX8_perform_73 : decode cX8_perform 73 = .ok (.iload 4, 2) := by decide +kernel
theorem dX8_perform_75 : decode cX8_perform 75 = .ok (.bipush (-5), 2) := by decide +kernel
theorem dX8_perform_77 : decode cX8_perform 77 = .ok (.if_icmp .ne 9, 3) := by decide +kernel
theorem dX8_perform_80 : decode cX8_perform 80 = .ok (.iinc 2 1, 3) := by decide +kernel
theorem dX8_perform_83 : decode cX8_perform 83 = .ok (.goto 11, 3) := by decide +kernel
theorem dX8_perform_86 : decode cX8_perform 86 = .ok (.aload_n 0, 1) := by decide +kernel
theorem dX8_perform_87 : decode cX8_perform 87 = .ok (.iconst 5, 1) := by decide +kernel
theorem dX8_perform_88 : decode cX8_perform 88 = .ok (.invokevirtual 51, 3) := by decide +kernel
theorem dX8_perform_91 : decode cX8_perform 91 = .ok (.iload 4, 2) := by decide +kernel
theorem dX8_perform_93 : decode cX8_perform 93 = .ok (.ireturn, 1) := by decide +kernel
theorem dX8_perform_94 : decode cX8_perform 94 = .ok (.aload_n 0, 1) := by decide +kernel
theorem dX8_perform_95 : decode cX8_perform 95 = .ok (.dup, 1) := by decide +kernel
theorem dX8_perform_96 : decode cX8_perform 96 = .ok (.getfield 177, 3) := by decide +kernel
theorem dX8_perform_99 : decode cX8_perform 99 = .ok (.iload_n 3, 1) := by decide +kernel
theorem dX8_perform_100 : decode cX8_perform 100 = .ok (.ifCond .eq 7, 3) := by decide +kernel
theorem dX8_perform_103 : decode cX8_perform 103 = .ok (.iconst 1, 1) := by decide +kernel
theorem dX8_perform_104 : decode cX8_perform 104 = .ok (.goto 4, 3) := by decide +kernel
theorem dX8_perform_107 : decode cX8_perform 107 = .ok (.iconst 0, 1) := by decide +kernel
theorem dX8_perform_108 : decode cX8_perform 108 = .ok (.iadd, 1) := by decide +kernel
theorem dX8_perform_109 : decode cX8_perform 109 = .ok (.putfield 177, 3) := by decide +kernel
theorem dX8_perform_112 : decode cX8_perform 112 = .ok (.goto (-84), 3) := by decide +kernel
theorem dX8_perform_115 : decode cX8_perform 115 = .ok (.aload_n 0, 1) := by decide +kernel
theorem dX8_perform_116 : decode cX8_perform 116 = .ok (.invokevirtual 48, 3) := by decide +kernel
theorem dX8_perform_119 : decode cX8_perform 119 = .ok (.iload_n 2, 1) := by decide +kernel
theorem dX8_perform_120 : decode cX8_perform 120 = .ok (.ireturn, 1) := by decide +kernel
theorem dX8_real_0 : decode cX8_real 0 = .ok (.aload_n 0, 1) := by decide +kernel
theorem dX8_real_1 : decode cX8_real 1 = .ok (.iload_n 1, 1) := by decide +kernel
theorem dX8_real_2 : decode cX8_real 2 = .ok (.invokevirtual 65, 3) := by decide +kernel
theorem dX8_real_5 : decode cX8_real 5 = .ok (.ifCond .eq 12, 3) := by decide +kernel
theorem dX8_real_8 : decode cX8_real 8 = .ok (.iload_n 2, 1) := by decide +kernel
theorem dX8_real_9 : decode cX8_real 9 = .ok (.iconst 0, 1) := by decide +kernel
theorem dX8_real_10 : decode cX8_real 10 = .ok (.iconst 2, 1) := by decide +kernel
theorem dX8_real_11 : decode cX8_real 11 = .ok (.invokestatic 32, 3) := by decide +kernel
theorem dX8_real_14 : decode cX8_real 14 = .ok (.ifCond .ne 6, 3) := by decide +kernel
theorem dX8_real_17 : decode cX8_real 17 = .ok (.ldc 214, 2) := by decide +kernel
theorem dX8_real_19 : decode cX8_real 19 = .ok (.freturn, 1) := by decide +kernel
theorem dX8_real_20 : decode cX8_real 20 = .ok (.iload_n 2, 1) := by decide +kernel
theorem dX8_real_21 : decode cX8_real 21 = .ok (.ifCond .ne 12, 3) := by decide +kernel
theorem dX8_real_24 : decode cX8_real 24 = .ok (.aload_n 0, 1) := by decide +kernel
theorem dX8_real_25 : decode cX8_real 25 = .ok (.getfield 13, 3) := by decide +kernel
theorem dX8_real_28 : decode cX8_real 28 = .ok (.iload_n 1, 1) := by decide +kernel
theorem dX8_real_29 : decode cX8_real 29 = .ok (.faload, 1) := by decide +kernel
theorem dX8_real_30 : decode cX8_real 30 = .ok (.goto 27, 3) := by decide +kernel
theorem dX8_real_33 : decode cX8_real 33 = .ok (.iload_n 2, 1) := by decide +kernel
theorem dX8_real_34 : decode cX8_real 34 = .ok (.iconst 1, 1) := by decide +kernel
theorem dX8_real_35 : decode cX8_real 35 = .ok (.if_icmp .ne 12, 3) := by decide +kernel
theorem dX8_real_38 : decode cX8_real 38 = .ok (.aload_n 0, 1) := by decide +kernel
theorem dX8_real_39 : decode cX8_real 39 = .ok (.getfield 17, 3) := by decide +kernel
theorem dX8_real_42 : decode cX8_real 42 = .ok (.iload_n 1, 1) := by decide +kernel
theorem dX8_real_43 : decode cX8_real 43 = .ok (.faload, 1) := by decide +kernel
theorem dX8_real_44 : decode cX8_real 44 = .ok (.goto 13, 3) := by decide +kernel
theorem dX8_real_47 : decode cX8_real 47 = .ok (.aload_n 0, 1) := by decide +kernel
theorem dX8_real_48 : decode cX8_real 48 = .ok (.iload_n 1, 1) := by decide +kernel
theorem dX8_real_49 : decode cX8_real 49 = .ok (.iconst 1, 1) := by decide +kernel
theorem dX8_real_50 : decode cX8_real 50 = .ok (.invokevirtual 69, 3) := by decide +kernel
theorem dX8_real_53 : decode cX8_real 53 = .ok (.i2f, 1) := by decide +kernel
theorem dX8_real_54 : decode cX8_real 54 = .ok (.ldc 152, 2) := by decide +kernel
theorem dX8_real_56 : decode cX8_real 56 = .ok (.fdiv, 1) := by decide +kernel
theorem dX8_real_57 : decode cX8_real 57 = .ok (.freturn, 1) := by decide +kernel
theorem dX8_healthIn_0 : decode cX8_healthIn 0 = .ok (.aload_n 0, 1) := by decide +kernel
theorem dX8_healthIn_1 : decode cX8_healthIn 1 = .ok (.iload_n 1, 1) := by decide +kernel
theorem dX8_healthIn_2 : decode cX8_healthIn 2 = .ok (.invokevirtual 65, 3) := by decide +kernel
theorem dX8_healthIn_5 : decode cX8_healthIn 5 = .ok (.ifCond .eq 14, 3) := by decide +kernel
theorem dX8_healthIn_8 : decode cX8_healthIn 8 = .ok (.iload_n 2, 1) := by decide +kernel
theorem dX8_healthIn_9 : decode cX8_healthIn 9 = .ok (.iconst 0, 1) := by decide +kernel
theorem dX8_healthIn_10 : decode cX8_healthIn 10 = .ok (.sipush 200, 3) := by decide +kernel
theorem dX8_healthIn_13 : decode cX8_healthIn 13 = .ok (.invokestatic 32, 3) := by decide +kernel
theorem dX8_healthIn_16 : decode cX8_healthIn 16 = .ok (.ifCond .ne 6, 3) := by decide +kernel
theorem dX8_healthIn_19 : decode cX8_healthIn 19 = .ok (.ldc 214, 2) := by decide +kernel
theorem dX8_healthIn_21 : decode cX8_healthIn 21 = .ok (.freturn, 1) := by decide +kernel
theorem dX8_healthIn_22 : decode cX8_healthIn 22 = .ok (.aload_n 0, 1) := by decide +kernel
theorem dX8_healthIn_23 : decode cX8_healthIn 23 = .ok (.getfield 13, 3) := by decide +kernel
theorem dX8_healthIn_26 : decode cX8_healthIn 26 = .ok (.iload_n 1, 1) := by decide +kernel
theorem dX8_healthIn_27 : decode cX8_healthIn 27 = .ok (.faload, 1) := by decide +kernel
theorem dX8_healthIn_28 : decode cX8_healthIn 28 = .ok (.fstore_n 3, 1) := by decide +kernel
theorem dX8_healthIn_29 : decode cX8_healthIn 29 = .ok (.iconst 0, 1) := by decide +kernel
theorem dX8_healthIn_30 : decode cX8_healthIn 30 = .ok (.istore 4, 2) := by decide +kernel
theorem dX8_healthIn_32 : decode cX8_healthIn 32 = .ok (.iload 4, 2) := by decide +kernel
theorem dX8_healthIn_34 : decode cX8_healthIn 34 = .ok (.iload_n 2, 1) := by decide +kernel
theorem dX8_healthIn_35 : decode cX8_healthIn 35 = .ok (.if_icmp .ge 16, 3) := by decide +kernel
theorem dX8_healthIn_38 : decode cX8_healthIn 38 = .ok (.aload_n 0, 1) := by decide +kernel
theorem dX8_healthIn_39 : decode cX8_healthIn 39 = .ok (.iload_n 1, 1) := by decide +kernel
theorem dX8_healthIn_40 : decode cX8_healthIn 40 = .ok (.fload_n 3, 1) := by decide +kernel
theorem dX8_healthIn_41 : decode cX8_healthIn 41 = .ok (.invokevirtual 154, 3) := by decide +kernel
theorem dX8_healthIn_44 : decode cX8_healthIn 44 = .ok (.fstore_n 3, 1) := by decide +kernel
theorem dX8_healthIn_45 : decode cX8_healthIn 45 = .ok (.iinc 4 1, 3) := by decide +kernel
theorem dX8_healthIn_48 : decode cX8_healthIn 48 = .ok (.goto (-16), 3) := by decide +kernel
theorem dX8_healthIn_51 : decode cX8_healthIn 51 = .ok (.fload_n 3, 1) := by decide +kernel
theorem dX8_healthIn_52 : decode cX8_healthIn 52 = .ok (.freturn, 1) := by decide +kernel
theorem dX8_hoursTo_0 : decode cX8_hoursTo 0 = .ok (.aload_n 0, 1) := by decide +kernel
theorem dX8_hoursTo_1 : decode cX8_hoursTo 1 = .ok (.iload_n 1, 1) := by decide +kernel
theorem dX8_hoursTo_2 : decode cX8_hoursTo 2 = .ok (.invokevirtual 65, 3) := by decide +kernel
theorem dX8_hoursTo_5 : decode cX8_hoursTo 5 = .ok (.ifCond .ne 5, 3) := by decide +kernel
theorem dX8_hoursTo_8 : decode cX8_hoursTo 8 = .ok (.iconst (-1), 1) := by decide +kernel
theorem dX8_hoursTo_9 : decode cX8_hoursTo 9 = .ok (.ireturn, 1) := by decide +kernel
theorem dX8_hoursTo_10 : decode cX8_hoursTo 10 = .ok (.iload_n 2, 1) := by decide +kernel
theorem dX8_hoursTo_11 : decode cX8_hoursTo 11 = .ok (.iconst 1, 1) := by decide +kernel
theorem dX8_hoursTo_12 : decode cX8_hoursTo 12 = .ok (.bipush 100, 2) := by decide +kernel
theorem dX8_hoursTo_14 : decode cX8_hoursTo 14 = .ok (.invokestatic 32, 3) := by decide +kernel
theorem dX8_hoursTo_17 : decode cX8_hoursTo 17 = .ok (.ifCond .ne 6, 3) := by decide +kernel
theorem dX8_hoursTo_20 : decode cX8_hoursTo 20 = .ok (.bipush (-2), 2) := by decide +kernel
theorem dX8_hoursTo_22 : decode cX8_hoursTo 22 = .ok (.ireturn, 1) := by decide +kernel
theorem dX8_hoursTo_23 : decode cX8_hoursTo 23 = .ok (.iload_n 2, 1) := by decide +kernel
theorem dX8_hoursTo_24 : decode cX8_hoursTo 24 = .ok (.i2f, 1) := by decide +kernel
theorem dX8_hoursTo_25 : decode cX8_hoursTo 25 = .ok (.ldc 215, 2) := by decide +kernel
theorem dX8_hoursTo_27 : decode cX8_hoursTo 27 = .ok (.fdiv, 1) := by decide +kernel
theorem dX8_hoursTo_28 : decode cX8_hoursTo 28 = .ok (.fstore_n 3, 1) := by decide +kernel
theorem dX8_hoursTo_29 : decode cX8_hoursTo 29 = .ok (.aload_n 0, 1) := by decide +kernel
theorem dX8_hoursTo_30 : decode cX8_hoursTo 30 = .ok (.getfield 13, 3) := by decide +kernel
theorem dX8_hoursTo_33 : decode cX8_hoursTo 33 = .ok (.iload_n 1, 1) := by decide +kernel
theorem dX8_hoursTo_34 : decode cX8_hoursTo 34 = .ok (.faload, 1) := by decide +kernel
theorem dX8_hoursTo_35 : decode cX8_hoursTo 35 = .ok (.fstore 4, 2) := by decide +kernel
theorem dX8_hoursTo_37 : decode cX8_hoursTo 37 = .ok (.iconst 0, 1) := by decide +kernel
theorem dX8_hoursTo_38 : decode cX8_hoursTo 38 = .ok (.istore 5, 2) := by decide +kernel
theorem dX8_hoursTo_40 : decode cX8_hoursTo 40 = .ok (.iload 5, 2) := by decide +kernel
theorem dX8_hoursTo_42 : decode cX8_hoursTo 42 = .ok (.sipush 200, 3) := by decide +kernel
theorem dX8_hoursTo_45 : decode cX8_hoursTo 45 = .ok (.if_icmp .gt 28, 3) := by decide +kernel
theorem dX8_hoursTo_48 : decode cX8_hoursTo 48 = .ok (.fload 4, 2) := by decide +kernel
theorem dX8_hoursTo_50 : decode cX8_hoursTo 50 = .ok (.fload_n 3, 1) := by decide +kernel
theorem dX8_hoursTo_51 : decode cX8_hoursTo 51 = .ok (.fcmp .g, 1) := by decide +kernel
theorem dX8_hoursTo_52 : decode cX8_hoursTo 52 = .ok (.ifCond .ge 6, 3) := by decide +kernel
theorem dX8_hoursTo_55 : decode cX8_hoursTo 55 = .ok (.iload 5, 2) := by decide +kernel
theorem dX8_hoursTo_57 : decode cX8_hoursTo 57 = .ok (.ireturn, 1) := by decide +kernel
theorem dX8_hoursTo_58 : decode cX8_hoursTo 58 = .ok (.aload_n 0, 1) := by decide +kernel
theorem dX8_hoursTo_59 : decode cX8_hoursTo 59 = .ok (.iload_n 1, 1) := by decide +kernel
theorem dX8_hoursTo_60 : decode cX8_hoursTo 60 = .ok (.fload 4, 2) := by decide +kernel
theorem dX8_hoursTo_62 : decode cX8_hoursTo 62 = .ok (.invokevirtual 154, 3) := by decide +kernel
theorem dX8_hoursTo_65 : decode cX8_hoursTo 65 = .ok (.fstore 4, 2) := by decide +kernel
theorem dX8_hoursTo_67 : decode cX8_hoursTo 67 = .ok (.iinc 5 1, 3) := by decide +kernel
theorem dX8_hoursTo_70 : decode cX8_hoursTo 70 = .ok (.goto (-30), 3) := by decide +kernel
theorem dX8_hoursTo_73 : decode cX8_hoursTo 73 = .ok (.bipush (-5), 2) := by decide +kernel
theorem dX8_hoursTo_75 : decode cX8_hoursTo 75 = .ok (.ireturn, 1) := by decide +kernel
theorem dX8_tasksAt_0 : decode cX8_tasksAt 0 = .ok (.iconst 0, 1) := by decide +kernel
theorem dX8_tasksAt_1 : decode cX8_tasksAt 1 = .ok (.istore 4, 2) := by decide +kernel
theorem dX8_tasksAt_3 : decode cX8_tasksAt 3 = .ok (.iconst 0, 1) := by decide +kernel
theorem dX8_tasksAt_4 : decode cX8_tasksAt 4 = .ok (.istore 5, 2) := by decide +kernel
theorem dX8_tasksAt_6 : decode cX8_tasksAt 6 = .ok (.iload 5, 2) := by decide +kernel
theorem dX8_tasksAt_8 : decode cX8_tasksAt 8 = .ok (.aload_n 0, 1) := by decide +kernel
theorem dX8_tasksAt_9 : decode cX8_tasksAt 9 = .ok (.getfield 7, 3) := by decide +kernel
theorem dX8_tasksAt_12 : decode cX8_tasksAt 12 = .ok (.iconst 3, 1) := by decide +kernel
theorem dX8_tasksAt_13 : decode cX8_tasksAt 13 = .ok (.iaload, 1) := by decide +kernel
theorem dX8_tasksAt_14 : decode cX8_tasksAt 14 = .ok (.if_icmp .ge 44, 3) := by decide +kernel
theorem dX8_tasksAt_17 : decode cX8_tasksAt 17 = .ok (.iload 4, 2) := by decide +kernel
theorem dX8_tasksAt_19 : decode cX8_tasksAt 19 = .ok (.aload_n 0, 1) := by decide +kernel
theorem dX8_tasksAt_20 : decode cX8_tasksAt 20 = .ok (.iload 5, 2) := by decide +kernel
theorem dX8_tasksAt_22 : decode cX8_tasksAt 22 = .ok (.iconst 0, 1) := by decide +kernel
theorem dX8_tasksAt_23 : decode cX8_tasksAt 23 = .ok (.invokevirtual 84, 3) := by decide +kernel
theorem dX8_tasksAt_26 : decode cX8_tasksAt 26 = .ok (.iload_n 1, 1) := by decide +kernel
theorem dX8_tasksAt_27 : decode cX8_tasksAt 27 = .ok (.if_icmp .ne 21, 3) := by decide +kernel
theorem dX8_tasksAt_30 : decode cX8_tasksAt 30 = .ok (.aload_n 0, 1) := by decide +kernel
theorem dX8_tasksAt_31 : decode cX8_tasksAt 31 = .ok (.iload 5, 2) := by decide +kernel
theorem dX8_tasksAt_33 : decode cX8_tasksAt 33 = .ok (.invokevirtual 87, 3) := by decide +kernel
theorem dX8_tasksAt_36 : decode cX8_tasksAt 36 = .ok (.iload_n 2, 1) := by decide +kernel
theorem dX8_tasksAt_37 : decode cX8_tasksAt 37 = .ok (.iload_n 3, 1) := by decide +kernel
theorem dX8_tasksAt_38 : decode cX8_tasksAt 38 = .ok (.invokestatic 32, 3) := by decide +kernel
theorem dX8_tasksAt_41 : decode cX8_tasksAt 41 = .ok (.ifCond .eq 7, 3) := by decide +kernel
theorem dX8_tasksAt_44 : decode cX8_tasksAt 44 = .ok (.iconst 1, 1) := by decide +kernel
theorem dX8_tasksAt_45 : decode cX8_tasksAt 45 = .ok (.goto 4, 3) := by decide +kernel
theorem dX8_tasksAt_48 : decode cX8_tasksAt 48 = .ok (.iconst 0, 1) := by decide +kernel
theorem dX8_tasksAt_49 : decode cX8_tasksAt 49 = .ok (.iadd, 1) := by decide +kernel
theorem dX8_tasksAt_50 : decode cX8_tasksAt 50 = .ok (.istore 4, 2) := by decide +kernel
theorem dX8_tasksAt_52 : decode cX8_tasksAt 52 = .ok (.iinc 5 1, 3) := by decide +kernel
theorem dX8_tasksAt_55 : decode cX8_tasksAt 55 = .ok (.goto (-49), 3) := by decide +kernel
theorem dX8_tasksAt_58 : decode cX8_tasksAt 58 = .ok (.iload 4, 2) := by decide +kernel
theorem dX8_tasksAt_60 : decode cX8_tasksAt 60 = .ok (.ireturn, 1) := by decide +kernel
theorem dX8_asset_0 : decode cX8_asset 0 = .ok (.aload_n 0, 1) := by decide +kernel
theorem dX8_asset_1 : decode cX8_asset 1 = .ok (.iload_n 1, 1) := by decide +kernel
theorem dX8_asset_2 : decode cX8_asset 2 = .ok (.invokevirtual 65, 3) := by decide +kernel
theorem dX8_asset_5 : decode cX8_asset 5 = .ok (.ifCond .ne 5, 3) := by decide +kernel
theorem dX8_asset_8 : decode cX8_asset 8 = .ok (.iconst (-1), 1) := by decide +kernel
theorem dX8_asset_9 : decode cX8_asset 9 = .ok (.ireturn, 1) := by decide +kernel
theorem dX8_asset_10 : decode cX8_asset 10 = .ok (.iload_n 2, 1) := by decide +kernel
theorem dX8_asset_11 : decode cX8_asset 11 = .ok (.tableswitch 107 0 7 #[45, 52, 59, 65, 72, 80, 88, 99], 45) := by decide +kernel
theorem dX8_asset_56 : decode cX8_asset 56 = .ok (.aload_n 0, 1) := by decide +kernel
theorem dX8_asset_57 : decode cX8_asset 57 = .ok (.iload_n 1, 1) := by decide +kernel
theorem dX8_asset_58 : decode cX8_asset 58 = .ok (.iconst 2, 1) := by decide +kernel
theorem dX8_asset_59 : decode cX8_asset 59 = .ok (.invokevirtual 69, 3) := by decide +kernel
theorem dX8_asset_62 : decode cX8_asset 62 = .ok (.ireturn, 1) := by decide +kernel
theorem dX8_asset_63 : decode cX8_asset 63 = .ok (.aload_n 0, 1) := by decide +kernel
theorem dX8_asset_64 : decode cX8_asset 64 = .ok (.iload_n 1, 1) := by decide +kernel
theorem dX8_asset_65 : decode cX8_asset 65 = .ok (.iconst 4, 1) := by decide +kernel
theorem dX8_asset_66 : decode cX8_asset 66 = .ok (.invokevirtual 69, 3) := by decide +kernel
theorem dX8_asset_69 : decode cX8_asset 69 = .ok (.ireturn, 1) := by decide +kernel
theorem dX8_asset_70 : decode cX8_asset 70 = .ok (.aload_n 0, 1) := by decide +kernel
theorem dX8_asset_71 : decode cX8_asset 71 = .ok (.iload_n 1, 1) := by decide +kernel
theorem dX8_asset_72 : decode cX8_asset 72 = .ok (.invokevirtual 143, 3) := by decide +kernel
theorem dX8_asset_75 : decode cX8_asset 75 = .ok (.ireturn, 1) := by decide +kernel
theorem dX8_asset_76 : decode cX8_asset 76 = .ok (.aload_n 0, 1) := by decide +kernel
theorem dX8_asset_77 : decode cX8_asset 77 = .ok (.iload_n 1, 1) := by decide +kernel
theorem dX8_asset_78 : decode cX8_asset 78 = .ok (.iconst 3, 1) := by decide +kernel
theorem dX8_asset_79 : decode cX8_asset 79 = .ok (.invokevirtual 69, 3) := by decide +kernel
theorem dX8_asset_82 : decode cX8_asset 82 = .ok (.ireturn, 1) := by decide +kernel
theorem dX8_asset_83 : decode cX8_asset 83 = .ok (.aload_n 0, 1) := by decide +kernel
theorem dX8_asset_84 : decode cX8_asset 84 = .ok (.iload_n 1, 1) := by decide +kernel
theorem dX8_asset_85 : decode cX8_asset 85 = .ok (.iconst 0, 1) := by decide +kernel
theorem dX8_asset_86 : decode cX8_asset 86 = .ok (.iconst 3, 1) := by decide +kernel
theorem dX8_asset_87 : decode cX8_asset 87 = .ok (.invokevirtual 216, 3) := by decide +kernel
theorem dX8_asset_90 : decode cX8_asset 90 = .ok (.ireturn, 1) := by decide +kernel
theorem dX8_asset_91 : decode cX8_asset 91 = .ok (.aload_n 0, 1) := by decide +kernel
theorem dX8_asset_92 : decode cX8_asset 92 = .ok (.iload_n 1, 1) := by decide +kernel
theorem dX8_asset_93 : decode cX8_asset 93 = .ok (.iconst 4, 1) := by decide +kernel
theorem dX8_asset_94 : decode cX8_asset 94 = .ok (.iconst 4, 1) := by decide +kernel
theorem dX8_asset_95 : decode cX8_asset 95 = .ok (.invokevirtual 216, 3) := by decide +kernel
theorem dX8_asset_98 : decode cX8_asset 98 = .ok (.ireturn, 1) := by decide +kernel
theorem dX8_asset_99 : decode cX8_asset 99 = .ok (.aload_n 0, 1) := by decide +kernel
theorem dX8_asset_100 : decode cX8_asset 100 = .ok (.getfield 13, 3) := by decide +kernel
theorem dX8_asset_103 : decode cX8_asset 103 = .ok (.iload_n 1, 1) := by decide +kernel
theorem dX8_asset_104 : decode cX8_asset 104 = .ok (.faload, 1) := by decide +kernel
theorem dX8_asset_105 : decode cX8_asset 105 = .ok (.ldc 152, 2) := by decide +kernel
theorem dX8_asset_107 : decode cX8_asset 107 = .ok (.fmul, 1) := by decide +kernel
theorem dX8_asset_108 : decode cX8_asset 108 = .ok (.f2i, 1) := by decide +kernel
theorem dX8_asset_109 : decode cX8_asset 109 = .ok (.ireturn, 1) := by decide +kernel
theorem dX8_asset_110 : decode cX8_asset 110 = .ok (.aload_n 0, 1) := by decide +kernel
theorem dX8_asset_111 : decode cX8_asset 111 = .ok (.getfield 17, 3) := by decide +kernel
theorem dX8_asset_114 : decode cX8_asset 114 = .ok (.iload_n 1, 1) := by decide +kernel
theorem dX8_asset_115 : decode cX8_asset 115 = .ok (.faload, 1) := by decide +kernel
theorem dX8_asset_116 : decode cX8_asset 116 = .ok (.f2i, 1) := by decide +kernel
theorem dX8_asset_117 : decode cX8_asset 117 = .ok (.ireturn, 1) := by decide +kernel
theorem dX8_asset_118 : decode cX8_asset 118 = .ok (.bipush (-2), 2) := by decide +kernel
theorem dX8_asset_120 : decode cX8_asset 120 = .ok (.ireturn, 1) := by decide +kernel
theorem dX8_tagAt_0 : decode cX8_tagAt 0 = .ok (.aload_n 0, 1) := by decide +kernel
theorem dX8_tagAt_1 : decode cX8_tagAt 1 = .ok (.iload_n 1, 1) := by decide +kernel
theorem dX8_tagAt_2 : decode cX8_tagAt 2 = .ok (.invokevirtual 65, 3) := by decide +kernel
theorem dX8_tagAt_5 : decode cX8_tagAt 5 = .ok (.ifCond .ne 5, 3) := by decide +kernel
theorem dX8_tagAt_8 : decode cX8_tagAt 8 = .ok (.iconst (-1), 1) := by decide +kernel
theorem dX8_tagAt_9 : decode cX8_tagAt 9 = .ok (.ireturn, 1) := by decide +kernel
theorem dX8_tagAt_10 : decode cX8_tagAt 10 = .ok (.iload_n 2, 1) := by decide +kernel
theorem dX8_tagAt_11 : decode cX8_tagAt 11 = .ok (.ifCond .ge 6, 3) := by decide +kernel
theorem dX8_tagAt_14 : decode cX8_tagAt 14 = .ok (.bipush (-2), 2) := by decide +kernel
theorem dX8_tagAt_16 : decode cX8_tagAt 16 = .ok (.ireturn, 1) := by decide +kernel
theorem dX8_tagAt_17 : decode cX8_tagAt 17 = .ok (.aload_n 0, 1) := by decide +kernel
theorem dX8_tagAt_18 : decode cX8_tagAt 18 = .ok (.iload_n 1, 1) := by decide +kernel
theorem dX8_tagAt_19 : decode cX8_tagAt 19 = .ok (.iconst 4, 1) := by decide +kernel
theorem dX8_tagAt_20 : decode cX8_tagAt 20 = .ok (.invokevirtual 69, 3) := by decide +kernel
theorem dX8_tagAt_23 : decode cX8_tagAt 23 = .ok (.istore_n 3, 1) := by decide +kernel
theorem dX8_tagAt_24 : decode cX8_tagAt 24 = .ok (.iload_n 2, 1) := by decide +kernel
theorem dX8_tagAt_25 : decode cX8_tagAt 25 = .ok (.iload_n 3, 1) := by decide +kernel
theorem dX8_tagAt_26 : decode cX8_tagAt 26 = .ok (.if_icmp .ge 24, 3) := by decide +kernel
theorem dX8_tagAt_29 : decode cX8_tagAt 29 = .ok (.aload_n 0, 1) := by decide +kernel
theorem dX8_tagAt_30 : decode cX8_tagAt 30 = .ok (.getfield 7, 3) := by decide +kernel
theorem dX8_tagAt_33 : decode cX8_tagAt 33 = .ok (.bipush 44, 2) := by decide +kernel
theorem dX8_tagAt_35 : decode cX8_tagAt 35 = .ok (.bipush 24, 2) := by decide +kernel
theorem dX8_tagAt_37 : decode cX8_tagAt 37 = .ok (.iload_n 1, 1) := by decide +kernel
theorem dX8_tagAt_38 : decode cX8_tagAt 38 = .ok (.imul, 1) := by decide +kernel
theorem dX8_tagAt_39 : decode cX8_tagAt 39 = .ok (.iadd, 1) := by decide +kernel
theorem dX8_tagAt_40 : decode cX8_tagAt 40 = .ok (.iload_n 3, 1) := by decide +kernel
theorem dX8_tagAt_41 : decode cX8_tagAt 41 = .ok (.iadd, 1) := by decide +kernel
theorem dX8_tagAt_42 : decode cX8_tagAt 42 = .ok (.iconst 1, 1) := by decide +kernel
theorem dX8_tagAt_43 : decode cX8_tagAt 43 = .ok (.isub, 1) := by decide +kernel
theorem dX8_tagAt_44 : decode cX8_tagAt 44 = .ok (.iload_n 2, 1) := by decide +kernel
theorem dX8_tagAt_45 : decode cX8_tagAt 45 = .ok (.isub, 1) := by decide +kernel
theorem dX8_tagAt_46 : decode cX8_tagAt 46 = .ok (.iaload, 1) := by decide +kernel
theorem dX8_tagAt_47 : decode cX8_tagAt 47 = .ok (.goto 5, 3) := by decide +kernel
theorem dX8_tagAt_50 : decode cX8_tagAt 50 = .ok (.bipush (-5), 2) := by decide +kernel
theorem dX8_tagAt_52 : decode cX8_tagAt 52 = .ok (.ireturn, 1) := by decide +kernel
theorem dX8_doneBy_0 : decode cX8_doneBy 0 = .ok (.iconst 0, 1) := by decide +kernel
theorem dX8_doneBy_1 : decode cX8_doneBy 1 = .ok (.istore_n 2, 1) := by decide +kernel
theorem dX8_doneBy_2 : decode cX8_doneBy 2 = .ok (.iconst 0, 1) := by decide +kernel
theorem dX8_doneBy_3 : decode cX8_doneBy 3 = .ok (.istore_n 3, 1) := by decide +kernel
theorem dX8_doneBy_4 : decode cX8_doneBy 4 = .ok (.iload_n 3, 1) := by decide +kernel
theorem dX8_doneBy_5 : decode cX8_doneBy 5 = .ok (.aload_n 0, 1) := by decide +kernel
theorem dX8_doneBy_6 : decode cX8_doneBy 6 = .ok (.getfield 7, 3) := by decide +kernel
theorem dX8_doneBy_9 : decode cX8_doneBy 9 = .ok (.iconst 3, 1) := by decide +kernel
theorem dX8_doneBy_10 : decode cX8_doneBy 10 = .ok (.iaload, 1) := by decide +kernel
theorem dX8_doneBy_11 : decode cX8_doneBy 11 = .ok (.if_icmp .ge 37, 3) := by decide +kernel
theorem dX8_doneBy_14 : decode cX8_doneBy 14 = .ok (.iload_n 2, 1) := by decide +kernel
theorem dX8_doneBy_15 : decode cX8_doneBy 15 = .ok (.aload_n 0, 1) := by decide +kernel
theorem dX8_doneBy_16 : decode cX8_doneBy 16 = .ok (.iload_n 3, 1) := by decide +kernel
theorem dX8_doneBy_17 : decode cX8_doneBy 17 = .ok (.invokevirtual 87, 3) := by decide +kernel
theorem dX8_doneBy_20 : decode cX8_doneBy 20 = .ok (.iconst 4, 1) := by decide +kernel
theorem dX8_doneBy_21 : decode cX8_doneBy 21 = .ok (.if_icmp .ne 18, 3) := by decide +kernel
theorem dX8_doneBy_24 : decode cX8_doneBy 24 = .ok (.aload_n 0, 1) := by decide +kernel
theorem dX8_doneBy_25 : decode cX8_doneBy 25 = .ok (.iload_n 3, 1) := by decide +kernel
theorem dX8_doneBy_26 : decode cX8_doneBy 26 = .ok (.bipush 7, 2) := by decide +kernel
theorem dX8_doneBy_28 : decode cX8_doneBy 28 = .ok (.invokevirtual 84, 3) := by decide +kernel
theorem dX8_doneBy_31 : decode cX8_doneBy 31 = .ok (.iload_n 1, 1) := by decide +kernel
theorem dX8_doneBy_32 : decode cX8_doneBy 32 = .ok (.if_icmp .ne 7, 3) := by decide +kernel
theorem dX8_doneBy_35 : decode cX8_doneBy 35 = .ok (.iconst 1, 1) := by decide +kernel
theorem dX8_doneBy_36 : decode cX8_doneBy 36 = .ok (.goto 4, 3) := by decide +kernel
theorem dX8_doneBy_39 : decode cX8_doneBy 39 = .ok (.iconst 0, 1) := by decide +kernel
theorem dX8_doneBy_40 : decode cX8_doneBy 40 = .ok (.iadd, 1) := by decide +kernel
theorem dX8_doneBy_41 : decode cX8_doneBy 41 = .ok (.istore_n 2, 1) := by decide +kernel
theorem dX8_doneBy_42 : decode cX8_doneBy 42 = .ok (.iinc 3 1, 3) := by decide +kernel
theorem dX8_doneBy_45 : decode cX8_doneBy 45 = .ok (.goto (-41), 3) := by decide +kernel
theorem dX8_doneBy_48 : decode cX8_doneBy 48 = .ok (.iload_n 2, 1) := by decide +kernel
theorem dX8_doneBy_49 : decode cX8_doneBy 49 = .ok (.ireturn, 1) := by decide +kernel
theorem dX8_crew_0 : decode cX8_crew 0 = .ok (.aload_n 0, 1) := by decide +kernel
theorem dX8_crew_1 : decode cX8_crew 1 = .ok (.iload_n 1, 1) := by decide +kernel
theorem dX8_crew_2 : decode cX8_crew 2 = .ok (.invokevirtual 122, 3) := by decide +kernel
theorem dX8_crew_5 : decode cX8_crew 5 = .ok (.ifCond .ne 5, 3) := by decide +kernel
theorem dX8_crew_8 : decode cX8_crew 8 = .ok (.iconst (-1), 1) := by decide +kernel
theorem dX8_crew_9 : decode cX8_crew 9 = .ok (.ireturn, 1) := by decide +kernel
theorem dX8_crew_10 : decode cX8_crew 10 = .ok (.iload_n 2, 1) := by decide +kernel
theorem dX8_crew_11 : decode cX8_crew 11 = .ok (.tableswitch 70 0 4 #[33, 33, 48, 48, 64], 33) := by decide +kernel
theorem dX8_crew_44 : decode cX8_crew 44 = .ok (.aload_n 0, 1) := by decide +kernel
theorem dX8_crew_45 : decode cX8_crew 45 = .ok (.getfield 7, 3) := by decide +kernel
theorem dX8_crew_48 : decode cX8_crew 48 = .ok (.sipush 236, 3) := by decide +kernel
theorem dX8_crew_51 : decode cX8_crew 51 = .ok (.iconst 2, 1) := by decide +kernel
theorem dX8_crew_52 : decode cX8_crew 52 = .ok (.iload_n 1, 1) := by decide +kernel
theorem dX8_crew_53 : decode cX8_crew 53 = .ok (.imul, 1) := by decide +kernel
theorem dX8_crew_54 : decode cX8_crew 54 = .ok (.iadd, 1) := by decide +kernel
theorem dX8_crew_55 : decode cX8_crew 55 = .ok (.iload_n 2, 1) := by decide +kernel
theorem dX8_crew_56 : decode cX8_crew 56 = .ok (.iadd, 1) := by decide +kernel
theorem dX8_crew_57 : decode cX8_crew 57 = .ok (.iaload, 1) := by decide +kernel
theorem dX8_crew_58 : decode cX8_crew 58 = .ok (.ireturn, 1) := by decide +kernel
theorem dX8_crew_59 : decode cX8_crew 59 = .ok (.aload_n 0, 1) := by decide +kernel
theorem dX8_crew_60 : decode cX8_crew 60 = .ok (.iload_n 1, 1) := by decide +kernel
theorem dX8_crew_61 : decode cX8_crew 61 = .ok (.iload_n 2, 1) := by decide +kernel
theorem dX8_crew_62 : decode cX8_crew 62 = .ok (.iconst 2, 1) := by decide +kernel
theorem dX8_crew_63 : decode cX8_crew 63 = .ok (.if_icmp .ne 7, 3) := by decide +kernel
theorem dX8_crew_66 : decode cX8_crew 66 = .ok (.iconst 1, 1) := by decide +kernel
theorem dX8_crew_67 : decode cX8_crew 67 = .ok (.goto 4, 3) := by decide +kernel
theorem dX8_crew_70 : decode cX8_crew 70 = .ok (.iconst 0, 1) := by decide +kernel
theorem dX8_crew_71 : decode cX8_crew 71 = .ok (.invokevirtual 93, 3) := by decide +kernel
theorem dX8_crew_74 : decode cX8_crew 74 = .ok (.ireturn, 1) := by decide +kernel
theorem dX8_crew_75 : decode cX8_crew 75 = .ok (.aload_n 0, 1) := by decide +kernel
theorem dX8_crew_76 : decode cX8_crew 76 = .ok (.iload_n 1, 1) := by decide +kernel
theorem dX8_crew_77 : decode cX8_crew 77 = .ok (.invokevirtual 220, 3) := by decide +kernel
theorem dX8_crew_80 : decode cX8_crew 80 = .ok (.ireturn, 1) := by decide +kernel
theorem dX8_crew_81 : decode cX8_crew 81 = .ok (.bipush (-2), 2) := by decide +kernel
theorem dX8_crew_83 : decode cX8_crew 83 = .ok (.ireturn, 1) := by decide +kernel
theorem dX8_task_0 : decode cX8_task 0 = .ok (.aload_n 0, 1) := by decide +kernel
theorem dX8_task_1 : decode cX8_task 1 = .ok (.iload_n 1, 1) := by decide +kernel
theorem dX8_task_2 : decode cX8_task 2 = .ok (.invokevirtual 119, 3) := by decide +kernel
theorem dX8_task_5 : decode cX8_task 5 = .ok (.ifCond .ne 5, 3) := by decide +kernel
theorem dX8_task_8 : decode cX8_task 8 = .ok (.iconst (-1), 1) := by decide +kernel
theorem dX8_task_9 : decode cX8_task 9 = .ok (.ireturn, 1) := by decide +kernel
theorem dX8_task_10 : decode cX8_task 10 = .ok (.iload_n 2, 1) := by decide +kernel
theorem dX8_task_11 : decode cX8_task 11 = .ok (.tableswitch 157 0 12 #[65, 72, 78, 78, 78, 78, 78, 87, 93, 101, 123, 131, 137], 65) := by decide +kernel
theorem dX8_task_76 : decode cX8_task 76 = .ok (.aload_n 0, 1) := by decide +kernel
theorem dX8_task_77 : decode cX8_task 77 = .ok (.iload_n 1, 1) := by decide +kernel
theorem dX8_task_78 : decode cX8_task 78 = .ok (.iconst 0, 1) := by decide +kernel
theorem dX8_task_79 : decode cX8_task 79 = .ok (.invokevirtual 84, 3) := by decide +kernel
theorem dX8_task_82 : decode cX8_task 82 = .ok (.ireturn, 1) := by decide +kernel
theorem dX8_task_83 : decode cX8_task 83 = .ok (.aload_n 0, 1) := by decide +kernel
theorem dX8_task_84 : decode cX8_task 84 = .ok (.iload_n 1, 1) := by decide +kernel
theorem dX8_task_85 : decode cX8_task 85 = .ok (.invokevirtual 87, 3) := by decide +kernel
theorem dX8_task_88 : decode cX8_task 88 = .ok (.ireturn, 1) := by decide +kernel
theorem dX8_task_89 : decode cX8_task 89 = .ok (.aload_n 0, 1) := by decide +kernel
theorem dX8_task_90 : decode cX8_task 90 = .ok (.iload_n 1, 1) := by decide +kernel
theorem dX8_task_91 : decode cX8_task 91 = .ok (.iload_n 2, 1) := by decide +kernel
theorem dX8_task_92 : decode cX8_task 92 = .ok (.iconst 1, 1) := by decide +kernel
theorem dX8_task_93 : decode cX8_task 93 = .ok (.isub, 1) := by decide +kernel
theorem dX8_task_94 : decode cX8_task 94 = .ok (.invokevirtual 84, 3) := by decide +kernel
theorem dX8_task_97 : decode cX8_task 97 = .ok (.ireturn, 1) := by decide +kernel
theorem dX8_task_98 : decode cX8_task 98 = .ok (.aload_n 0, 1) := by decide +kernel
theorem dX8_task_99 : decode cX8_task 99 = .ok (.iload_n 1, 1) := by decide +kernel
theorem dX8_task_100 : decode cX8_task 100 = .ok (.invokevirtual 97, 3) := by decide +kernel
theorem dX8_task_103 : decode cX8_task 103 = .ok (.ireturn, 1) := by decide +kernel
theorem dX8_task_104 : decode cX8_task 104 = .ok (.aload_n 0, 1) := by decide +kernel
theorem dX8_task_105 : decode cX8_task 105 = .ok (.iload_n 1, 1) := by decide +kernel
theorem dX8_task_106 : decode cX8_task 106 = .ok (.bipush 7, 2) := by decide +kernel
theorem dX8_task_108 : decode cX8_task 108 = .ok (.invokevirtual 84, 3) := by decide +kernel
theorem dX8_task_111 : decode cX8_task 111 = .ok (.ireturn, 1) := by decide +kernel
theorem dX8_task_112 : decode cX8_task 112 = .ok (.aload_n 0, 1) := by decide +kernel
theorem dX8_task_113 : decode cX8_task 113 = .ok (.iload_n 1, 1) := by decide +kernel
theorem dX8_task_114 : decode cX8_task 114 = .ok (.invokevirtual 87, 3) := by decide +kernel
theorem dX8_task_117 : decode cX8_task 117 = .ok (.iconst 2, 1) := by decide +kernel
theorem dX8_task_118 : decode cX8_task 118 = .ok (.if_icmp .ne 13, 3) := by decide +kernel
theorem dX8_task_121 : decode cX8_task 121 = .ok (.aload_n 0, 1) := by decide +kernel
theorem dX8_task_122 : decode cX8_task 122 = .ok (.iload_n 1, 1) := by decide +kernel
theorem dX8_task_123 : decode cX8_task 123 = .ok (.bipush 8, 2) := by decide +kernel
theorem dX8_task_125 : decode cX8_task 125 = .ok (.invokevirtual 84, 3) := by decide +kernel
theorem dX8_task_128 : decode cX8_task 128 = .ok (.goto 5, 3) := by decide +kernel
theorem dX8_task_131 : decode cX8_task 131 = .ok (.bipush (-5), 2) := by decide +kernel
theorem dX8_task_133 : decode cX8_task 133 = .ok (.ireturn, 1) := by decide +kernel
theorem dX8_task_134 : decode cX8_task 134 = .ok (.aload_n 0, 1) := by decide +kernel
theorem dX8_task_135 : decode cX8_task 135 = .ok (.iload_n 1, 1) := by decide +kernel
theorem dX8_task_136 : decode cX8_task 136 = .ok (.bipush 9, 2) := by decide +kernel
theorem dX8_task_138 : decode cX8_task 138 = .ok (.invokevirtual 84, 3) := by decide +kernel
theorem dX8_task_141 : decode cX8_task 141 = .ok (.ireturn, 1) := by decide +kernel
theorem dX8_task_142 : decode cX8_task 142 = .ok (.aload_n 0, 1) := by decide +kernel
theorem dX8_task_143 : decode cX8_task 143 = .ok (.iload_n 1, 1) := by decide +kernel
theorem dX8_task_144 : decode cX8_task 144 = .ok (.invokevirtual 134, 3) := by decide +kernel
theorem dX8_task_147 : decode cX8_task 147 = .ok (.ireturn, 1) := by decide +kernel
theorem dX8_task_148 : decode cX8_task 148 = .ok (.aload_n 0, 1) := by decide +kernel
theorem dX8_task_149 : decode cX8_task 149 = .ok (.iload_n 1, 1) := by decide +kernel
theorem dX8_task_150 : decode cX8_task 150 = .ok (.invokevirtual 87, 3) := by decide +kernel
theorem dX8_task_153 : decode cX8_task 153 = .ok (.iconst 2, 1) := by decide +kernel
theorem dX8_task_154 : decode cX8_task 154 = .ok (.if_icmp .ne 8, 3) := by decide +kernel
theorem dX8_task_157 : decode cX8_task 157 = .ok (.bipush (-5), 2) := by decide +kernel
theorem dX8_task_159 : decode cX8_task 159 = .ok (.goto 8, 3) := by decide +kernel
theorem dX8_task_162 : decode cX8_task 162 = .ok (.aload_n 0, 1) := by decide +kernel
theorem dX8_task_163 : decode cX8_task 163 = .ok (.iload_n 1, 1) := by decide +kernel
theorem dX8_task_164 : decode cX8_task 164 = .ok (.invokevirtual 103, 3) := by decide +kernel
theorem dX8_task_167 : decode cX8_task 167 = .ok (.ireturn, 1) := by decide +kernel
theorem dX8_task_168 : decode cX8_task 168 = .ok (.bipush (-2), 2) := by decide +kernel
theorem dX8_task_170 : decode cX8_task 170 = .ok (.ireturn, 1) := by decide +kernel
theorem dX8_crewFor_0 : decode cX8_crewFor 0 = .ok (.aload_n 0, 1) := by decide +kernel
theorem dX8_crewFor_1 : decode cX8_crewFor 1 = .ok (.iload_n 1, 1) := by decide +kernel
theorem dX8_crewFor_2 : decode cX8_crewFor 2 = .ok (.invokevirtual 119, 3) := by decide +kernel
theorem dX8_crewFor_5 : decode cX8_crewFor 5 = .ok (.ifCond .ne 5, 3) := by decide +kernel
theorem dX8_crewFor_8 : decode cX8_crewFor 8 = .ok (.iconst (-1), 1) := by decide +kernel
theorem dX8_crewFor_9 : decode cX8_crewFor 9 = .ok (.ireturn, 1) := by decide +kernel
theorem dX8_crewFor_10 : decode cX8_crewFor 10 = .ok (.iconst 0, 1) := by decide +kernel
theorem dX8_crewFor_11 : decode cX8_crewFor 11 = .ok (.istore_n 2, 1) := by decide +kernel
theorem dX8_crewFor_12 : decode cX8_crewFor 12 = .ok (.iload_n 2, 1) := by decide +kernel
theorem dX8_crewFor_13 : decode cX8_crewFor 13 = .ok (.aload_n 0, 1) := by decide +kernel
theorem dX8_crewFor_14 : decode cX8_crewFor 14 = .ok (.getfield 7, 3) := by decide +kernel
theorem dX8_crewFor_17 : decode cX8_crewFor 17 = .ok (.iconst 2, 1) := by decide +kernel
theorem dX8_crewFor_18 : decode cX8_crewFor 18 = .ok (.iaload, 1) := by decide +kernel
theorem dX8_crewFor_19 : decode cX8_crewFor 19 = .ok (.if_icmp .ge 28, 3) := by decide +kernel
theorem dX8_crewFor_22 : decode cX8_crewFor 22 = .ok (.aload_n 0, 1) := by decide +kernel
theorem dX8_crewFor_23 : decode cX8_crewFor 23 = .ok (.iload_n 1, 1) := by decide +kernel
theorem dX8_crewFor_24 : decode cX8_crewFor 24 = .ok (.invokevirtual 87, 3) := by decide +kernel
theorem dX8_crewFor_27 : decode cX8_crewFor 27 = .ok (.ifCond .ne 20, 3) := by decide +kernel
theorem dX8_crewFor_30 : decode cX8_crewFor 30 = .ok (.aload_n 0, 1) := by decide +kernel
theorem dX8_crewFor_31 : decode cX8_crewFor 31 = .ok (.iload_n 1, 1) := by decide +kernel
theorem dX8_crewFor_32 : decode cX8_crewFor 32 = .ok (.iload_n 2, 1) := by decide +kernel
theorem dX8_crewFor_33 : decode cX8_crewFor 33 = .ok (.invokevirtual 125, 3) := by decide +kernel
theorem dX8_crewFor_36 : decode cX8_crewFor 36 = .ok (.ifCond .eq 5, 3) := by decide +kernel
theorem dX8_crewFor_39 : decode cX8_crewFor 39 = .ok (.iload_n 2, 1) := by decide +kernel
theorem dX8_crewFor_40 : decode cX8_crewFor 40 = .ok (.ireturn, 1) := by decide +kernel
theorem dX8_crewFor_41 : decode cX8_crewFor 41 = .ok (.iinc 2 1, 3) := by decide +kernel
theorem dX8_crewFor_44 : decode cX8_crewFor 44 = .ok (.goto (-32), 3) := by decide +kernel
theorem dX8_crewFor_47 : decode cX8_crewFor 47 = .ok (.bipush (-5), 2) := by decide +kernel
theorem dX8_crewFor_49 : decode cX8_crewFor 49 = .ok (.ireturn, 1) := by decide +kernel
theorem dX8_inState_0 : decode cX8_inState 0 = .ok (.iconst 0, 1) := by decide +kernel
theorem dX8_inState_1 : decode cX8_inState 1 = .ok (.istore_n 2, 1) := by decide +kernel
theorem dX8_inState_2 : decode cX8_inState 2 = .ok (.iconst 0, 1) := by decide +kernel
theorem dX8_inState_3 : decode cX8_inState 3 = .ok (.istore_n 3, 1) := by decide +kernel
theorem dX8_inState_4 : decode cX8_inState 4 = .ok (.iload_n 3, 1) := by decide +kernel
theorem dX8_inState_5 : decode cX8_inState 5 = .ok (.aload_n 0, 1) := by decide +kernel
theorem dX8_inState_6 : decode cX8_inState 6 = .ok (.getfield 7, 3) := by decide +kernel
theorem dX8_inState_9 : decode cX8_inState 9 = .ok (.iconst 3, 1) := by decide +kernel
theorem dX8_inState_10 : decode cX8_inState 10 = .ok (.iaload, 1) := by decide +kernel
theorem dX8_inState_11 : decode cX8_inState 11 = .ok (.if_icmp .ge 26, 3) := by decide +kernel
theorem dX8_inState_14 : decode cX8_inState 14 = .ok (.iload_n 2, 1) := by decide +kernel
theorem dX8_inState_15 : decode cX8_inState 15 = .ok (.aload_n 0, 1) := by decide +kernel
theorem dX8_inState_16 : decode cX8_inState 16 = .ok (.iload_n 3, 1) := by decide +kernel
theorem dX8_inState_17 : decode cX8_inState 17 = .ok (.invokevirtual 87, 3) := by decide +kernel
theorem dX8_inState_20 : decode cX8_inState 20 = .ok (.iload_n 1, 1) := by decide +kernel
theorem dX8_inState_21 : decode cX8_inState 21 = .ok (.if_icmp .ne 7, 3) := by decide +kernel
theorem dX8_inState_24 : decode cX8_inState 24 = .ok (.iconst 1, 1) := by decide +kernel
theorem dX8_inState_25 : decode cX8_inState 25 = .ok (.goto 4, 3) := by decide +kernel
theorem dX8_inState_28 : decode cX8_inState 28 = .ok (.iconst 0, 1) := by decide +kernel
theorem dX8_inState_29 : decode cX8_inState 29 = .ok (.iadd, 1) := by decide +kernel
theorem dX8_inState_30 : decode cX8_inState 30 = .ok (.istore_n 2, 1) := by decide +kernel
theorem dX8_inState_31 : decode cX8_inState 31 = .ok (.iinc 3 1, 3) := by decide +kernel
theorem dX8_inState_34 : decode cX8_inState 34 = .ok (.goto (-30), 3) := by decide +kernel
theorem dX8_inState_37 : decode cX8_inState 37 = .ok (.iload_n 2, 1) := by decide +kernel
theorem dX8_inState_38 : decode cX8_inState 38 = .ok (.ireturn, 1) := by decide +kernel
theorem dX8_tags_0 : decode cX8_tags 0 = .ok (.iconst 0, 1) := by decide +kernel
theorem dX8_tags_1 : decode cX8_tags 1 = .ok (.istore_n 1, 1) := by decide +kernel
theorem dX8_tags_2 : decode cX8_tags 2 = .ok (.iconst 0, 1) := by decide +kernel
theorem dX8_tags_3 : decode cX8_tags 3 = .ok (.istore_n 2, 1) := by decide +kernel
theorem dX8_tags_4 : decode cX8_tags 4 = .ok (.iload_n 2, 1) := by decide +kernel
theorem dX8_tags_5 : decode cX8_tags 5 = .ok (.aload_n 0, 1) := by decide +kernel
theorem dX8_tags_6 : decode cX8_tags 6 = .ok (.getfield 7, 3) := by decide +kernel
theorem dX8_tags_9 : decode cX8_tags 9 = .ok (.iconst 1, 1) := by decide +kernel
theorem dX8_tags_10 : decode cX8_tags 10 = .ok (.iaload, 1) := by decide +kernel
theorem dX8_tags_11 : decode cX8_tags 11 = .ok (.if_icmp .ge 18, 3) := by decide +kernel
theorem dX8_tags_14 : decode cX8_tags 14 = .ok (.iload_n 1, 1) := by decide +kernel
theorem dX8_tags_15 : decode cX8_tags 15 = .ok (.aload_n 0, 1) := by decide +kernel
theorem dX8_tags_16 : decode cX8_tags 16 = .ok (.iload_n 2, 1) := by decide +kernel
theorem dX8_tags_17 : decode cX8_tags 17 = .ok (.iconst 4, 1) := by decide +kernel
theorem dX8_tags_18 : decode cX8_tags 18 = .ok (.invokevirtual 69, 3) := by decide +kernel
theorem dX8_tags_21 : decode cX8_tags 21 = .ok (.iadd, 1) := by decide +kernel
theorem dX8_tags_22 : decode cX8_tags 22 = .ok (.istore_n 1, 1) := by decide +kernel
theorem dX8_tags_23 : decode cX8_tags 23 = .ok (.iinc 2 1, 3) := by decide +kernel
theorem dX8_tags_26 : decode cX8_tags 26 = .ok (.goto (-22), 3) := by decide +kernel
theorem dX8_tags_29 : decode cX8_tags 29 = .ok (.iload_n 1, 1) := by decide +kernel
theorem dX8_tags_30 : decode cX8_tags 30 = .ok (.ireturn, 1) := by decide +kernel
theorem dX8_allSlips_0 : decode cX8_allSlips 0 = .ok (.iconst 0, 1) := by decide +kernel
theorem dX8_allSlips_1 : decode cX8_allSlips 1 = .ok (.istore_n 1, 1) := by decide +kernel
theorem dX8_allSlips_2 : decode cX8_allSlips 2 = .ok (.iconst 0, 1) := by decide +kernel
theorem dX8_allSlips_3 : decode cX8_allSlips 3 = .ok (.istore_n 2, 1) := by decide +kernel
theorem dX8_allSlips_4 : decode cX8_allSlips 4 = .ok (.iload_n 2, 1) := by decide +kernel
theorem dX8_allSlips_5 : decode cX8_allSlips 5 = .ok (.aload_n 0, 1) := by decide +kernel
theorem dX8_allSlips_6 : decode cX8_allSlips 6 = .ok (.getfield 7, 3) := by decide +kernel
theorem dX8_allSlips_9 : decode cX8_allSlips 9 = .ok (.iconst 3, 1) := by decide +kernel
theorem dX8_allSlips_10 : decode cX8_allSlips 10 = .ok (.iaload, 1) := by decide +kernel
theorem dX8_allSlips_11 : decode cX8_allSlips 11 = .ok (.if_icmp .ge 19, 3) := by decide +kernel
theorem dX8_allSlips_14 : decode cX8_allSlips 14 = .ok (.iload_n 1, 1) := by decide +kernel
theorem dX8_allSlips_15 : decode cX8_allSlips 15 = .ok (.aload_n 0, 1) := by decide +kernel
theorem dX8_allSlips_16 : decode cX8_allSlips 16 = .ok (.iload_n 2, 1) := by decide +kernel
theorem dX8_allSlips_17 : decode cX8_allSlips 17 = .ok (.bipush 9, 2) := by decide +kernel
theorem dX8_allSlips_19 : decode cX8_allSlips 19 = .ok (.invokevirtual 84, 3) := by decide +kernel
theorem dX8_allSlips_22 : decode cX8_allSlips 22 = .ok (.iadd, 1) := by decide +kernel
theorem dX8_allSlips_23 : decode cX8_allSlips 23 = .ok (.istore_n 1, 1) := by decide +kernel
theorem dX8_allSlips_24 : decode cX8_allSlips 24 = .ok (.iinc 2 1, 3) := by decide +kernel
theorem dX8_allSlips_27 : decode cX8_allSlips 27 = .ok (.goto (-23), 3) := by decide +kernel
theorem dX8_allSlips_30 : decode cX8_allSlips 30 = .ok (.iload_n 1, 1) := by decide +kernel
theorem dX8_allSlips_31 : decode cX8_allSlips 31 = .ok (.ireturn, 1) := by decide +kernel
theorem dX8_allBusy_0 : decode cX8_allBusy 0 = .ok (.iconst 0, 1) := by decide +kernel
theorem dX8_allBusy_1 : decode cX8_allBusy 1 = .ok (.istore_n 1, 1) := by decide +kernel
theorem dX8_allBusy_2 : decode cX8_allBusy 2 = .ok (.iconst 0, 1) := by decide +kernel
theorem dX8_allBusy_3 : decode cX8_allBusy 3 = .ok (.istore_n 2, 1) := by decide +kernel
theorem dX8_allBusy_4 : decode cX8_allBusy 4 = .ok (.iload_n 2, 1) := by decide +kernel
theorem dX8_allBusy_5 : decode cX8_allBusy 5 = .ok (.aload_n 0, 1) := by decide +kernel
theorem dX8_allBusy_6 : decode cX8_allBusy 6 = .ok (.getfield 7, 3) := by decide +kernel
theorem dX8_allBusy_9 : decode cX8_allBusy 9 = .ok (.iconst 2, 1) := by decide +kernel
theorem dX8_allBusy_10 : decode cX8_allBusy 10 = .ok (.iaload, 1) := by decide +kernel
theorem dX8_allBusy_11 : decode cX8_allBusy 11 = .ok (.if_icmp .ge 18, 3) := by decide +kernel
theorem dX8_allBusy_14 : decode cX8_allBusy 14 = .ok (.iload_n 1, 1) := by decide +kernel
theorem dX8_allBusy_15 : decode cX8_allBusy 15 = .ok (.aload_n 0, 1) := by decide +kernel
theorem dX8_allBusy_16 : decode cX8_allBusy 16 = .ok (.iload_n 2, 1) := by decide +kernel
theorem dX8_allBusy_17 : decode cX8_allBusy 17 = .ok (.iconst 1, 1) := by decide +kernel
theorem dX8_allBusy_18 : decode cX8_allBusy 18 = .ok (.invokevirtual 93, 3) := by decide +kernel
theorem dX8_allBusy_21 : decode cX8_allBusy 21 = .ok (.iadd, 1) := by decide +kernel
theorem dX8_allBusy_22 : decode cX8_allBusy 22 = .ok (.istore_n 1, 1) := by decide +kernel
theorem dX8_allBusy_23 : decode cX8_allBusy 23 = .ok (.iinc 2 1, 3) := by decide +kernel
theorem dX8_allBusy_26 : decode cX8_allBusy 26 = .ok (.goto (-22), 3) := by decide +kernel
theorem dX8_allBusy_29 : decode cX8_allBusy 29 = .ok (.iload_n 1, 1) := by decide +kernel
theorem dX8_allBusy_30 : decode cX8_allBusy 30 = .ok (.ireturn, 1) := by decide +kernel
theorem dX8_count_0 : decode cX8_count 0 = .ok (.iload_n 1, 1) := by decide +kernel
theorem dX8_count_1 : decode cX8_count 1 = .ok (.iconst 5, 1) := by decide +kernel
theorem dX8_count_2 : decode cX8_count 2 = .ok (.bipush 11, 2) := by decide +kernel
theorem dX8_count_4 : decode cX8_count 4 = .ok (.invokestatic 32, 3) := by decide +kernel
theorem dX8_count_7 : decode cX8_count 7 = .ok (.ifCond .eq 11, 3) := by decide +kernel
theorem dX8_count_10 : decode cX8_count 10 = .ok (.aload_n 0, 1) := by decide +kernel
theorem dX8_count_11 : decode cX8_count 11 = .ok (.iload_n 1, 1) := by decide +kernel
theorem dX8_count_12 : decode cX8_count 12 = .ok (.iconst 5, 1) := by decide +kernel
theorem dX8_count_13 : decode cX8_count 13 = .ok (.isub, 1) := by decide +kernel
theorem dX8_count_14 : decode cX8_count 14 = .ok (.invokevirtual 223, 3) := by decide +kernel
theorem dX8_count_17 : decode cX8_count 17 = .ok (.ireturn, 1) := by decide +kernel
theorem dX8_count_18 : decode cX8_count 18 = .ok (.iload_n 1, 1) := by decide +kernel
theorem dX8_count_19 : decode cX8_count 19 = .ok (.tableswitch 127 0 16 #[81, 81, 88, 93, 93, 127, 127, 127, 127, 127, 127, 127, 102, 107, 112, 117, 122], 81) := by decide +kernel
theorem dX8_count_100 : decode cX8_count 100 = .ok (.aload_n 0, 1) := by decide +kernel
theorem dX8_count_101 : decode cX8_count 101 = .ok (.getfield 7, 3) := by decide +kernel
theorem dX8_count_104 : decode cX8_count 104 = .ok (.iload_n 1, 1) := by decide +kernel
theorem dX8_count_105 : decode cX8_count 105 = .ok (.iaload, 1) := by decide +kernel
theorem dX8_count_106 : decode cX8_count 106 = .ok (.ireturn, 1) := by decide +kernel
theorem dX8_count_107 : decode cX8_count 107 = .ok (.aload_n 0, 1) := by decide +kernel
theorem dX8_count_108 : decode cX8_count 108 = .ok (.invokevirtual 106, 3) := by decide +kernel
theorem dX8_count_111 : decode cX8_count 111 = .ok (.ireturn, 1) := by decide +kernel
theorem dX8_count_112 : decode cX8_count 112 = .ok (.aload_n 0, 1) := by decide +kernel
theorem dX8_count_113 : decode cX8_count 113 = .ok (.getfield 7, 3) := by decide +kernel
theorem dX8_count_116 : decode cX8_count 116 = .ok (.iload_n 1, 1) := by decide +kernel
theorem dX8_count_117 : decode cX8_count 117 = .ok (.iconst 1, 1) := by decide +kernel
theorem dX8_count_118 : decode cX8_count 118 = .ok (.isub, 1) := by decide +kernel
theorem dX8_count_119 : decode cX8_count 119 = .ok (.iaload, 1) := by decide +kernel
theorem dX8_count_120 : decode cX8_count 120 = .ok (.ireturn, 1) := by decide +kernel
theorem dX8_count_121 : decode cX8_count 121 = .ok (.aload_n 0, 1) := by decide +kernel
theorem dX8_count_122 : decode cX8_count 122 = .ok (.invokevirtual 226, 3) := by decide +kernel
theorem dX8_count_125 : decode cX8_count 125 = .ok (.ireturn, 1) := by decide +kernel
theorem dX8_count_126 : decode cX8_count 126 = .ok (.aload_n 0, 1) := by decide +kernel
theorem dX8_count_127 : decode cX8_count 127 = .ok (.invokevirtual 229, 3) := by decide +kernel
theorem dX8_count_130 : decode cX8_count 130 = .ok (.ireturn, 1) := by decide +kernel
theorem dX8_count_131 : decode cX8_count 131 = .ok (.aload_n 0, 1) := by decide +kernel
theorem dX8_count_132 : decode cX8_count 132 = .ok (.invokevirtual 232, 3) := by decide +kernel
theorem dX8_count_135 : decode cX8_count 135 = .ok (.ireturn, 1) := by decide +kernel
theorem dX8_count_136 : decode cX8_count 136 = .ok (.aload_n 0, 1) := by decide +kernel
theorem dX8_count_137 : decode cX8_count 137 = .ok (.getfield 36, 3) := by decide +kernel
theorem dX8_count_140 : decode cX8_count 140 = .ok (.ireturn, 1) := by decide +kernel
theorem dX8_count_141 : decode cX8_count 141 = .ok (.aload_n 0, 1) := by decide +kernel
theorem dX8_count_142 : decode cX8_count 142 = .ok (.getfield 174, 3) := by decide +kernel
theorem dX8_count_145 : decode cX8_count 145 = .ok (.ireturn, 1) := by decide +kernel
theorem dX8_count_146 : decode cX8_count 146 = .ok (.bipush (-2), 2) := by decide +kernel
theorem dX8_count_148 : decode cX8_count 148 = .ok (.ireturn, 1) := by decide +kernel
theorem dJ6_bitCount_0f7a4_0 : decode cJ6_bitCount_0f7a4 0 = .ok (.iload_n 0, 1) := by decide +kernel
theorem dJ6_bitCount_0f7a4_1 : decode cJ6_bitCount_0f7a4 1 = .ok (.iload_n 0, 1) := by decide +kernel
theorem dJ6_bitCount_0f7a4_2 : decode cJ6_bitCount_0f7a4 2 = .ok (.iconst 1, 1) := by decide +kernel
theorem dJ6_bitCount_0f7a4_3 : decode cJ6_bitCount_0f7a4 3 = .ok (.iushr, 1) := by decide +kernel
theorem dJ6_bitCount_0f7a4_4 : decode cJ6_bitCount_0f7a4 4 = .ok (.ldc_w 265, 3) := by decide +kernel
theorem dJ6_bitCount_0f7a4_7 : decode cJ6_bitCount_0f7a4 7 = .ok (.iand, 1) := by decide +kernel
theorem dJ6_bitCount_0f7a4_8 : decode cJ6_bitCount_0f7a4 8 = .ok (.isub, 1) := by decide +kernel
theorem dJ6_bitCount_0f7a4_9 : decode cJ6_bitCount_0f7a4 9 = .ok (.istore_n 0, 1) := by decide +kernel
theorem dJ6_bitCount_0f7a4_10 : decode cJ6_bitCount_0f7a4 10 = .ok (.iload_n 0, 1) := by decide +kernel
theorem dJ6_bitCount_0f7a4_11 : decode cJ6_bitCount_0f7a4 11 = .ok (.ldc_w 266, 3) := by decide +kernel
theorem dJ6_bitCount_0f7a4_14 : decode cJ6_bitCount_0f7a4 14 = .ok (.iand, 1) := by decide +kernel
theorem dJ6_bitCount_0f7a4_15 : decode cJ6_bitCount_0f7a4 15 = .ok (.iload_n 0, 1) := by decide +kernel
theorem dJ6_bitCount_0f7a4_16 : decode cJ6_bitCount_0f7a4 16 = .ok (.iconst 2, 1) := by decide +kernel
theorem dJ6_bitCount_0f7a4_17 : decode cJ6_bitCount_0f7a4 17 = .ok (.iushr, 1) := by decide +kernel
theorem dJ6_bitCount_0f7a4_18 : decode cJ6_bitCount_0f7a4 18 = .ok (.ldc_w 266, 3) := by decide +kernel
theorem dJ6_bitCount_0f7a4_21 : decode cJ6_bitCount_0f7a4 21 = .ok (.iand, 1) := by decide +kernel
theorem dJ6_bitCount_0f7a4_22 : decode cJ6_bitCount_0f7a4 22 = .ok (.iadd, 1) := by decide +kernel
theorem dJ6_bitCount_0f7a4_23 : decode cJ6_bitCount_0f7a4 23 = .ok (.istore_n 0, 1) := by decide +kernel
theorem dJ6_bitCount_0f7a4_24 : decode cJ6_bitCount_0f7a4 24 = .ok (.iload_n 0, 1) := by decide +kernel
theorem dJ6_bitCount_0f7a4_25 : decode cJ6_bitCount_0f7a4 25 = .ok (.iload_n 0, 1) := by decide +kernel
theorem dJ6_bitCount_0f7a4_26 : decode cJ6_bitCount_0f7a4 26 = .ok (.iconst 4, 1) := by decide +kernel
theorem dJ6_bitCount_0f7a4_27 : decode cJ6_bitCount_0f7a4 27 = .ok (.iushr, 1) := by decide +kernel
theorem dJ6_bitCount_0f7a4_28 : decode cJ6_bitCount_0f7a4 28 = .ok (.iadd, 1) := by decide +kernel
theorem dJ6_bitCount_0f7a4_29 : decode cJ6_bitCount_0f7a4 29 = .ok (.ldc_w 267, 3) := by decide +kernel
theorem dJ6_bitCount_0f7a4_32 : decode cJ6_bitCount_0f7a4 32 = .ok (.iand, 1) := by decide +kernel
theorem dJ6_bitCount_0f7a4_33 : decode cJ6_bitCount_0f7a4 33 = .ok (.istore_n 0, 1) := by decide +kernel
theorem dJ6_bitCount_0f7a4_34 : decode cJ6_bitCount_0f7a4 34 = .ok (.iload_n 0, 1) := by decide +kernel
theorem dJ6_bitCount_0f7a4_35 : decode cJ6_bitCount_0f7a4 35 = .ok (.iload_n 0, 1) := by decide +kernel
theorem dJ6_bitCount_0f7a4_36 : decode cJ6_bitCount_0f7a4 36 = .ok (.bipush 8, 2) := by decide +kernel
theorem dJ6_bitCount_0f7a4_38 : decode cJ6_bitCount_0f7a4 38 = .ok (.iushr, 1) := by decide +kernel
theorem dJ6_bitCount_0f7a4_39 : decode cJ6_bitCount_0f7a4 39 = .ok (.iadd, 1) := by decide +kernel
theorem dJ6_bitCount_0f7a4_40 : decode cJ6_bitCount_0f7a4 40 = .ok (.istore_n 0, 1) := by decide +kernel
theorem dJ6_bitCount_0f7a4_41 : decode cJ6_bitCount_0f7a4 41 = .ok (.iload_n 0, 1) := by decide +kernel
theorem dJ6_bitCount_0f7a4_42 : decode cJ6_bitCount_0f7a4 42 = .ok (.iload_n 0, 1) := by decide +kernel
theorem dJ6_bitCount_0f7a4_43 : decode cJ6_bitCount_0f7a4 43 = .ok (.bipush 16, 2) := by decide +kernel
theorem dJ6_bitCount_0f7a4_45 : decode cJ6_bitCount_0f7a4 45 = .ok (.iushr, 1) := by decide +kernel
theorem dJ6_bitCount_0f7a4_46 : decode cJ6_bitCount_0f7a4 46 = .ok (.iadd, 1) := by decide +kernel
theorem dJ6_bitCount_0f7a4_47 : decode cJ6_bitCount_0f7a4 47 = .ok (.istore_n 0, 1) := by decide +kernel
theorem dJ6_bitCount_0f7a4_48 : decode cJ6_bitCount_0f7a4 48 = .ok (.iload_n 0, 1) := by decide +kernel
theorem dJ6_bitCount_0f7a4_49 : decode cJ6_bitCount_0f7a4 49 = .ok (.bipush 63, 2) := by decide +kernel
theorem dJ6_bitCount_0f7a4_51 : decode cJ6_bitCount_0f7a4 51 = .ok (.iand, 1) := by decide +kernel
theorem dJ6_bitCount_0f7a4_52 : decode cJ6_bitCount_0f7a4 52 = .ok (.ireturn, 1) := by decide +kernel
theorem dL_law_0 : decode cL_law 0 = .ok (.new 7, 3) := by decide +kernel
theorem dL_law_3 : decode cL_law 3 = .ok (.dup, 1) := by decide +kernel
theorem dL_law_4 : decode cL_law 4 = .ok (.invokespecial 9, 3) := by decide +kernel
theorem dL_law_7 : decode cL_law 7 = .ok (.astore_n 1, 1) := by decide +kernel
theorem dL_law_8 : decode cL_law 8 = .ok (.new 10, 3) := by decide +kernel
theorem dL_law_11 : decode cL_law 11 = .ok (.dup, 1) := by decide +kernel
theorem dL_law_12 : decode cL_law 12 = .ok (.invokespecial 12, 3) := by decide +kernel
theorem dL_law_15 : decode cL_law 15 = .ok (.astore_n 2, 1) := by decide +kernel
theorem dL_law_16 : decode cL_law 16 = .ok (.iconst 0, 1) := by decide +kernel
theorem dL_law_17 : decode cL_law 17 = .ok (.istore_n 3, 1) := by decide +kernel
theorem dL_law_18 : decode cL_law 18 = .ok (.iload_n 3, 1) := by decide +kernel
theorem dL_law_19 : decode cL_law 19 = .ok (.aload_n 0, 1) := by decide +kernel
theorem dL_law_20 : decode cL_law 20 = .ok (.arraylength, 1) := by decide +kernel
theorem dL_law_21 : decode cL_law 21 = .ok (.bipush 7, 2) := by decide +kernel
theorem dL_law_23 : decode cL_law 23 = .ok (.isub, 1) := by decide +kernel
theorem dL_law_24 : decode cL_law 24 = .ok (.if_icmp .gt 1005, 3) := by decide +kernel
theorem dL_law_27 : decode cL_law 27 = .ok (.aload_n 0, 1) := by decide +kernel
theorem dL_law_28 : decode cL_law 28 = .ok (.iload_n 3, 1) := by decide +kernel
theorem dL_law_29 : decode cL_law 29 = .ok (.iaload, 1) := by decide +kernel
theorem dL_law_30 : decode cL_law 30 = .ok (.bipush 31, 2) := by decide +kernel
theorem dL_law_32 : decode cL_law 32 = .ok (.iand, 1) := by decide +kernel
theorem dL_law_33 : decode cL_law 33 = .ok (.tableswitch 990 0 26 #[123, 156, 215, 274, 307, 382, 405, 428, 461, 484, 517, 540, 563, 588, 601, 614, 627, 640, 653, 716, 779, 812, 845, 878, 911, 944, 967], 123) := by decide +kernel
theorem dL_law_156 : decode cL_law 156 = .ok (.aload_n 1, 1) := by decide +kernel
theorem dL_law_157 : decode cL_law 157 = .ok (.aload_n 0, 1) := by decide +kernel
theorem dL_law_158 : decode cL_law 158 = .ok (.iload_n 3, 1) := by decide +kernel
theorem dL_law_159 : decode cL_law 159 = .ok (.iconst 1, 1) := by decide +kernel
theorem dL_law_160 : decode cL_law 160 = .ok (.iadd, 1) := by decide +kernel
theorem dL_law_161 : decode cL_law 161 = .ok (.iaload, 1) := by decide +kernel
theorem dL_law_162 : decode cL_law 162 = .ok (.aload_n 0, 1) := by decide +kernel
theorem dL_law_163 : decode cL_law 163 = .ok (.iload_n 3, 1) := by decide +kernel
theorem dL_law_164 : decode cL_law 164 = .ok (.iconst 2, 1) := by decide +kernel
theorem dL_law_165 : decode cL_law 165 = .ok (.iadd, 1) := by decide +kernel
theorem dL_law_166 : decode cL_law 166 = .ok (.iaload, 1) := by decide +kernel
theorem dL_law_167 : decode cL_law 167 = .ok (.invokevirtual 13, 3) := by decide +kernel
theorem dL_law_170 : decode cL_law 170 = .ok (.aload_n 2, 1) := by decide +kernel
theorem dL_law_171 : decode cL_law 171 = .ok (.aload_n 0, 1) := by decide +kernel
theorem dL_law_172 : decode cL_law 172 = .ok (.iload_n 3, 1) := by decide +kernel
theorem dL_law_173 : decode cL_law 173 = .ok (.iconst 1, 1) := by decide +kernel
theorem dL_law_174 : decode cL_law 174 = .ok (.iadd, 1) := by decide +kernel
theorem dL_law_175 : decode cL_law 175 = .ok (.iaload, 1) := by decide +kernel
theorem dL_law_176 : decode cL_law 176 = .ok (.aload_n 0, 1) := by decide +kernel
theorem dL_law_177 : decode cL_law 177 = .ok (.iload_n 3, 1) := by decide +kernel
theorem dL_law_178 : decode cL_law 178 = .ok (.iconst 2, 1) := by decide +kernel
theorem dL_law_179 : decode cL_law 179 = .ok (.iadd, 1) := by decide +kernel
theorem dL_law_180 : decode cL_law 180 = .ok (.iaload, 1) := by decide +kernel
theorem dL_law_181 : decode cL_law 181 = .ok (.invokevirtual 17, 3) := by decide +kernel
theorem dL_law_184 : decode cL_law 184 = .ok (.if_icmp .eq 839, 3) := by decide +kernel
theorem dL_law_187 : decode cL_law 187 = .ok (.iconst 0, 1) := by decide +kernel
theorem dL_law_188 : decode cL_law 188 = .ok (.ireturn, 1) := by decide +kernel
theorem dL_law_189 : decode cL_law 189 = .ok (.aload_n 1, 1) := by decide +kernel
theorem dL_law_190 : decode cL_law 190 = .ok (.aload_n 0, 1) := by decide +kernel
theorem dL_law_191 : decode cL_law 191 = .ok (.iload_n 3, 1) := by decide +kernel
theorem dL_law_192 : decode cL_law 192 = .ok (.iconst 1, 1) := by decide +kernel
theorem dL_law_193 : decode cL_law 193 = .ok (.iadd, 1) := by decide +kernel
theorem dL_law_194 : decode cL_law 194 = .ok (.iaload, 1) := by decide +kernel
theorem dL_law_195 : decode cL_law 195 = .ok (.aload_n 0, 1) := by decide +kernel
theorem dL_law_196 : decode cL_law 196 = .ok (.iload_n 3, 1) := by decide +kernel
theorem dL_law_197 : decode cL_law 197 = .ok (.iconst 2, 1) := by decide +kernel
theorem dL_law_198 : decode cL_law 198 = .ok (.iadd, 1) := by decide +kernel
theorem dL_law_199 : decode cL_law 199 = .ok (.iaload, 1) := by decide +kernel
theorem dL_law_200 : decode cL_law 200 = .ok (.aload_n 0, 1) := by decide +kernel
theorem dL_law_201 : decode cL_law 201 = .ok (.iload_n 3, 1) := by decide +kernel
theorem dL_law_202 : decode cL_law 202 = .ok (.iconst 3, 1) := by decide +kernel
theorem dL_law_203 : decode cL_law 203 = .ok (.iadd, 1) := by decide +kernel
theorem dL_law_204 : decode cL_law 204 = .ok (.iaload, 1) := by decide +kernel
theorem dL_law_205 : decode cL_law 205 = .ok (.ifCond .eq 7, 3) := by decide +kernel
theorem dL_law_208 : decode cL_law 208 = .ok (.iconst 1, 1) := by decide +kernel
theorem dL_law_209 : decode cL_law 209 = .ok (.goto 4, 3) := by decide +kernel
theorem dL_law_212 : decode cL_law 212 = .ok (.iconst 0, 1) := by decide +kernel
theorem dL_law_213 : decode cL_law 213 = .ok (.invokevirtual 18, 3) := by decide +kernel
theorem dL_law_216 : decode cL_law 216 = .ok (.aload_n 2, 1) := by decide +kernel
theorem dL_law_217 : decode cL_law 217 = .ok (.aload_n 0, 1) := by decide +kernel
theorem dL_law_218 : decode cL_law 218 = .ok (.iload_n 3, 1) := by decide +kernel
theorem dL_law_219 : decode cL_law 219 = .ok (.iconst 1, 1) := by decide +kernel
theorem dL_law_220 : decode cL_law 220 = .ok (.iadd, 1) := by decide +kernel
theorem dL_law_221 : decode cL_law 221 = .ok (.iaload, 1) := by decide +kernel
theorem dL_law_222 : decode cL_law 222 = .ok (.aload_n 0, 1) := by decide +kernel
theorem dL_law_223 : decode cL_law 223 = .ok (.iload_n 3, 1) := by decide +kernel
theorem dL_law_224 : decode cL_law 224 = .ok (.iconst 2, 1) := by decide +kernel
theorem dL_law_225 : decode cL_law 225 = .ok (.iadd, 1) := by decide +kernel
theorem dL_law_226 : decode cL_law 226 = .ok (.iaload, 1) := by decide +kernel
theorem dL_law_227 : decode cL_law 227 = .ok (.aload_n 0, 1) := by decide +kernel
theorem dL_law_228 : decode cL_law 228 = .ok (.iload_n 3, 1) := by decide +kernel
theorem dL_law_229 : decode cL_law 229 = .ok (.iconst 3, 1) := by decide +kernel
theorem dL_law_230 : decode cL_law 230 = .ok (.iadd, 1) := by decide +kernel
theorem dL_law_231 : decode cL_law 231 = .ok (.iaload, 1) := by decide +kernel
theorem dL_law_232 : decode cL_law 232 = .ok (.ifCond .eq 7, 3) := by decide +kernel
theorem dL_law_235 : decode cL_law 235 = .ok (.iconst 1, 1) := by decide +kernel
theorem dL_law_236 : decode cL_law 236 = .ok (.goto 4, 3) := by decide +kernel
theorem dL_law_239 : decode cL_law 239 = .ok (.iconst 0, 1) := by decide +kernel
theorem dL_law_240 : decode cL_law 240 = .ok (.invokevirtual 22, 3) := by decide +kernel
theorem dL_law_243 : decode cL_law 243 = .ok (.if_icmp .eq 780, 3) := by decide +kernel
theorem dL_law_246 : decode cL_law 246 = .ok (.iconst 0, 1) := by decide +kernel
theorem dL_law_247 : decode cL_law 247 = .ok (.ireturn, 1) := by decide +kernel
theorem dL_law_248 : decode cL_law 248 = .ok (.aload_n 1, 1) := by decide +kernel
theorem dL_law_249 : decode cL_law 249 = .ok (.aload_n 0, 1) := by decide +kernel
theorem dL_law_250 : decode cL_law 250 = .ok (.iload_n 3, 1) := by decide +kernel
theorem dL_law_251 : decode cL_law 251 = .ok (.iconst 1, 1) := by decide +kernel
theorem dL_law_252 : decode cL_law 252 = .ok (.iadd, 1) := by decide +kernel
theorem dL_law_253 : decode cL_law 253 = .ok (.iaload, 1) := by decide +kernel
theorem dL_law_254 : decode cL_law 254 = .ok (.aload_n 0, 1) := by decide +kernel
theorem dL_law_255 : decode cL_law 255 = .ok (.iload_n 3, 1) := by decide +kernel
theorem dL_law_256 : decode cL_law 256 = .ok (.iconst 2, 1) := by decide +kernel
theorem dL_law_257 : decode cL_law 257 = .ok (.iadd, 1) := by decide +kernel
theorem dL_law_258 : decode cL_law 258 = .ok (.iaload, 1) := by decide +kernel
theorem dL_law_259 : decode cL_law 259 = .ok (.aload_n 0, 1) := by decide +kernel
theorem dL_law_260 : decode cL_law 260 = .ok (.iload_n 3, 1) := by decide +kernel
theorem dL_law_261 : decode cL_law 261 = .ok (.iconst 3, 1) := by decide +kernel
theorem dL_law_262 : decode cL_law 262 = .ok (.iadd, 1) := by decide +kernel
theorem dL_law_263 : decode cL_law 263 = .ok (.iaload, 1) := by decide +kernel
theorem dL_law_264 : decode cL_law 264 = .ok (.ifCond .eq 7, 3) := by decide +kernel
theorem dL_law_267 : decode cL_law 267 = .ok (.iconst 1, 1) := by decide +kernel
theorem dL_law_268 : decode cL_law 268 = .ok (.goto 4, 3) := by decide +kernel
theorem dL_law_271 : decode cL_law 271 = .ok (.iconst 0, 1) := by decide +kernel
theorem dL_law_272 : decode cL_law 272 = .ok (.invokevirtual 23, 3) := by decide +kernel
theorem dL_law_275 : decode cL_law 275 = .ok (.aload_n 2, 1) := by decide +kernel
theorem dL_law_276 : decode cL_law 276 = .ok (.aload_n 0, 1) := by decide +kernel
theorem dL_law_277 : decode cL_law 277 = .ok (.iload_n 3, 1) := by decide +kernel
theorem dL_law_278 : decode cL_law 278 = .ok (.iconst 1, 1) := by decide +kernel
theorem dL_law_279 : decode cL_law 279 = .ok (.iadd, 1) := by decide +kernel
theorem dL_law_280 : decode cL_law 280 = .ok (.iaload, 1) := by decide +kernel
theorem dL_law_281 : decode cL_law 281 = .ok (.aload_n 0, 1) := by decide +kernel
theorem dL_law_282 : decode cL_law 282 = .ok (.iload_n 3, 1) := by decide +kernel
theorem dL_law_283 : decode cL_law 283 = .ok (.iconst 2, 1) := by decide +kernel
theorem dL_law_284 : decode cL_law 284 = .ok (.iadd, 1) := by decide +kernel
theorem dL_law_285 : decode cL_law 285 = .ok (.iaload, 1) := by decide +kernel
theorem dL_law_286 : decode cL_law 286 = .ok (.aload_n 0, 1) := by decide +kernel
theorem dL_law_287 : decode cL_law 287 = .ok (.iload_n 3, 1) := by decide +kernel
theorem dL_law_288 : decode cL_law 288 = .ok (.iconst 3, 1) := by decide +kernel
theorem dL_law_289 : decode cL_law 289 = .ok (.iadd, 1) := by decide +kernel
theorem dL_law_290 : decode cL_law 290 = .ok (.iaload, 1) := by decide +kernel
theorem dL_law_291 : decode cL_law 291 = .ok (.ifCond .eq 7, 3) := by decide +kernel
theorem dL_law_294 : decode cL_law 294 = .ok (.iconst 1, 1) := by decide +kernel
theorem dL_law_295 : decode cL_law 295 = .ok (.goto 4, 3) := by decide +kernel
theorem dL_law_298 : decode cL_law 298 = .ok (.iconst 0, 1) := by decide +kernel
theorem dL_law_299 : decode cL_law 299 = .ok (.invokevirtual 26, 3) := by decide +kernel
theorem dL_law_302 : decode cL_law 302 = .ok (.if_icmp .eq 721, 3) := by decide +kernel
theorem dL_law_305 : decode cL_law 305 = .ok (.iconst 0, 1) := by decide +kernel
theorem dL_law_306 : decode cL_law 306 = .ok (.ireturn, 1) := by decide +kernel
theorem dL_law_307 : decode cL_law 307 = .ok (.aload_n 1, 1) := by decide +kernel
theorem dL_law_308 : decode cL_law 308 = .ok (.aload_n 0, 1) := by decide +kernel
theorem dL_law_309 : decode cL_law 309 = .ok (.iload_n 3, 1) := by decide +kernel
theorem dL_law_310 : decode cL_law 310 = .ok (.iconst 1, 1) := by decide +kernel
theorem dL_law_311 : decode cL_law 311 = .ok (.iadd, 1) := by decide +kernel
theorem dL_law_312 : decode cL_law 312 = .ok (.iaload, 1) := by decide +kernel
theorem dL_law_313 : decode cL_law 313 = .ok (.aload_n 0, 1) := by decide +kernel
theorem dL_law_314 : decode cL_law 314 = .ok (.iload_n 3, 1) := by decide +kernel
theorem dL_law_315 : decode cL_law 315 = .ok (.iconst 2, 1) := by decide +kernel
theorem dL_law_316 : decode cL_law 316 = .ok (.iadd, 1) := by decide +kernel
theorem dL_law_317 : decode cL_law 317 = .ok (.iaload, 1) := by decide +kernel
theorem dL_law_318 : decode cL_law 318 = .ok (.invokevirtual 27, 3) := by decide +kernel
theorem dL_law_321 : decode cL_law 321 = .ok (.aload_n 2, 1) := by decide +kernel
theorem dL_law_322 : decode cL_law 322 = .ok (.aload_n 0, 1) := by decide +kernel
theorem dL_law_323 : decode cL_law 323 = .ok (.iload_n 3, 1) := by decide +kernel
theorem dL_law_324 : decode cL_law 324 = .ok (.iconst 1, 1) := by decide +kernel
theorem dL_law_325 : decode cL_law 325 = .ok (.iadd, 1) := by decide +kernel
theorem dL_law_326 : decode cL_law 326 = .ok (.iaload, 1) := by decide +kernel
theorem dL_law_327 : decode cL_law 327 = .ok (.aload_n 0, 1) := by decide +kernel
theorem dL_law_328 : decode cL_law 328 = .ok (.iload_n 3, 1) := by decide +kernel
theorem dL_law_329 : decode cL_law 329 = .ok (.iconst 2, 1) := by decide +kernel
theorem dL_law_330 : decode cL_law 330 = .ok (.iadd, 1) := by decide +kernel
theorem dL_law_331 : decode cL_law 331 = .ok (.iaload, 1) := by decide +kernel
theorem dL_law_332 : decode cL_law 332 = .ok (.invokevirtual 30, 3) := by decide +kernel
theorem dL_law_335 : decode cL_law 335 = .ok (.if_icmp .eq 688, 3) := by decide +kernel
theorem dL_law_338 : decode cL_law 338 = .ok (.iconst 0, 1) := by decide +kernel
theorem dL_law_339 : decode cL_law 339 = .ok (.ireturn, 1) := by decide +kernel
theorem dL_law_340 : decode cL_law 340 = .ok (.aload_n 1, 1) := by decide +kernel
theorem dL_law_341 : decode cL_law 341 = .ok (.aload_n 0, 1) := by decide +kernel
theorem dL_law_342 : decode cL_law 342 = .ok (.iload_n 3, 1) := by decide +kernel
theorem dL_law_343 : decode cL_law 343 = .ok (.iconst 1, 1) := by decide +kernel
theorem dL_law_344 : decode cL_law 344 = .ok (.iadd, 1) := by decide +kernel
theorem dL_law_345 : decode cL_law 345 = .ok (.iaload, 1) := by decide +kernel
theorem dL_law_346 : decode cL_law 346 = .ok (.aload_n 0, 1) := by decide +kernel
theorem dL_law_347 : decode cL_law 347 = .ok (.iload_n 3, 1) := by decide +kernel
theorem dL_law_348 : decode cL_law 348 = .ok (.iconst 2, 1) := by decide +kernel
theorem dL_law_349 : decode cL_law 349 = .ok (.iadd, 1) := by decide +kernel
theorem dL_law_350 : decode cL_law 350 = .ok (.iaload, 1) := by decide +kernel
theorem dL_law_351 : decode cL_law 351 = .ok (.aload_n 0, 1) := by decide +kernel
theorem dL_law_352 : decode cL_law 352 = .ok (.iload_n 3, 1) := by decide +kernel
theorem dL_law_353 : decode cL_law 353 = .ok (.iconst 3, 1) := by decide +kernel
theorem dL_law_354 : decode cL_law 354 = .ok (.iadd, 1) := by decide +kernel
theorem dL_law_355 : decode cL_law 355 = .ok (.iaload, 1) := by decide +kernel
theorem dL_law_356 : decode cL_law 356 = .ok (.aload_n 0, 1) := by decide +kernel
theorem dL_law_357 : decode cL_law 357 = .ok (.iload_n 3, 1) := by decide +kernel
theorem dL_law_358 : decode cL_law 358 = .ok (.iconst 4, 1) := by decide +kernel
theorem dL_law_359 : decode cL_law 359 = .ok (.iadd, 1) := by decide +kernel
theorem dL_law_360 : decode cL_law 360 = .ok (.iaload, 1) := by decide +kernel
theorem dL_law_361 : decode cL_law 361 = .ok (.aload_n 0, 1) := by decide +kernel
theorem dL_law_362 : decode cL_law 362 = .ok (.iload_n 3, 1) := by decide +kernel
theorem dL_law_363 : decode cL_law 363 = .ok (.iconst 5, 1) := by decide +kernel
theorem dL_law_364 : decode cL_law 364 = .ok (.iadd, 1) := by decide +kernel
theorem dL_law_365 : decode cL_law 365 = .ok (.iaload, 1) := by decide +kernel
theorem dL_law_366 : decode cL_law 366 = .ok (.aload_n 0, 1) := by decide +kernel
theorem dL_law_367 : decode cL_law 367 = .ok (.iload_n 3, 1) := by decide +kernel
theorem dL_law_368 : decode cL_law 368 = .ok (.bipush 6, 2) := by decide +kernel
theorem dL_law_370 : decode cL_law 370 = .ok (.iadd, 1) := by decide +kernel
theorem dL_law_371 : decode cL_law 371 = .ok (.iaload, 1) := by decide +kernel
theorem dL_law_372 : decode cL_law 372 = .ok (.invokevirtual 31, 3) := by decide +kernel
theorem dL_law_375 : decode cL_law 375 = .ok (.aload_n 2, 1) := by decide +kernel
theorem dL_law_376 : decode cL_law 376 = .ok (.aload_n 0, 1) := by decide +kernel
theorem dL_law_377 : decode cL_law 377 = .ok (.iload_n 3, 1) := by decide +kernel
theorem dL_law_378 : decode cL_law 378 = .ok (.iconst 1, 1) := by decide +kernel
theorem dL_law_379 : decode cL_law 379 = .ok (.iadd, 1) := by decide +kernel
theorem dL_law_380 : decode cL_law 380 = .ok (.iaload, 1) := by decide +kernel
theorem dL_law_381 : decode cL_law 381 = .ok (.aload_n 0, 1) := by decide +kernel
theorem dL_law_382 : decode cL_law 382 = .ok (.iload_n 3, 1) := by decide +kernel
theorem dL_law_383 : decode cL_law 383 = .ok (.iconst 2, 1) := by decide +kernel
theorem dL_law_384 : decode cL_law 384 = .ok (.iadd, 1) := by decide +kernel
theorem dL_law_385 : decode cL_law 385 = .ok (.iaload, 1) := by decide +kernel
theorem dL_law_386 : decode cL_law 386 = .ok (.aload_n 0, 1) := by decide +kernel
theorem dL_law_387 : decode cL_law 387 = .ok (.iload_n 3, 1) := by decide +kernel
theorem dL_law_388 : decode cL_law 388 = .ok (.iconst 3, 1) := by decide +kernel
theorem dL_law_389 : decode cL_law 389 = .ok (.iadd, 1) := by decide +kernel
theorem dL_law_390 : decode cL_law 390 = .ok (.iaload, 1) := by decide +kernel
theorem dL_law_391 : decode cL_law 391 = .ok (.aload_n 0, 1) := by decide +kernel
theorem dL_law_392 : decode cL_law 392 = .ok (.iload_n 3, 1) := by decide +kernel
theorem dL_law_393 : decode cL_law 393 = .ok (.iconst 4, 1) := by decide +kernel
theorem dL_law_394 : decode cL_law 394 = .ok (.iadd, 1) := by decide +kernel
theorem dL_law_395 : decode cL_law 395 = .ok (.iaload, 1) := by decide +kernel
theorem dL_law_396 : decode cL_law 396 = .ok (.aload_n 0, 1) := by decide +kernel
theorem dL_law_397 : decode cL_law 397 = .ok (.iload_n 3, 1) := by decide +kernel
theorem dL_law_398 : decode cL_law 398 = .ok (.iconst 5, 1) := by decide +kernel
theorem dL_law_399 : decode cL_law 399 = .ok (.iadd, 1) := by decide +kernel
theorem dL_law_400 : decode cL_law 400 = .ok (.iaload, 1) := by decide +kernel
theorem dL_law_401 : decode cL_law 401 = .ok (.aload_n 0, 1) := by decide +kernel
theorem dL_law_402 : decode cL_law 402 = .ok (.iload_n 3, 1) := by decide +kernel
theorem dL_law_403 : decode cL_law 403 = .ok (.bipush 6, 2) := by decide +kernel
theorem dL_law_405 : decode cL_law 405 = .ok (.iadd, 1) := by decide +kernel
theorem dL_law_406 : decode cL_law 406 = .ok (.iaload, 1) := by decide +kernel
theorem dL_law_407 : decode cL_law 407 = .ok (.invokevirtual 35, 3) := by decide +kernel
theorem dL_law_410 : decode cL_law 410 = .ok (.if_icmp .eq 613, 3) := by decide +kernel
theorem dL_law_413 : decode cL_law 413 = .ok (.iconst 0, 1) := by decide +kernel
theorem dL_law_414 : decode cL_law 414 = .ok (.ireturn, 1) := by decide +kernel
theorem dL_law_415 : decode cL_law 415 = .ok (.aload_n 1, 1) := by decide +kernel
theorem dL_law_416 : decode cL_law 416 = .ok (.aload_n 0, 1) := by decide +kernel
theorem dL_law_417 : decode cL_law 417 = .ok (.iload_n 3, 1) := by decide +kernel
theorem dL_law_418 : decode cL_law 418 = .ok (.iconst 1, 1) := by decide +kernel
theorem dL_law_419 : decode cL_law 419 = .ok (.iadd, 1) := by decide +kernel
theorem dL_law_420 : decode cL_law 420 = .ok (.iaload, 1) := by decide +kernel
theorem dL_law_421 : decode cL_law 421 = .ok (.invokevirtual 36, 3) := by decide +kernel
theorem dL_law_424 : decode cL_law 424 = .ok (.aload_n 2, 1) := by decide +kernel
theorem dL_law_425 : decode cL_law 425 = .ok (.aload_n 0, 1) := by decide +kernel
theorem dL_law_426 : decode cL_law 426 = .ok (.iload_n 3, 1) := by decide +kernel
theorem dL_law_427 : decode cL_law 427 = .ok (.iconst 1, 1) := by decide +kernel
theorem dL_law_428 : decode cL_law 428 = .ok (.iadd, 1) := by decide +kernel
theorem dL_law_429 : decode cL_law 429 = .ok (.iaload, 1) := by decide +kernel
theorem dL_law_430 : decode cL_law 430 = .ok (.invokevirtual 40, 3) := by decide +kernel
theorem dL_law_433 : decode cL_law 433 = .ok (.if_icmp .eq 590, 3) := by decide +kernel
theorem dL_law_436 : decode cL_law 436 = .ok (.iconst 0, 1) := by decide +kernel
theorem dL_law_437 : decode cL_law 437 = .ok (.ireturn, 1) := by decide +kernel
theorem dL_law_438 : decode cL_law 438 = .ok (.aload_n 1, 1) := by decide +kernel
theorem dL_law_439 : decode cL_law 439 = .ok (.aload_n 0, 1) := by decide +kernel
theorem dL_law_440 : decode cL_law 440 = .ok (.iload_n 3, 1) := by decide +kernel
theorem dL_law_441 : decode cL_law 441 = .ok (.iconst 1, 1) := by decide +kernel
theorem dL_law_442 : decode cL_law 442 = .ok (.iadd, 1) := by decide +kernel
theorem dL_law_443 : decode cL_law 443 = .ok (.iaload, 1) := by decide +kernel
theorem dL_law_444 : decode cL_law 444 = .ok (.invokevirtual 41, 3) := by decide +kernel
theorem dL_law_447 : decode cL_law 447 = .ok (.aload_n 2, 1) := by decide +kernel
theorem dL_law_448 : decode cL_law 448 = .ok (.aload_n 0, 1) := by decide +kernel
theorem dL_law_449 : decode cL_law 449 = .ok (.iload_n 3, 1) := by decide +kernel
theorem dL_law_450 : decode cL_law 450 = .ok (.iconst 1, 1) := by decide +kernel
theorem dL_law_451 : decode cL_law 451 = .ok (.iadd, 1) := by decide +kernel
theorem dL_law_452 : decode cL_law 452 = .ok (.iaload, 1) := by decide +kernel
theorem dL_law_453 : decode cL_law 453 = .ok (.invokevirtual 44, 3) := by decide +kernel
theorem dL_law_456 : decode cL_law 456 = .ok (.if_icmp .eq 567, 3) := by decide +kernel
theorem dL_law_459 : decode cL_law 459 = .ok (.iconst 0, 1) := by decide +kernel
theorem dL_law_460 : decode cL_law 460 = .ok (.ireturn, 1) := by decide +kernel
theorem dL_law_461 : decode cL_law 461 = .ok (.aload_n 1, 1) := by decide +kernel
theorem dL_law_462 : decode cL_law 462 = .ok (.aload_n 0, 1) := by decide +kernel
theorem dL_law_463 : decode cL_law 463 = .ok (.iload_n 3, 1) := by decide +kernel
theorem dL_law_464 : decode cL_law 464 = .ok (.iconst 1, 1) := by decide +kernel
theorem dL_law_465 : decode cL_law 465 = .ok (.iadd, 1) := by decide +kernel
theorem dL_law_466 : decode cL_law 466 = .ok (.iaload, 1) := by decide +kernel
theorem dL_law_467 : decode cL_law 467 = .ok (.aload_n 0, 1) := by decide +kernel
theorem dL_law_468 : decode cL_law 468 = .ok (.iload_n 3, 1) := by decide +kernel
theorem dL_law_469 : decode cL_law 469 = .ok (.iconst 2, 1) := by decide +kernel
theorem dL_law_470 : decode cL_law 470 = .ok (.iadd, 1) := by decide +kernel
theorem dL_law_471 : decode cL_law 471 = .ok (.iaload, 1) := by decide +kernel
theorem dL_law_472 : decode cL_law 472 = .ok (.invokevirtual 45, 3) := by decide +kernel
theorem dL_law_475 : decode cL_law 475 = .ok (.aload_n 2, 1) := by decide +kernel
theorem dL_law_476 : decode cL_law 476 = .ok (.aload_n 0, 1) := by decide +kernel
theorem dL_law_477 : decode cL_law 477 = .ok (.iload_n 3, 1) := by decide +kernel
theorem dL_law_478 : decode cL_law 478 = .ok (.iconst 1, 1) := by decide +kernel
theorem dL_law_479 : decode cL_law 479 = .ok (.iadd, 1) := by decide +kernel
theorem dL_law_480 : decode cL_law 480 = .ok (.iaload, 1) := by decide +kernel
theorem dL_law_481 : decode cL_law 481 = .ok (.aload_n 0, 1) := by decide +kernel
theorem dL_law_482 : decode cL_law 482 = .ok (.iload_n 3, 1) := by decide +kernel
theorem dL_law_483 : decode cL_law 483 = .ok (.iconst 2, 1) := by decide +kernel
theorem dL_law_484 : decode cL_law 484 = .ok (.iadd, 1) := by decide +kernel
theorem dL_law_485 : decode cL_law 485 = .ok (.iaload, 1) := by decide +kernel
theorem dL_law_486 : decode cL_law 486 = .ok (.invokevirtual 48, 3) := by decide +kernel
theorem dL_law_489 : decode cL_law 489 = .ok (.if_icmp .eq 534, 3) := by decide +kernel
theorem dL_law_492 : decode cL_law 492 = .ok (.iconst 0, 1) := by decide +kernel
theorem dL_law_493 : decode cL_law 493 = .ok (.ireturn, 1) := by decide +kernel
theorem dL_law_494 : decode cL_law 494 = .ok (.aload_n 1, 1) := by decide +kernel
theorem dL_law_495 : decode cL_law 495 = .ok (.aload_n 0, 1) := by decide +kernel
theorem dL_law_496 : decode cL_law 496 = .ok (.iload_n 3, 1) := by decide +kernel
theorem dL_law_497 : decode cL_law 497 = .ok (.iconst 1, 1) := by decide +kernel
theorem dL_law_498 : decode cL_law 498 = .ok (.iadd, 1) := by decide +kernel
theorem dL_law_499 : decode cL_law 499 = .ok (.iaload, 1) := by decide +kernel
theorem dL_law_500 : decode cL_law 500 = .ok (.invokevirtual 49, 3) := by decide +kernel
theorem dL_law_503 : decode cL_law 503 = .ok (.aload_n 2, 1) := by decide +kernel
theorem dL_law_504 : decode cL_law 504 = .ok (.aload_n 0, 1) := by decide +kernel
theorem dL_law_505 : decode cL_law 505 = .ok (.iload_n 3, 1) := by decide +kernel
theorem dL_law_506 : decode cL_law 506 = .ok (.iconst 1, 1) := by decide +kernel
theorem dL_law_507 : decode cL_law 507 = .ok (.iadd, 1) := by decide +kernel
theorem dL_law_508 : decode cL_law 508 = .ok (.iaload, 1) := by decide +kernel
theorem dL_law_509 : decode cL_law 509 = .ok (.invokevirtual 52, 3) := by decide +kernel
theorem dL_law_512 : decode cL_law 512 = .ok (.if_icmp .eq 511, 3) := by decide +kernel
theorem dL_law_515 : decode cL_law 515 = .ok (.iconst 0, 1) := by decide +kernel
theorem dL_law_516 : decode cL_law 516 = .ok (.ireturn, 1) := by decide +kernel
theorem dL_law_517 : decode cL_law 517 = .ok (.aload_n 1, 1) := by decide +kernel
theorem dL_law_518 : decode cL_law 518 = .ok (.aload_n 0, 1) := by decide +kernel
theorem dL_law_519 : decode cL_law 519 = .ok (.iload_n 3, 1) := by decide +kernel
theorem dL_law_520 : decode cL_law 520 = .ok (.iconst 1, 1) := by decide +kernel
theorem dL_law_521 : decode cL_law 521 = .ok (.iadd, 1) := by decide +kernel
theorem dL_law_522 : decode cL_law 522 = .ok (.iaload, 1) := by decide +kernel
theorem dL_law_523 : decode cL_law 523 = .ok (.aload_n 0, 1) := by decide +kernel
theorem dL_law_524 : decode cL_law 524 = .ok (.iload_n 3, 1) := by decide +kernel
theorem dL_law_525 : decode cL_law 525 = .ok (.iconst 2, 1) := by decide +kernel
theorem dL_law_526 : decode cL_law 526 = .ok (.iadd, 1) := by decide +kernel
theorem dL_law_527 : decode cL_law 527 = .ok (.iaload, 1) := by decide +kernel
theorem dL_law_528 : decode cL_law 528 = .ok (.invokevirtual 53, 3) := by decide +kernel
theorem dL_law_531 : decode cL_law 531 = .ok (.aload_n 2, 1) := by decide +kernel
theorem dL_law_532 : decode cL_law 532 = .ok (.aload_n 0, 1) := by decide +kernel
theorem dL_law_533 : decode cL_law 533 = .ok (.iload_n 3, 1) := by decide +kernel
theorem dL_law_534 : decode cL_law 534 = .ok (.iconst 1, 1) := by decide +kernel
theorem dL_law_535 : decode cL_law 535 = .ok (.iadd, 1) := by decide +kernel
theorem dL_law_536 : decode cL_law 536 = .ok (.iaload, 1) := by decide +kernel
theorem dL_law_537 : decode cL_law 537 = .ok (.aload_n 0, 1) := by decide +kernel
theorem dL_law_538 : decode cL_law 538 = .ok (.iload_n 3, 1) := by decide +kernel
theorem dL_law_539 : decode cL_law 539 = .ok (.iconst 2, 1) := by decide +kernel
theorem dL_law_540 : decode cL_law 540 = .ok (.iadd, 1) := by decide +kernel
theorem dL_law_541 : decode cL_law 541 = .ok (.iaload, 1) := by decide +kernel
theorem dL_law_542 : decode cL_law 542 = .ok (.invokevirtual 56, 3) := by decide +kernel
theorem dL_law_545 : decode cL_law 545 = .ok (.if_icmp .eq 478, 3) := by decide +kernel
theorem dL_law_548 : decode cL_law 548 = .ok (.iconst 0, 1) := by decide +kernel
theorem dL_law_549 : decode cL_law 549 = .ok (.ireturn, 1) := by decide +kernel
theorem dL_law_550 : decode cL_law 550 = .ok (.aload_n 1, 1) := by decide +kernel
theorem dL_law_551 : decode cL_law 551 = .ok (.aload_n 0, 1) := by decide +kernel
theorem dL_law_552 : decode cL_law 552 = .ok (.iload_n 3, 1) := by decide +kernel
theorem dL_law_553 : decode cL_law 553 = .ok (.iconst 1, 1) := by decide +kernel
theorem dL_law_554 : decode cL_law 554 = .ok (.iadd, 1) := by decide +kernel
theorem dL_law_555 : decode cL_law 555 = .ok (.iaload, 1) := by decide +kernel
theorem dL_law_556 : decode cL_law 556 = .ok (.invokevirtual 57, 3) := by decide +kernel
theorem dL_law_559 : decode cL_law 559 = .ok (.aload_n 2, 1) := by decide +kernel
theorem dL_law_560 : decode cL_law 560 = .ok (.aload_n 0, 1) := by decide +kernel
theorem dL_law_561 : decode cL_law 561 = .ok (.iload_n 3, 1) := by decide +kernel
theorem dL_law_562 : decode cL_law 562 = .ok (.iconst 1, 1) := by decide +kernel
theorem dL_law_563 : decode cL_law 563 = .ok (.iadd, 1) := by decide +kernel
theorem dL_law_564 : decode cL_law 564 = .ok (.iaload, 1) := by decide +kernel
theorem dL_law_565 : decode cL_law 565 = .ok (.invokevirtual 60, 3) := by decide +kernel
theorem dL_law_568 : decode cL_law 568 = .ok (.if_icmp .eq 455, 3) := by decide +kernel
theorem dL_law_571 : decode cL_law 571 = .ok (.iconst 0, 1) := by decide +kernel
theorem dL_law_572 : decode cL_law 572 = .ok (.ireturn, 1) := by decide +kernel
theorem dL_law_573 : decode cL_law 573 = .ok (.aload_n 1, 1) := by decide +kernel
theorem dL_law_574 : decode cL_law 574 = .ok (.aload_n 0, 1) := by decide +kernel
theorem dL_law_575 : decode cL_law 575 = .ok (.iload_n 3, 1) := by decide +kernel
theorem dL_law_576 : decode cL_law 576 = .ok (.iconst 1, 1) := by decide +kernel
theorem dL_law_577 : decode cL_law 577 = .ok (.iadd, 1) := by decide +kernel
theorem dL_law_578 : decode cL_law 578 = .ok (.iaload, 1) := by decide +kernel
theorem dL_law_579 : decode cL_law 579 = .ok (.invokevirtual 61, 3) := by decide +kernel
theorem dL_law_582 : decode cL_law 582 = .ok (.aload_n 2, 1) := by decide +kernel
theorem dL_law_583 : decode cL_law 583 = .ok (.aload_n 0, 1) := by decide +kernel
theorem dL_law_584 : decode cL_law 584 = .ok (.iload_n 3, 1) := by decide +kernel
theorem dL_law_585 : decode cL_law 585 = .ok (.iconst 1, 1) := by decide +kernel
theorem dL_law_586 : decode cL_law 586 = .ok (.iadd, 1) := by decide +kernel
theorem dL_law_587 : decode cL_law 587 = .ok (.iaload, 1) := by decide +kernel
theorem dL_law_588 : decode cL_law 588 = .ok (.invokevirtual 64, 3) := by decide +kernel
theorem dL_law_591 : decode cL_law 591 = .ok (.if_icmp .eq 432, 3) := by decide +kernel
theorem dL_law_594 : decode cL_law 594 = .ok (.iconst 0, 1) := by decide +kernel
theorem dL_law_595 : decode cL_law 595 = .ok (.ireturn, 1) := by decide +kernel
theorem dL_law_596 : decode cL_law 596 = .ok (.aload_n 1, 1) := by decide +kernel
theorem dL_law_597 : decode cL_law 597 = .ok (.aload_n 0, 1) := by decide +kernel
theorem dL_law_598 : decode cL_law 598 = .ok (.iload_n 3, 1) := by decide +kernel
theorem dL_law_599 : decode cL_law 599 = .ok (.iconst 1, 1) := by decide +kernel
theorem dL_law_600 : decode cL_law 600 = .ok (.iadd, 1) := by decide +kernel
theorem dL_law_601 : decode cL_law 601 = .ok (.iaload, 1) := by decide +kernel
theorem dL_law_602 : decode cL_law 602 = .ok (.i2c, 1) := by decide +kernel
theorem dL_law_603 : decode cL_law 603 = .ok (.invokevirtual 65, 3) := by decide +kernel
theorem dL_law_606 : decode cL_law 606 = .ok (.aload_n 2, 1) := by decide +kernel
theorem dL_law_607 : decode cL_law 607 = .ok (.aload_n 0, 1) := by decide +kernel
theorem dL_law_608 : decode cL_law 608 = .ok (.iload_n 3, 1) := by decide +kernel
theorem dL_law_609 : decode cL_law 609 = .ok (.iconst 1, 1) := by decide +kernel
theorem dL_law_610 : decode cL_law 610 = .ok (.iadd, 1) := by decide +kernel
theorem dL_law_611 : decode cL_law 611 = .ok (.iaload, 1) := by decide +kernel
theorem dL_law_612 : decode cL_law 612 = .ok (.i2c, 1) := by decide +kernel
theorem dL_law_613 : decode cL_law 613 = .ok (.invokevirtual 69, 3) := by decide +kernel
theorem dL_law_616 : decode cL_law 616 = .ok (.if_icmp .eq 407, 3) := by decide +kernel
theorem dL_law_619 : decode cL_law 619 = .ok (.iconst 0, 1) := by decide +kernel
theorem dL_law_620 : decode cL_law 620 = .ok (.ireturn, 1) := by decide +kernel
theorem dL_law_621 : decode cL_law 621 = .ok (.aload_n 1, 1) := by decide +kernel
theorem dL_law_622 : decode cL_law 622 = .ok (.invokevirtual 70, 3) := by decide +kernel
theorem dL_law_625 : decode cL_law 625 = .ok (.aload_n 2, 1) := by decide +kernel
theorem dL_law_626 : decode cL_law 626 = .ok (.invokevirtual 74, 3) := by decide +kernel
theorem dL_law_629 : decode cL_law 629 = .ok (.if_icmp .eq 394, 3) := by decide +kernel
theorem dL_law_632 : decode cL_law 632 = .ok (.iconst 0, 1) := by decide +kernel
theorem dL_law_633 : decode cL_law 633 = .ok (.ireturn, 1) := by decide +kernel
theorem dL_law_634 : decode cL_law 634 = .ok (.aload_n 1, 1) := by decide +kernel
theorem dL_law_635 : decode cL_law 635 = .ok (.invokevirtual 75, 3) := by decide +kernel
theorem dL_law_638 : decode cL_law 638 = .ok (.aload_n 2, 1) := by decide +kernel
theorem dL_law_639 : decode cL_law 639 = .ok (.invokevirtual 78, 3) := by decide +kernel
theorem dL_law_642 : decode cL_law 642 = .ok (.if_icmp .eq 381, 3) := by decide +kernel
theorem dL_law_645 : decode cL_law 645 = .ok (.iconst 0, 1) := by decide +kernel
theorem dL_law_646 : decode cL_law 646 = .ok (.ireturn, 1) := by decide +kernel
theorem dL_law_647 : decode cL_law 647 = .ok (.aload_n 1, 1) := by decide +kernel
theorem dL_law_648 : decode cL_law 648 = .ok (.invokevirtual 79, 3) := by decide +kernel
theorem dL_law_651 : decode cL_law 651 = .ok (.aload_n 2, 1) := by decide +kernel
theorem dL_law_652 : decode cL_law 652 = .ok (.invokevirtual 82, 3) := by decide +kernel
theorem dL_law_655 : decode cL_law 655 = .ok (.if_icmp .eq 368, 3) := by decide +kernel
theorem dL_law_658 : decode cL_law 658 = .ok (.iconst 0, 1) := by decide +kernel
theorem dL_law_659 : decode cL_law 659 = .ok (.ireturn, 1) := by decide +kernel
theorem dL_law_660 : decode cL_law 660 = .ok (.aload_n 1, 1) := by decide +kernel
theorem dL_law_661 : decode cL_law 661 = .ok (.invokevirtual 83, 3) := by decide +kernel
theorem dL_law_664 : decode cL_law 664 = .ok (.aload_n 2, 1) := by decide +kernel
theorem dL_law_665 : decode cL_law 665 = .ok (.invokevirtual 86, 3) := by decide +kernel
theorem dL_law_668 : decode cL_law 668 = .ok (.if_icmp .eq 355, 3) := by decide +kernel
theorem dL_law_671 : decode cL_law 671 = .ok (.iconst 0, 1) := by decide +kernel
theorem dL_law_672 : decode cL_law 672 = .ok (.ireturn, 1) := by decide +kernel
theorem dL_law_673 : decode cL_law 673 = .ok (.aload_n 1, 1) := by decide +kernel
theorem dL_law_674 : decode cL_law 674 = .ok (.invokevirtual 87, 3) := by decide +kernel
theorem dL_law_677 : decode cL_law 677 = .ok (.aload_n 2, 1) := by decide +kernel
theorem dL_law_678 : decode cL_law 678 = .ok (.invokevirtual 90, 3) := by decide +kernel
theorem dL_law_681 : decode cL_law 681 = .ok (.if_icmp .eq 342, 3) := by decide +kernel
theorem dL_law_684 : decode cL_law 684 = .ok (.iconst 0, 1) := by decide +kernel
theorem dL_law_685 : decode cL_law 685 = .ok (.ireturn, 1) := by decide +kernel
theorem dL_law_686 : decode cL_law 686 = .ok (.aload_n 1, 1) := by decide +kernel
theorem dL_law_687 : decode cL_law 687 = .ok (.aload_n 0, 1) := by decide +kernel
theorem dL_law_688 : decode cL_law 688 = .ok (.iload_n 3, 1) := by decide +kernel
theorem dL_law_689 : decode cL_law 689 = .ok (.iconst 1, 1) := by decide +kernel
theorem dL_law_690 : decode cL_law 690 = .ok (.iadd, 1) := by decide +kernel
theorem dL_law_691 : decode cL_law 691 = .ok (.iaload, 1) := by decide +kernel
theorem dL_law_692 : decode cL_law 692 = .ok (.aload_n 0, 1) := by decide +kernel
theorem dL_law_693 : decode cL_law 693 = .ok (.iload_n 3, 1) := by decide +kernel
theorem dL_law_694 : decode cL_law 694 = .ok (.iconst 2, 1) := by decide +kernel
theorem dL_law_695 : decode cL_law 695 = .ok (.iadd, 1) := by decide +kernel
theorem dL_law_696 : decode cL_law 696 = .ok (.iaload, 1) := by decide +kernel
theorem dL_law_697 : decode cL_law 697 = .ok (.invokevirtual 91, 3) := by decide +kernel
theorem dL_law_700 : decode cL_law 700 = .ok (.f2d, 1) := by decide +kernel
theorem dL_law_701 : decode cL_law 701 = .ok (.dstore 4, 2) := by decide +kernel
theorem dL_law_703 : decode cL_law 703 = .ok (.aload_n 2, 1) := by decide +kernel
theorem dL_law_704 : decode cL_law 704 = .ok (.aload_n 0, 1) := by decide +kernel
theorem dL_law_705 : decode cL_law 705 = .ok (.iload_n 3, 1) := by decide +kernel
theorem dL_law_706 : decode cL_law 706 = .ok (.iconst 1, 1) := by decide +kernel
theorem dL_law_707 : decode cL_law 707 = .ok (.iadd, 1) := by decide +kernel
theorem dL_law_708 : decode cL_law 708 = .ok (.iaload, 1) := by decide +kernel
theorem dL_law_709 : decode cL_law 709 = .ok (.aload_n 0, 1) := by decide +kernel
theorem dL_law_710 : decode cL_law 710 = .ok (.iload_n 3, 1) := by decide +kernel
theorem dL_law_711 : decode cL_law 711 = .ok (.iconst 2, 1) := by decide +kernel
theorem dL_law_712 : decode cL_law 712 = .ok (.iadd, 1) := by decide +kernel
theorem dL_law_713 : decode cL_law 713 = .ok (.iaload, 1) := by decide +kernel
theorem dL_law_714 : decode cL_law 714 = .ok (.invokevirtual 95, 3) := by decide +kernel
theorem dL_law_717 : decode cL_law 717 = .ok (.f2d, 1) := by decide +kernel
theorem dL_law_718 : decode cL_law 718 = .ok (.dstore 6, 2) := by decide +kernel
theorem dL_law_720 : decode cL_law 720 = .ok (.dload 4, 2) := by decide +kernel
theorem dL_law_722 : decode cL_law 722 = .ok (.dload 6, 2) := by decide +kernel
theorem dL_law_724 : decode cL_law 724 = .ok (.dcmp .l, 1) := by decide +kernel
theorem dL_law_725 : decode cL_law 725 = .ok (.ifCond .eq 21, 3) := by decide +kernel
theorem dL_law_728 : decode cL_law 728 = .ok (.dload 4, 2) := by decide +kernel
theorem dL_law_730 : decode cL_law 730 = .ok (.dload 4, 2) := by decide +kernel
theorem dL_law_732 : decode cL_law 732 = .ok (.dcmp .l, 1) := by decide +kernel
theorem dL_law_733 : decode cL_law 733 = .ok (.ifCond .eq 11, 3) := by decide +kernel
theorem dL_law_736 : decode cL_law 736 = .ok (.dload 6, 2) := by decide +kernel
theorem dL_law_738 : decode cL_law 738 = .ok (.dload 6, 2) := by decide +kernel
theorem dL_law_740 : decode cL_law 740 = .ok (.dcmp .l, 1) := by decide +kernel
theorem dL_law_741 : decode cL_law 741 = .ok (.ifCond .ne 5, 3) := by decide +kernel
theorem dL_law_744 : decode cL_law 744 = .ok (.iconst 0, 1) := by decide +kernel
theorem dL_law_745 : decode cL_law 745 = .ok (.ireturn, 1) := by decide +kernel
theorem dL_law_746 : decode cL_law 746 = .ok (.goto 277, 3) := by decide +kernel
theorem dL_law_749 : decode cL_law 749 = .ok (.aload_n 1, 1) := by decide +kernel
theorem dL_law_750 : decode cL_law 750 = .ok (.aload_n 0, 1) := by decide +kernel
theorem dL_law_751 : decode cL_law 751 = .ok (.iload_n 3, 1) := by decide +kernel
theorem dL_law_752 : decode cL_law 752 = .ok (.iconst 1, 1) := by decide +kernel
theorem dL_law_753 : decode cL_law 753 = .ok (.iadd, 1) := by decide +kernel
theorem dL_law_754 : decode cL_law 754 = .ok (.iaload, 1) := by decide +kernel
theorem dL_law_755 : decode cL_law 755 = .ok (.aload_n 0, 1) := by decide +kernel
theorem dL_law_756 : decode cL_law 756 = .ok (.iload_n 3, 1) := by decide +kernel
theorem dL_law_757 : decode cL_law 757 = .ok (.iconst 2, 1) := by decide +kernel
theorem dL_law_758 : decode cL_law 758 = .ok (.iadd, 1) := by decide +kernel
theorem dL_law_759 : decode cL_law 759 = .ok (.iaload, 1) := by decide +kernel
theorem dL_law_760 : decode cL_law 760 = .ok (.invokevirtual 96, 3) := by decide +kernel
theorem dL_law_763 : decode cL_law 763 = .ok (.f2d, 1) := by decide +kernel
theorem dL_law_764 : decode cL_law 764 = .ok (.dstore 4, 2) := by decide +kernel
theorem dL_law_766 : decode cL_law 766 = .ok (.aload_n 2, 1) := by decide +kernel
theorem dL_law_767 : decode cL_law 767 = .ok (.aload_n 0, 1) := by decide +kernel
theorem dL_law_768 : decode cL_law 768 = .ok (.iload_n 3, 1) := by decide +kernel
theorem dL_law_769 : decode cL_law 769 = .ok (.iconst 1, 1) := by decide +kernel
theorem dL_law_770 : decode cL_law 770 = .ok (.iadd, 1) := by decide +kernel
theorem dL_law_771 : decode cL_law 771 = .ok (.iaload, 1) := by decide +kernel
theorem dL_law_772 : decode cL_law 772 = .ok (.aload_n 0, 1) := by decide +kernel
theorem dL_law_773 : decode cL_law 773 = .ok (.iload_n 3, 1) := by decide +kernel
theorem dL_law_774 : decode cL_law 774 = .ok (.iconst 2, 1) := by decide +kernel
theorem dL_law_775 : decode cL_law 775 = .ok (.iadd, 1) := by decide +kernel
theorem dL_law_776 : decode cL_law 776 = .ok (.iaload, 1) := by decide +kernel
theorem dL_law_777 : decode cL_law 777 = .ok (.invokevirtual 99, 3) := by decide +kernel
theorem dL_law_780 : decode cL_law 780 = .ok (.f2d, 1) := by decide +kernel
theorem dL_law_781 : decode cL_law 781 = .ok (.dstore 6, 2) := by decide +kernel
theorem dL_law_783 : decode cL_law 783 = .ok (.dload 4, 2) := by decide +kernel
theorem dL_law_785 : decode cL_law 785 = .ok (.dload 6, 2) := by decide +kernel
theorem dL_law_787 : decode cL_law 787 = .ok (.dcmp .l, 1) := by decide +kernel
theorem dL_law_788 : decode cL_law 788 = .ok (.ifCond .eq 21, 3) := by decide +kernel
theorem dL_law_791 : decode cL_law 791 = .ok (.dload 4, 2) := by decide +kernel
theorem dL_law_793 : decode cL_law 793 = .ok (.dload 4, 2) := by decide +kernel
theorem dL_law_795 : decode cL_law 795 = .ok (.dcmp .l, 1) := by decide +kernel
theorem dL_law_796 : decode cL_law 796 = .ok (.ifCond .eq 11, 3) := by decide +kernel
theorem dL_law_799 : decode cL_law 799 = .ok (.dload 6, 2) := by decide +kernel
theorem dL_law_801 : decode cL_law 801 = .ok (.dload 6, 2) := by decide +kernel
theorem dL_law_803 : decode cL_law 803 = .ok (.dcmp .l, 1) := by decide +kernel
theorem dL_law_804 : decode cL_law 804 = .ok (.ifCond .ne 5, 3) := by decide +kernel
theorem dL_law_807 : decode cL_law 807 = .ok (.iconst 0, 1) := by decide +kernel
theorem dL_law_808 : decode cL_law 808 = .ok (.ireturn, 1) := by decide +kernel
theorem dL_law_809 : decode cL_law 809 = .ok (.goto 214, 3) := by decide +kernel
theorem dL_law_812 : decode cL_law 812 = .ok (.aload_n 1, 1) := by decide +kernel
theorem dL_law_813 : decode cL_law 813 = .ok (.aload_n 0, 1) := by decide +kernel
theorem dL_law_814 : decode cL_law 814 = .ok (.iload_n 3, 1) := by decide +kernel
theorem dL_law_815 : decode cL_law 815 = .ok (.iconst 1, 1) := by decide +kernel
theorem dL_law_816 : decode cL_law 816 = .ok (.iadd, 1) := by decide +kernel
theorem dL_law_817 : decode cL_law 817 = .ok (.iaload, 1) := by decide +kernel
theorem dL_law_818 : decode cL_law 818 = .ok (.aload_n 0, 1) := by decide +kernel
theorem dL_law_819 : decode cL_law 819 = .ok (.iload_n 3, 1) := by decide +kernel
theorem dL_law_820 : decode cL_law 820 = .ok (.iconst 2, 1) := by decide +kernel
theorem dL_law_821 : decode cL_law 821 = .ok (.iadd, 1) := by decide +kernel
theorem dL_law_822 : decode cL_law 822 = .ok (.iaload, 1) := by decide +kernel
theorem dL_law_823 : decode cL_law 823 = .ok (.invokevirtual 100, 3) := by decide +kernel
theorem dL_law_826 : decode cL_law 826 = .ok (.aload_n 2, 1) := by decide +kernel
theorem dL_law_827 : decode cL_law 827 = .ok (.aload_n 0, 1) := by decide +kernel
theorem dL_law_828 : decode cL_law 828 = .ok (.iload_n 3, 1) := by decide +kernel
theorem dL_law_829 : decode cL_law 829 = .ok (.iconst 1, 1) := by decide +kernel
theorem dL_law_830 : decode cL_law 830 = .ok (.iadd, 1) := by decide +kernel
theorem dL_law_831 : decode cL_law 831 = .ok (.iaload, 1) := by decide +kernel
theorem dL_law_832 : decode cL_law 832 = .ok (.aload_n 0, 1) := by decide +kernel
theorem dL_law_833 : decode cL_law 833 = .ok (.iload_n 3, 1) := by decide +kernel
theorem dL_law_834 : decode cL_law 834 = .ok (.iconst 2, 1) := by decide +kernel
theorem dL_law_835 : decode cL_law 835 = .ok (.iadd, 1) := by decide +kernel
theorem dL_law_836 : decode cL_law 836 = .ok (.iaload, 1) := by decide +kernel
theorem dL_law_837 : decode cL_law 837 = .ok (.invokevirtual 103, 3) := by decide +kernel
theorem dL_law_840 : decode cL_law 840 = .ok (.if_icmp .eq 183, 3) := by decide +kernel
theorem dL_law_843 : decode cL_law 843 = .ok (.iconst 0, 1) := by decide +kernel
theorem dL_law_844 : decode cL_law 844 = .ok (.ireturn, 1) := by decide +kernel
theorem dL_law_845 : decode cL_law 845 = .ok (.aload_n 1, 1) := by decide +kernel
theorem dL_law_846 : decode cL_law 846 = .ok (.aload_n 0, 1) := by decide +kernel
theorem dL_law_847 : decode cL_law 847 = .ok (.iload_n 3, 1) := by decide +kernel
theorem dL_law_848 : decode cL_law 848 = .ok (.iconst 1, 1) := by decide +kernel
theorem dL_law_849 : decode cL_law 849 = .ok (.iadd, 1) := by decide +kernel
theorem dL_law_850 : decode cL_law 850 = .ok (.iaload, 1) := by decide +kernel
theorem dL_law_851 : decode cL_law 851 = .ok (.aload_n 0, 1) := by decide +kernel
theorem dL_law_852 : decode cL_law 852 = .ok (.iload_n 3, 1) := by decide +kernel
theorem dL_law_853 : decode cL_law 853 = .ok (.iconst 2, 1) := by decide +kernel
theorem dL_law_854 : decode cL_law 854 = .ok (.iadd, 1) := by decide +kernel
theorem dL_law_855 : decode cL_law 855 = .ok (.iaload, 1) := by decide +kernel
theorem dL_law_856 : decode cL_law 856 = .ok (.invokevirtual 104, 3) := by decide +kernel
theorem dL_law_859 : decode cL_law 859 = .ok (.aload_n 2, 1) := by decide +kernel
theorem dL_law_860 : decode cL_law 860 = .ok (.aload_n 0, 1) := by decide +kernel
theorem dL_law_861 : decode cL_law 861 = .ok (.iload_n 3, 1) := by decide +kernel
theorem dL_law_862 : decode cL_law 862 = .ok (.iconst 1, 1) := by decide +kernel
theorem dL_law_863 : decode cL_law 863 = .ok (.iadd, 1) := by decide +kernel
theorem dL_law_864 : decode cL_law 864 = .ok (.iaload, 1) := by decide +kernel
theorem dL_law_865 : decode cL_law 865 = .ok (.aload_n 0, 1) := by decide +kernel
theorem dL_law_866 : decode cL_law 866 = .ok (.iload_n 3, 1) := by decide +kernel
theorem dL_law_867 : decode cL_law 867 = .ok (.iconst 2, 1) := by decide +kernel
theorem dL_law_868 : decode cL_law 868 = .ok (.iadd, 1) := by decide +kernel
theorem dL_law_869 : decode cL_law 869 = .ok (.iaload, 1) := by decide +kernel
theorem dL_law_870 : decode cL_law 870 = .ok (.invokevirtual 107, 3) := by decide +kernel
theorem dL_law_873 : decode cL_law 873 = .ok (.if_icmp .eq 150, 3) := by decide +kernel
theorem dL_law_876 : decode cL_law 876 = .ok (.iconst 0, 1) := by decide +kernel
theorem dL_law_877 : decode cL_law 877 = .ok (.ireturn, 1) := by decide +kernel
theorem dL_law_878 : decode cL_law 878 = .ok (.aload_n 1, 1) := by decide +kernel
theorem dL_law_879 : decode cL_law 879 = .ok (.aload_n 0, 1) := by decide +kernel
theorem dL_law_880 : decode cL_law 880 = .ok (.iload_n 3, 1) := by decide +kernel
theorem dL_law_881 : decode cL_law 881 = .ok (.iconst 1, 1) := by decide +kernel
theorem dL_law_882 : decode cL_law 882 = .ok (.iadd, 1) := by decide +kernel
theorem dL_law_883 : decode cL_law 883 = .ok (.iaload, 1) := by decide +kernel
theorem dL_law_884 : decode cL_law 884 = .ok (.aload_n 0, 1) := by decide +kernel
theorem dL_law_885 : decode cL_law 885 = .ok (.iload_n 3, 1) := by decide +kernel
theorem dL_law_886 : decode cL_law 886 = .ok (.iconst 2, 1) := by decide +kernel
theorem dL_law_887 : decode cL_law 887 = .ok (.iadd, 1) := by decide +kernel
theorem dL_law_888 : decode cL_law 888 = .ok (.iaload, 1) := by decide +kernel
theorem dL_law_889 : decode cL_law 889 = .ok (.invokevirtual 108, 3) := by decide +kernel
theorem dL_law_892 : decode cL_law 892 = .ok (.aload_n 2, 1) := by decide +kernel
theorem dL_law_893 : decode cL_law 893 = .ok (.aload_n 0, 1) := by decide +kernel
theorem dL_law_894 : decode cL_law 894 = .ok (.iload_n 3, 1) := by decide +kernel
theorem dL_law_895 : decode cL_law 895 = .ok (.iconst 1, 1) := by decide +kernel
theorem dL_law_896 : decode cL_law 896 = .ok (.iadd, 1) := by decide +kernel
theorem dL_law_897 : decode cL_law 897 = .ok (.iaload, 1) := by decide +kernel
theorem dL_law_898 : decode cL_law 898 = .ok (.aload_n 0, 1) := by decide +kernel
theorem dL_law_899 : decode cL_law 899 = .ok (.iload_n 3, 1) := by decide +kernel
theorem dL_law_900 : decode cL_law 900 = .ok (.iconst 2, 1) := by decide +kernel
theorem dL_law_901 : decode cL_law 901 = .ok (.iadd, 1) := by decide +kernel
theorem dL_law_902 : decode cL_law 902 = .ok (.iaload, 1) := by decide +kernel
theorem dL_law_903 : decode cL_law 903 = .ok (.invokevirtual 111, 3) := by decide +kernel
theorem dL_law_906 : decode cL_law 906 = .ok (.if_icmp .eq 117, 3) := by decide +kernel
theorem dL_law_909 : decode cL_law 909 = .ok (.iconst 0, 1) := by decide +kernel
theorem dL_law_910 : decode cL_law 910 = .ok (.ireturn, 1) := by decide +kernel
theorem dL_law_911 : decode cL_law 911 = .ok (.aload_n 1, 1) := by decide +kernel
theorem dL_law_912 : decode cL_law 912 = .ok (.aload_n 0, 1) := by decide +kernel
theorem dL_law_913 : decode cL_law 913 = .ok (.iload_n 3, 1) := by decide +kernel
theorem dL_law_914 : decode cL_law 914 = .ok (.iconst 1, 1) := by decide +kernel
theorem dL_law_915 : decode cL_law 915 = .ok (.iadd, 1) := by decide +kernel
theorem dL_law_916 : decode cL_law 916 = .ok (.iaload, 1) := by decide +kernel
theorem dL_law_917 : decode cL_law 917 = .ok (.aload_n 0, 1) := by decide +kernel
theorem dL_law_918 : decode cL_law 918 = .ok (.iload_n 3, 1) := by decide +kernel
theorem dL_law_919 : decode cL_law 919 = .ok (.iconst 2, 1) := by decide +kernel
theorem dL_law_920 : decode cL_law 920 = .ok (.iadd, 1) := by decide +kernel
theorem dL_law_921 : decode cL_law 921 = .ok (.iaload, 1) := by decide +kernel
theorem dL_law_922 : decode cL_law 922 = .ok (.invokevirtual 112, 3) := by decide +kernel
theorem dL_law_925 : decode cL_law 925 = .ok (.aload_n 2, 1) := by decide +kernel
theorem dL_law_926 : decode cL_law 926 = .ok (.aload_n 0, 1) := by decide +kernel
theorem dL_law_927 : decode cL_law 927 = .ok (.iload_n 3, 1) := by decide +kernel
theorem dL_law_928 : decode cL_law 928 = .ok (.iconst 1, 1) := by decide +kernel
theorem dL_law_929 : decode cL_law 929 = .ok (.iadd, 1) := by decide +kernel
theorem dL_law_930 : decode cL_law 930 = .ok (.iaload, 1) := by decide +kernel
theorem dL_law_931 : decode cL_law 931 = .ok (.aload_n 0, 1) := by decide +kernel
theorem dL_law_932 : decode cL_law 932 = .ok (.iload_n 3, 1) := by decide +kernel
theorem dL_law_933 : decode cL_law 933 = .ok (.iconst 2, 1) := by decide +kernel
theorem dL_law_934 : decode cL_law 934 = .ok (.iadd, 1) := by decide +kernel
theorem dL_law_935 : decode cL_law 935 = .ok (.iaload, 1) := by decide +kernel
theorem dL_law_936 : decode cL_law 936 = .ok (.invokevirtual 115, 3) := by decide +kernel
theorem dL_law_939 : decode cL_law 939 = .ok (.if_icmp .eq 84, 3) := by decide +kernel
theorem dL_law_942 : decode cL_law 942 = .ok (.iconst 0, 1) := by decide +kernel
theorem dL_law_943 : decode cL_law 943 = .ok (.ireturn, 1) := by decide +kernel
theorem dL_law_944 : decode cL_law 944 = .ok (.aload_n 1, 1) := by decide +kernel
theorem dL_law_945 : decode cL_law 945 = .ok (.aload_n 0, 1) := by decide +kernel
theorem dL_law_946 : decode cL_law 946 = .ok (.iload_n 3, 1) := by decide +kernel
theorem dL_law_947 : decode cL_law 947 = .ok (.iconst 1, 1) := by decide +kernel
theorem dL_law_948 : decode cL_law 948 = .ok (.iadd, 1) := by decide +kernel
theorem dL_law_949 : decode cL_law 949 = .ok (.iaload, 1) := by decide +kernel
theorem dL_law_950 : decode cL_law 950 = .ok (.aload_n 0, 1) := by decide +kernel
theorem dL_law_951 : decode cL_law 951 = .ok (.iload_n 3, 1) := by decide +kernel
theorem dL_law_952 : decode cL_law 952 = .ok (.iconst 2, 1) := by decide +kernel
theorem dL_law_953 : decode cL_law 953 = .ok (.iadd, 1) := by decide +kernel
theorem dL_law_954 : decode cL_law 954 = .ok (.iaload, 1) := by decide +kernel
theorem dL_law_955 : decode cL_law 955 = .ok (.invokevirtual 116, 3) := by decide +kernel
theorem dL_law_958 : decode cL_law 958 = .ok (.aload_n 2, 1) := by decide +kernel
theorem dL_law_959 : decode cL_law 959 = .ok (.aload_n 0, 1) := by decide +kernel
theorem dL_law_960 : decode cL_law 960 = .ok (.iload_n 3, 1) := by decide +kernel
theorem dL_law_961 : decode cL_law 961 = .ok (.iconst 1, 1) := by decide +kernel
theorem dL_law_962 : decode cL_law 962 = .ok (.iadd, 1) := by decide +kernel
theorem dL_law_963 : decode cL_law 963 = .ok (.iaload, 1) := by decide +kernel
theorem dL_law_964 : decode cL_law 964 = .ok (.aload_n 0, 1) := by decide +kernel
theorem dL_law_965 : decode cL_law 965 = .ok (.iload_n 3, 1) := by decide +kernel
theorem dL_law_966 : decode cL_law 966 = .ok (.iconst 2, 1) := by decide +kernel
theorem dL_law_967 : decode cL_law 967 = .ok (.iadd, 1) := by decide +kernel
theorem dL_law_968 : decode cL_law 968 = .ok (.iaload, 1) := by decide +kernel
theorem dL_law_969 : decode cL_law 969 = .ok (.invokevirtual 119, 3) := by decide +kernel
theorem dL_law_972 : decode cL_law 972 = .ok (.if_icmp .eq 51, 3) := by decide +kernel
theorem dL_law_975 : decode cL_law 975 = .ok (.iconst 0, 1) := by decide +kernel
theorem dL_law_976 : decode cL_law 976 = .ok (.ireturn, 1) := by decide +kernel
theorem dL_law_977 : decode cL_law 977 = .ok (.aload_n 1, 1) := by decide +kernel
theorem dL_law_978 : decode cL_law 978 = .ok (.aload_n 0, 1) := by decide +kernel
theorem dL_law_979 : decode cL_law 979 = .ok (.iload_n 3, 1) := by decide +kernel
theorem dL_law_980 : decode cL_law 980 = .ok (.iconst 1, 1) := by decide +kernel
theorem dL_law_981 : decode cL_law 981 = .ok (.iadd, 1) := by decide +kernel
theorem dL_law_982 : decode cL_law 982 = .ok (.iaload, 1) := by decide +kernel
theorem dL_law_983 : decode cL_law 983 = .ok (.invokevirtual 120, 3) := by decide +kernel
theorem dL_law_986 : decode cL_law 986 = .ok (.aload_n 2, 1) := by decide +kernel
theorem dL_law_987 : decode cL_law 987 = .ok (.aload_n 0, 1) := by decide +kernel
theorem dL_law_988 : decode cL_law 988 = .ok (.iload_n 3, 1) := by decide +kernel
theorem dL_law_989 : decode cL_law 989 = .ok (.iconst 1, 1) := by decide +kernel
theorem dL_law_990 : decode cL_law 990 = .ok (.iadd, 1) := by decide +kernel
theorem dL_law_991 : decode cL_law 991 = .ok (.iaload, 1) := by decide +kernel
theorem dL_law_992 : decode cL_law 992 = .ok (.invokevirtual 123, 3) := by decide +kernel
theorem dL_law_995 : decode cL_law 995 = .ok (.if_icmp .eq 28, 3) := by decide +kernel
theorem dL_law_998 : decode cL_law 998 = .ok (.iconst 0, 1) := by decide +kernel
theorem dL_law_999 : decode cL_law 999 = .ok (.ireturn, 1) := by decide +kernel
theorem dL_law_1000 : decode cL_law 1000 = .ok (.aload_n 1, 1) := by decide +kernel
theorem dL_law_1001 : decode cL_law 1001 = .ok (.aload_n 0, 1) := by decide +kernel
theorem dL_law_1002 : decode cL_law 1002 = .ok (.iload_n 3, 1) := by decide +kernel
theorem dL_law_1003 : decode cL_law 1003 = .ok (.iconst 1, 1) := by decide +kernel
theorem dL_law_1004 : decode cL_law 1004 = .ok (.iadd, 1) := by decide +kernel
theorem dL_law_1005 : decode cL_law 1005 = .ok (.iaload, 1) := by decide +kernel
theorem dL_law_1006 : decode cL_law 1006 = .ok (.invokevirtual 124, 3) := by decide +kernel
theorem dL_law_1009 : decode cL_law 1009 = .ok (.aload_n 2, 1) := by decide +kernel
theorem dL_law_1010 : decode cL_law 1010 = .ok (.aload_n 0, 1) := by decide +kernel
theorem dL_law_1011 : decode cL_law 1011 = .ok (.iload_n 3, 1) := by decide +kernel
theorem dL_law_1012 : decode cL_law 1012 = .ok (.iconst 1, 1) := by decide +kernel
theorem dL_law_1013 : decode cL_law 1013 = .ok (.iadd, 1) := by decide +kernel
theorem dL_law_1014 : decode cL_law 1014 = .ok (.iaload, 1) := by decide +kernel
theorem dL_law_1015 : decode cL_law 1015 = .ok (.invokevirtual 127, 3) := by decide +kernel
theorem dL_law_1018 : decode cL_law 1018 = .ok (.if_icmp .eq 5, 3) := by decide +kernel
theorem dL_law_1021 : decode cL_law 1021 = .ok (.iconst 0, 1) := by decide +kernel
theorem dL_law_1022 : decode cL_law 1022 = .ok (.ireturn, 1) := by decide +kernel
theorem dL_law_1023 : decode cL_law 1023 = .ok (.iinc 3 7, 3) := by decide +kernel
theorem dL_law_1026 : decode cL_law 1026 = .ok (.goto (-1008), 3) := by decide +kernel
theorem dL_law_1029 : decode cL_law 1029 = .ok (.iconst 1, 1) := by decide +kernel
theorem dL_law_1030 : decode cL_law 1030 = .ok (.ireturn, 1) := by decide +kernel
end
section
/-! the words that every method takes: all good ones of the tables -/
def wsA : List Cond := lw_tbl.filter goodWord
theorem wsA_in : ∀ w ∈ wsA, w ∈ lw_tbl := fun _ h => (List.mem_filter.mp h).1
theorem wsA_gd : ∀ w ∈ wsA, (w.onTables && w.keeps) = true ∨ ∃ ty, w = .arrayClass ty := fun _ h => good_of_word (List.mem_filter.mp h).2
theorem wsA_at {w : Cond} (i : Nat) (h : lw_tbl[i]? = some w) (hg : goodWord w = true) : w ∈ wsA := List.mem_filter.mpr ⟨List.mem_of_getElem? h, hg⟩
theorem wsA_ps (ws : List Cond) (ps : List Nat) (hp : ws = ps.filterMap (fun i => lw_tbl[i]?)) (h : ws.all goodWord = true) : ∀ w ∈ ws, w ∈ wsA := fun w hw => List.mem_filter.mpr ⟨(goodIn_r ws ps hp h w hw).1, List.all_eq_true.mp h w hw⟩
theorem iAX0 : ∀ w ∈ u_ws RX0 TX0 6, w ∈ wsA := wsA_ps _ [117, 119, 121, 123, 125, 127] (by decide +kernel) (by decide +kernel)
theorem iAX1 : ∀ w ∈ u_ws RX1 TX1 2, w ∈ wsA := wsA_ps _ [141, 143] (by decide +kernel) (by decide +kernel)
theorem iAX2 : ∀ w ∈ u_ws RX2 TX2 3, w ∈ wsA := wsA_ps _ [255, 257, 259] (by decide +kernel) (by decide +kernel)
theorem iAX3 : ∀ w ∈ u_ws RX3 TX3 3, w ∈ wsA := wsA_ps _ [284, 286, 288] (by decide +kernel) (by decide +kernel)
theorem iAX4 : ∀ w ∈ u_ws RX4 TX4 5, w ∈ wsA := wsA_ps _ [300, 302, 304, 306, 308] (by decide +kernel) (by decide +kernel)
theorem iAX5 : ∀ w ∈ u_ws RX5 TX5 8, w ∈ wsA := wsA_ps _ [225, 227, 229, 231, 233, 235, 237, 239] (by decide +kernel) (by decide +kernel)
theorem iAX6 : ∀ w ∈ u_ws RX6 TX6 12, w ∈ wsA := wsA_ps _ [185, 187, 189, 191, 193, 195, 197, 199, 201, 203, 205, 207] (by decide +kernel) (by decide +kernel)
theorem iAX7 : ∀ w ∈ u_ws RX7 TX7 6, w ∈ wsA := wsA_ps _ [317, 319, 321, 323, 325, 327] (by decide +kernel) (by decide +kernel)
theorem iAX8 : ∀ w ∈ u_ws RX8 TX8 15, w ∈ wsA := wsA_ps _ [755, 757, 759, 761, 763, 765, 767, 769, 771, 773, 775, 777, 779, 781, 783] (by decide +kernel) (by decide +kernel)
/-! words that want a way of their own: nest mates, arrays over a class -/
def spN : List (String × Nat × MethodName × String) := [(RX5, 46, yX0_init, "TagWindows"), (RX5, 47, yX1_init, "TagWindows"), (RX5, 48, yX6_init, "TagWindows"), (RX4, 31, yX3_init, "TagWindows"), (RX5, 59, yX7_within, "TagWindows")]
def spA : List String := [RX0, RX1, RX6, RX5, RX3]
theorem spN_in : ∀ q ∈ spN, Cond.methodLinkNest q.1 q.2.1 q.2.2.1 q.2.2.2 ∈ lw_tbl := by
  intro q hq
  simp only [spN, List.mem_cons, List.not_mem_nil, or_false] at hq
  rcases hq with rfl | rfl | rfl | rfl | rfl
  · exact List.mem_of_getElem? (i := 100) (by decide +kernel)
  · exact List.mem_of_getElem? (i := 132) (by decide +kernel)
  · exact List.mem_of_getElem? (i := 147) (by decide +kernel)
  · exact List.mem_of_getElem? (i := 271) (by decide +kernel)
  · exact List.mem_of_getElem? (i := 354) (by decide +kernel)
theorem spA_in : ∀ C ∈ spA, Cond.arrayOver (.object C) ∈ lw_tbl := by
  intro q hq
  simp only [spA, List.mem_cons, List.not_mem_nil, or_false] at hq
  rcases hq with rfl | rfl | rfl | rfl | rfl
  · exact List.mem_of_getElem? (i := 94) (by decide +kernel)
  · exact List.mem_of_getElem? (i := 96) (by decide +kernel)
  · exact List.mem_of_getElem? (i := 98) (by decide +kernel)
  · exact List.mem_of_getElem? (i := 249) (by decide +kernel)
  · exact List.mem_of_getElem? (i := 269) (by decide +kernel)
theorem nk_RX5_46 : (RX5, 46, yX0_init, "TagWindows") ∈ spN := by simp [spN]
theorem nk_RX5_47 : (RX5, 47, yX1_init, "TagWindows") ∈ spN := by simp [spN]
theorem nk_RX5_48 : (RX5, 48, yX6_init, "TagWindows") ∈ spN := by simp [spN]
theorem nk_RX4_31 : (RX4, 31, yX3_init, "TagWindows") ∈ spN := by simp [spN]
theorem nk_RX5_59 : (RX5, 59, yX7_within, "TagWindows") ∈ spN := by simp [spN]
theorem ao_RX0 : RX0 ∈ spA := by simp [spA]
theorem ao_RX1 : RX1 ∈ spA := by simp [spA]
theorem ao_RX6 : RX6 ∈ spA := by simp [spA]
theorem ao_RX5 : RX5 ∈ spA := by simp [spA]
theorem ao_RX3 : RX3 ∈ spA := by simp [spA]
end
section
/-! THE PURE WORLD: cells by number (0: the script), ints and floats by cell and slot; a NaN is any NaN -/
abbrev pT : Type := Nat × (Nat → Nat × Nat) × (Nat → Nat → Option Nat)
abbrev pI : Type := Nat → Nat → Int32
abbrev pF : Type := Nat → Nat → UInt32
/-- own class, maxLocals, what it returns, frames, locals' room, a constructor -/
abbrev mB : Type := String × Nat × Option FieldType × Nat × Nat × Bool
abbrev pJ : Value := .retAddr 0
def fty (c k : Nat) : FieldType := match c with
  | 0 => tyX0 k
  | 1 => tyX1 k
  | 2 => tyX2 k
  | 3 => tyX3 k
  | 4 => tyX4 k
  | 5 => tyX5 k
  | 6 => tyX6 k
  | 7 => tyX7 k
  | _ => tyX8 k
def fN (c : Nat) : Nat := match c with
  | 0 => 6
  | 1 => 2
  | 2 => 3
  | 3 => 3
  | 4 => 5
  | 5 => 8
  | 6 => 12
  | 7 => 6
  | _ => 15
def cnm (c : Nat) : String := match c with
  | 0 => RX0
  | 1 => RX1
  | 2 => RX2
  | 3 => RX3
  | 4 => RX4
  | 5 => RX5
  | 6 => RX6
  | 7 => RX7
  | _ => RX8
def rv (r : Option Nat) : Value := match r with
  | some q => .ref q
  | none => .null
def fv (σ : pT) (I : pI) (F : pF) (c q k : Nat) : Value := match fty c k with
  | .float => .float (F q k)
  | .object _ => rv (σ.2.2 q k)
  | .array _ => rv (σ.2.2 q k)
  | _ => .int (I q k)
/-! floats: alike ones are told apart by nothing but f2d's answer, which is alike too -/
theorem nan_dec {x : UInt32} (h : isNaN32 x = true) : FP.Core.decode FP.Core.b32 x.toNat = .nan := by
  have h1 := isNaN32_iff.mp h
  have hx : x.toNat < 4294967296 := x.toNat_lt
  generalize x.toNat = n at h1 hx
  have e1 : n &&& 2147483647 = n % 2147483648 := Nat.and_two_pow_sub_one_eq_mod n 31
  rw [show (0x7fffffff : Nat) = 2147483647 from rfl, e1] at h1
  have h2 : FP.Core.fieldE FP.Core.b32 n = 255 := by
    show n / 8388608 % 256 = 255
    omega
  have h3 : FP.Core.fieldT FP.Core.b32 n ≠ 0 := by
    show n % 8388608 ≠ 0
    omega
  unfold FP.Core.decode
  simp only [h2, h3]
  rfl
theorem alike_dec {x y : UInt32} (h : alike32 x y = true) : FP.Core.decode FP.Core.b32 x.toNat = FP.Core.decode FP.Core.b32 y.toNat := by
  simp only [alike32, Bool.or_eq_true, decide_eq_true_eq, Bool.and_eq_true] at h
  rcases h with rfl | ⟨h1, h2⟩
  · rfl
  · rw [nan_dec h1, nan_dec h2]
theorem alike_fadd {x y x' y' : UInt32} (h : alike32 x' x = true) (h2 : alike32 y' y = true) : FP.fadd x' y' = FP.fadd x y := by
  show FP.Core.fadd x' y' = FP.Core.fadd x y
  simp only [FP.Core.fadd, FP.Core.add, alike_dec h, alike_dec h2]
theorem alike_fsub {x y x' y' : UInt32} (h : alike32 x' x = true) (h2 : alike32 y' y = true) : FP.fsub x' y' = FP.fsub x y := by
  show FP.Core.fsub x' y' = FP.Core.fsub x y
  simp only [FP.Core.fsub, FP.Core.sub, alike_dec h, alike_dec h2]
theorem alike_fmul {x y x' y' : UInt32} (h : alike32 x' x = true) (h2 : alike32 y' y = true) : FP.fmul x' y' = FP.fmul x y := by
  show FP.Core.fmul x' y' = FP.Core.fmul x y
  simp only [FP.Core.fmul, FP.Core.mul, alike_dec h, alike_dec h2]
theorem alike_fdiv {x y x' y' : UInt32} (h : alike32 x' x = true) (h2 : alike32 y' y = true) : FP.fdiv x' y' = FP.fdiv x y := by
  show FP.Core.fdiv x' y' = FP.Core.fdiv x y
  simp only [FP.Core.fdiv, FP.Core.div, alike_dec h, alike_dec h2]
theorem alike_fcmp {x y x' y' : UInt32} (h : alike32 x' x = true) (h2 : alike32 y' y = true) : FP.fcmp x' y' = FP.fcmp x y := by
  show FP.Core.fcmp x' y' = FP.Core.fcmp x y
  simp only [FP.Core.fcmp, FP.Core.cmp, alike_dec h, alike_dec h2]
theorem alike_f2i {x x' : UInt32} (h : alike32 x' x = true) : FP.f2i x' = FP.f2i x := by
  show FP.Core.f2i x' = FP.Core.f2i x
  simp only [FP.Core.f2i, alike_dec h]
theorem nan_dec64 {x : UInt64} (h : isNaN64 x = true) : FP.Core.decode FP.Core.b64 x.toNat = .nan := by
  have h1 := isNaN64_iff.mp h
  have hx : x.toNat < 18446744073709551616 := x.toNat_lt
  generalize x.toNat = n at h1 hx
  have e1 : n &&& 9223372036854775807 = n % 9223372036854775808 := Nat.and_two_pow_sub_one_eq_mod n 63
  rw [show (0x7fffffffffffffff : Nat) = 9223372036854775807 from rfl, e1] at h1
  have h2 : FP.Core.fieldE FP.Core.b64 n = 2047 := by
    show n / 4503599627370496 % 2048 = 2047
    omega
  have h3 : FP.Core.fieldT FP.Core.b64 n ≠ 0 := by
    show n % 4503599627370496 ≠ 0
    omega
  unfold FP.Core.decode
  simp only [h2, h3]
  rfl
theorem alike_dec64 {x y : UInt64} (h : alike64 x y = true) : FP.Core.decode FP.Core.b64 x.toNat = FP.Core.decode FP.Core.b64 y.toNat := by
  simp only [alike64, Bool.or_eq_true, decide_eq_true_eq, Bool.and_eq_true] at h
  rcases h with rfl | ⟨h1, h2⟩
  · rfl
  · rw [nan_dec64 h1, nan_dec64 h2]
theorem alike_dcmp {x y x' y' : UInt64} (h : alike64 x' x = true) (h2 : alike64 y' y = true) : FP.dcmp x' y' = FP.dcmp x y := by
  show FP.Core.dcmp x' y' = FP.Core.dcmp x y
  simp only [FP.Core.dcmp, FP.Core.cmp, alike_dec64 h, alike_dec64 h2]
theorem alike64_trans {x y z : UInt64} (h : alike64 x y = true) (h2 : alike64 y z = true) : alike64 x z = true := by
  simp only [alike64, Bool.or_eq_true, decide_eq_true_eq, Bool.and_eq_true] at h h2 ⊢
  rcases h with rfl | ⟨h1, h3⟩
  · exact h2
  · rcases h2 with rfl | ⟨h4, h5⟩
    · exact Or.inr ⟨h1, h3⟩
    · exact Or.inr ⟨h1, h5⟩
theorem f2d_nan {a : UInt32} (h : isNaN32 a = true) : isNaN64 (FP.f2d a) = true := by
  have h1 : FP.Core.fIsNaN a = true := by
    simp [FP.Core.fIsNaN, FP.Core.isNaN, nan_dec h]
  unfold FP.f2d
  rw [if_pos h1]
  unfold FP.nanF2D
  exact isNaN64_or_left (isNaN64_or_right (by decide))
theorem alike_f2d {x x' : UInt32} (h : alike32 x' x = true) : alike64 (FP.f2d x') (FP.f2d x) = true := by
  simp only [alike32, Bool.or_eq_true, decide_eq_true_eq, Bool.and_eq_true] at h
  rcases h with rfl | ⟨h1, h2⟩
  · exact alike64_refl _
  · simp only [alike64, Bool.or_eq_true, Bool.and_eq_true]
    exact Or.inr ⟨f2d_nan h1, f2d_nan h2⟩
/-! values, stacks, locals -/
def vr (al : List Nat) (v v' : Value) : Prop := match v with
  | .int x => v' = .int x
  | .float x => ∃ y, v' = .float y ∧ alike32 y x = true
  | .double x => ∃ y, v' = .double y ∧ alike64 y x = true
  | .ref q => ∃ a, al[q]? = some a ∧ v' = .ref a
  | .null => v' = .null
  | _ => False
theorem vr_app {al l : List Nat} {v v' : Value} (h : vr al v v') : vr (al ++ l) v v' := by
  cases v with
  | ref q =>
    obtain ⟨a, h1, h2⟩ := h
    refine ⟨a, ?_, h2⟩
    have hl := (List.getElem?_eq_some_iff.mp h1).1
    rw [List.getElem?_append_left hl]
    exact h1
  | _ => exact h
theorem vr_cat {al : List Nat} {v v' : Value} (h : vr al v v') : v'.category = v.category := by
  cases v with
  | int x => rw [show v' = .int x from h]
  | float x => obtain ⟨y, rfl, -⟩ := h; rfl
  | double x => obtain ⟨y, rfl, -⟩ := h; rfl
  | ref q => obtain ⟨a, -, rfl⟩ := h; rfl
  | null => rw [show v' = .null from h]
  | long x => exact h.elim
  | retAddr x => exact h.elim
def sr (al : List Nat) : List Value → List Value → Prop
  | [], stM => stM = []
  | v :: st, stM => ∃ v' t, stM = v' :: t ∧ vr al v v' ∧ sr al st t
theorem sr_app {al l : List Nat} : ∀ {st stM : List Value}, sr al st stM → sr (al ++ l) st stM
  | [], _, h => h
  | _ :: _, _, ⟨v', t, h1, h2, h3⟩ => ⟨v', t, h1, vr_app h2, sr_app h3⟩
theorem sr_cat {al : List Nat} : ∀ {st stM : List Value}, sr al st stM → (stM.map fun v => v.category) = (st.map fun v => v.category)
  | [], _, h => by rw [show _ = [] from h]
  | v :: st, _, ⟨v', t, h1, h2, h3⟩ => by
    subst h1
    simp only [List.map_cons, vr_cat h2, sr_cat h3]
theorem sr_split {al : List Nat} : ∀ {a st stM : List Value}, sr al (a ++ st) stM → ∃ aM tM, stM = aM ++ tM ∧ sr al a aM ∧ sr al st tM
  | [], st, stM, h => ⟨[], stM, rfl, rfl, h⟩
  | v :: a, st, stM, ⟨v', t, h1, h2, h3⟩ => by
    obtain ⟨aM, tM, h4, h5, h6⟩ := sr_split (a := a) h3
    exact ⟨v' :: aM, tM, by rw [h1, h4]; rfl, ⟨v', aM, rfl, h2, h5⟩, h6⟩
theorem sr_join {al : List Nat} : ∀ {a st aM tM : List Value}, sr al a aM → sr al st tM → sr al (a ++ st) (aM ++ tM)
  | [], st, aM, tM, h, h2 => by rw [show aM = [] from h]; exact h2
  | v :: a, st, _, tM, ⟨v', t, h1, h2, h3⟩, h4 => ⟨v', t ++ tM, by rw [h1]; rfl, h2, sr_join h3 h4⟩
theorem sr_rev {al : List Nat} : ∀ {a aM : List Value}, sr al a aM → sr al a.reverse aM.reverse
  | [], aM, h => by rw [show aM = [] from h]; rfl
  | v :: a, _, ⟨v', t, h1, h2, h3⟩ => by
    subst h1
    rw [List.reverse_cons, List.reverse_cons]
    exact sr_join (sr_rev h3) ⟨v', [], rfl, h2, rfl⟩
theorem sr_get {al : List Nat} : ∀ {a aM : List Value} {k : Nat} {v : Value}, sr al a aM → a[k]? = some v → ∃ v', aM[k]? = some v' ∧ vr al v v'
  | [], _, k, v, _, hk => by simp at hk
  | u :: a, _, 0, v, ⟨v', t, h1, h2, _⟩, hk => by
    subst h1
    simp only [List.getElem?_cons_zero, Option.some.injEq] at hk
    subst hk
    exact ⟨v', by simp, h2⟩
  | u :: a, _, k + 1, v, ⟨v', t, h1, _, h3⟩, hk => by
    subst h1
    rw [List.getElem?_cons_succ] at hk
    obtain ⟨w, h4, h5⟩ := sr_get h3 hk
    exact ⟨w, by rw [List.getElem?_cons_succ]; exact h4, h5⟩
theorem sr_len {al : List Nat} : ∀ {a aM : List Value}, sr al a aM → aM.length = a.length
  | [], aM, h => by rw [show aM = [] from h]
  | v :: a, _, ⟨v', t, h1, _, h3⟩ => by
    subst h1
    simp [sr_len h3]
def lr (al : List Nat) (nL : Nat) (ls : List Value) (lsM : Array Slot) : Prop :=
  lsM.size = nL ∧ lv_wf lsM ∧ ls.length = nL ∧ ∀ (k : Nat) (v : Value), ls[k]? = some v → v = pJ ∨ ∃ v', vr al v v' ∧ lsM[k]? = some (Slot.val v')
theorem lr_app {al l : List Nat} {nL : Nat} {ls : List Value} {lsM : Array Slot} (h : lr al nL ls lsM) : lr (al ++ l) nL ls lsM :=
  ⟨h.1, h.2.1, h.2.2.1, fun k v hk => (h.2.2.2 k v hk).imp id fun ⟨v', h1, h2⟩ => ⟨v', vr_app h1, h2⟩⟩
theorem lr_get {al : List Nat} {nL : Nat} {ls : List Value} {lsM : Array Slot} (h : lr al nL ls lsM) {k : Nat} {v : Value} (hk : ls[k]? = some v) (hv : v ≠ pJ) : ∃ v', vr al v v' ∧ lsM[k]? = some (Slot.val v') := (h.2.2.2 k v hk).resolve_left hv
/-- all that the machine's locals hold, as the kit lists them -/
def lr_all (lsM : Array Slot) : List (Nat × Value) := (List.range lsM.size).filterMap fun k => match lsM[k]? with
  | some (Slot.val v) => some (k, v)
  | _ => none
theorem lr_mem {lsM : Array Slot} {k : Nat} {v : Value} : (k, v) ∈ lr_all lsM ↔ lsM[k]? = some (Slot.val v) := by
  unfold lr_all
  rw [List.mem_filterMap]
  constructor
  · rintro ⟨j, -, hj⟩
    split at hj
    · rename_i w hw
      cases hj
      exact hw
    · cases hj
  · intro h
    refine ⟨k, List.mem_range.mpr (Array.getElem?_eq_some_iff.mp h).1, ?_⟩
    rw [h]
theorem lr_has {al : List Nat} {nL : Nat} {ls : List Value} {lsM : Array Slot} (h : lr al nL ls lsM) : lv_has lsM nL (lr_all lsM) := ⟨h.1, h.2.1, fun q hq => lr_mem.mp hq⟩
/-- no value of two words at the place below -/
def lo2 (ls : List Value) (i : Nat) : Bool := match i with
  | 0 => true
  | j + 1 => match ls[j]? with
    | some w => w.category == 1
    | none => true
theorem lo2_ok {ls : List Value} {i : Nat} (h : lo2 ls i = true) : ∀ (j : Nat) (w : Value), ls[j]? = some w → j + 1 = i → w.category = 1 := by
  intro j w hj hi
  subst hi
  simpa [lo2, hj] using h
/-- a local of one word, written -/
theorem lr_set {al : List Nat} {nL : Nat} {ls : List Value} {lsM ls' : Array Slot} {i : Nat} {v v' : Value} (h : lr al nL ls lsM) (hv : vr al v v') (h2 : lv_has ls' nL ((i, v') :: (lr_all lsM).filter (fun q => !(q.1 == i) && !(q.1 + 1 == i && q.2.category == 2)))) (hi : ∀ (j : Nat) (w : Value), ls[j]? = some w → j + 1 = i → w.category = 1) : lr al nL (ls.set i v) ls' := by
  refine ⟨h2.1, h2.2.1, by rw [List.length_set]; exact h.2.2.1, fun k w hk => ?_⟩
  by_cases hki : i = k
  · subst hki
    have hlt : i < ls.length := by
      have := (List.getElem?_eq_some_iff.mp hk).1
      rwa [List.length_set] at this
    rw [List.getElem?_set_self hlt] at hk
    cases hk
    exact Or.inr ⟨v', hv, h2.2.2 _ List.mem_cons_self⟩
  · rw [List.getElem?_set_ne hki] at hk
    rcases h.2.2.2 k w hk with h3 | ⟨w', h3, h4⟩
    · exact Or.inl h3
    · by_cases hw : w = pJ
      · exact Or.inl hw
      refine Or.inr ⟨w', h3, h2.2.2 (k, w') (List.mem_cons_of_mem _ (List.mem_filter.mpr ⟨lr_mem.mpr h4, ?_⟩))⟩
      simp only [Bool.and_eq_true, Bool.not_eq_true', beq_eq_false_iff_ne, ne_eq, Bool.and_eq_false_imp, beq_iff_eq]
      refine ⟨fun z => hki z.symm, fun z => ?_⟩
      have h5 := hi k w hk z
      rw [vr_cat h3, h5]
      decide
/-- a local of two words, written -/
theorem lr_set2 {al : List Nat} {nL : Nat} {ls : List Value} {lsM ls' : Array Slot} {i : Nat} {v v' : Value} (h : lr al nL ls lsM) (hv : vr al v v') (h2 : lv_has ls' nL ((i, v') :: (lr_all lsM).filter (fun q => !(q.1 == i) && (!(q.1 == i + 1) && !(q.1 + 1 == i && q.2.category == 2))))) (hi : ∀ (j : Nat) (w : Value), ls[j]? = some w → j + 1 = i → w.category = 1) : lr al nL ((ls.set i v).set (i + 1) pJ) ls' := by
  refine ⟨h2.1, h2.2.1, by rw [List.length_set, List.length_set]; exact h.2.2.1, fun k w hk => ?_⟩
  by_cases hk1 : i + 1 = k
  · subst hk1
    have hlt : i + 1 < (ls.set i v).length := by
      have := (List.getElem?_eq_some_iff.mp hk).1
      rwa [List.length_set] at this
    rw [List.getElem?_set_self hlt] at hk
    cases hk
    exact Or.inl rfl
  rw [List.getElem?_set_ne hk1] at hk
  by_cases hki : i = k
  · subst hki
    have hlt : i < ls.length := by
      have := (List.getElem?_eq_some_iff.mp hk).1
      rwa [List.length_set] at this
    rw [List.getElem?_set_self hlt] at hk
    cases hk
    exact Or.inr ⟨v', hv, h2.2.2 _ List.mem_cons_self⟩
  · rw [List.getElem?_set_ne hki] at hk
    rcases h.2.2.2 k w hk with h3 | ⟨w', h3, h4⟩
    · exact Or.inl h3
    · by_cases hw : w = pJ
      · exact Or.inl hw
      refine Or.inr ⟨w', h3, h2.2.2 (k, w') (List.mem_cons_of_mem _ (List.mem_filter.mpr ⟨lr_mem.mpr h4, ?_⟩))⟩
      simp only [Bool.and_eq_true, Bool.not_eq_true', beq_eq_false_iff_ne, ne_eq, Bool.and_eq_false_imp, beq_iff_eq]
      refine ⟨fun z => hki z.symm, fun z => hk1 z.symm, fun z => ?_⟩
      have h5 := hi k w hk z
      rw [vr_cat h3, h5]
      decide
/-! the world -/
def ce (al : List Nat) (tys : List (ClassId × FieldType)) (σ : pT) (I : pI) (F : pF) (q : Nat) (e : va_E) : Prop :=
  (∀ c, (σ.2.1 q).1 = c + 1 → c < 9 → ∃ fs, e = .inr (c, fs) ∧ ∀ k, k < fN c → ∃ v', fs[k]? = some v' ∧ vr al (fv σ I F c q k) v') ∧
  ((σ.2.1 q).1 = 20 → ∃ cA f, e = .inl (cA, (σ.2.1 q).2, .inl f) ∧ (∃ t0 : Nat, tys[t0]? = some (cA, .int)) ∧ ∀ k, k < (σ.2.1 q).2 → f k = I q k) ∧
  ((σ.2.1 q).1 = 21 → ∃ cA f, e = .inl (cA, (σ.2.1 q).2, .inl f) ∧ (∃ t0 : Nat, tys[t0]? = some (cA, .char)) ∧ ∀ k, k < (σ.2.1 q).2 → f k = I q k) ∧
  ((σ.2.1 q).1 = 22 → ∃ cA f, e = .inl (cA, (σ.2.1 q).2, .inr (.inr (.inl f))) ∧ (∃ t0 : Nat, tys[t0]? = some (cA, .float)) ∧ ∀ k, k < (σ.2.1 q).2 → alike32 (f k) (F q k) = true) ∧
  (∀ c, (σ.2.1 q).1 = c + 30 → c < 9 → ∃ cA f, e = .inl (cA, (σ.2.1 q).2, .inr (.inr (.inr (.inr f)))) ∧ (∃ t0 : Nat, tys[t0]? = some (cA, .object (cnm c))) ∧ ∀ k, k < (σ.2.1 q).2 → vr al (rv (σ.2.2 q k)) (va_rf (f k)))
theorem ce_congr {al : List Nat} {tys : List (ClassId × FieldType)} {σ σ' : pT} {I I' : pI} {F F' : pF} {q : Nat} {e : va_E} (hK : σ'.2.1 q = σ.2.1 q) (hR : σ'.2.2 q = σ.2.2 q) (hI : I' q = I q) (hF : F' q = F q) (h : ce al tys σ I F q e) : ce al tys σ' I' F' q e := by
  have hfv : ∀ c k, fv σ' I' F' c q k = fv σ I F c q k := fun c k => by simp only [fv, hR, hI, hF]
  refine ⟨fun c h1 h2 => ?_, fun h1 => ?_, fun h1 => ?_, fun h1 => ?_, fun c h1 h2 => ?_⟩
  · obtain ⟨fs, e1, e2⟩ := h.1 c (by rw [← hK]; exact h1) h2
    exact ⟨fs, e1, fun k hk => by rw [hfv]; exact e2 k hk⟩
  · rw [hK, hI]; exact h.2.1 (by rw [← hK]; exact h1)
  · rw [hK, hI]; exact h.2.2.1 (by rw [← hK]; exact h1)
  · rw [hK, hF]; exact h.2.2.2.1 (by rw [← hK]; exact h1)
  · rw [hK, hR]; exact h.2.2.2.2 c (by rw [← hK]; exact h1) h2
theorem ce_app {al l : List Nat} {tys ts : List (ClassId × FieldType)} {σ : pT} {I : pI} {F : pF} {q : Nat} {e : va_E} (h : ce al tys σ I F q e) : ce (al ++ l) (tys ++ ts) σ I F q e := by
  have ht : ∀ {x : ClassId × FieldType}, (∃ t0 : Nat, tys[t0]? = some x) → ∃ t0 : Nat, (tys ++ ts)[t0]? = some x := by
    intro x ⟨t0, h0⟩
    refine ⟨t0, ?_⟩
    rw [List.getElem?_append_left (List.getElem?_eq_some_iff.mp h0).1]
    exact h0
  refine ⟨fun c h1 h2 => ?_, fun h1 => ?_, fun h1 => ?_, fun h1 => ?_, fun c h1 h2 => ?_⟩
  · obtain ⟨fs, e1, e2⟩ := h.1 c h1 h2
    exact ⟨fs, e1, fun k hk => by obtain ⟨v', a1, a2⟩ := e2 k hk; exact ⟨v', a1, vr_app a2⟩⟩
  · obtain ⟨cA, f, e1, e2, e3⟩ := h.2.1 h1
    exact ⟨cA, f, e1, ht e2, e3⟩
  · obtain ⟨cA, f, e1, e2, e3⟩ := h.2.2.1 h1
    exact ⟨cA, f, e1, ht e2, e3⟩
  · obtain ⟨cA, f, e1, e2, e3⟩ := h.2.2.2.1 h1
    exact ⟨cA, f, e1, ht e2, e3⟩
  · obtain ⟨cA, f, e1, e2, e3⟩ := h.2.2.2.2 c h1 h2
    exact ⟨cA, f, e1, ht e2, fun k hk => vr_app (e3 k hk)⟩
/-- the heap H of state U holds the pure world: ws its cells behind the script's (b), al all addresses by number -/
def wr (D : va_G) (base b : Nat) (al : List Nat) (σ : pT) (I : pI) (F : pF) (U : State) (H : Heap) : Prop :=
  ∃ (ws : va_W) (tys : List (ClassId × FieldType)), al = b :: ws.map Prod.fst ∧ ws.length = σ.1 ∧ va_P D vwCl ws H ∧ va_K D vwCl tys U ∧ va_D (fun q : Nat => base ≤ q) ws ∧
    (∀ (j a : Nat) (e : va_E), ws[j]? = some (a, e) → ce al tys σ I F (j + 1) e) ∧ (∀ j, (σ.2.1 (j + 1)).1 ≠ 0 → j < ws.length) ∧ (σ.2.1 0).1 = 99 ∧ b < base ∧ base ≤ H.size ∧ va_X b (σ.2.1 0).2 (I 0) U H
theorem wr_moved {D : va_G} {base b : Nat} {al : List Nat} {σ : pT} {I : pI} {F : pF} {u U : State} {H : Heap} (hvm : u.vm.Alike U.vm) (h : wr D base b al σ I F u H) : wr D base b al σ I F U H := by
  obtain ⟨ws, tys, h1, h2, h3, h4, h5, h6, h7, h8, h9, h10, h11⟩ := h
  exact ⟨ws, tys, h1, h2, h3, h4.moved hvm, h5, h6, h7, h8, h9, h10, h11.moved hvm⟩
theorem wr_al {b : Nat} {al : List Nat} {ws : va_W} {j a : Nat} {e : va_E} (h : al = b :: ws.map Prod.fst) (hj : ws[j]? = some (a, e)) : al[j + 1]? = some a := by
  rw [h, List.getElem?_cons_succ, List.getElem?_map, hj]
  rfl
theorem map_fst_set {ws : va_W} {j a : Nat} {e e' : va_E} (hj : ws[j]? = some (a, e)) : (ws.set j (a, e')).map Prod.fst = ws.map Prod.fst := by
  apply List.ext_getElem?
  intro i
  rw [List.getElem?_map, List.getElem?_map]
  by_cases h : j = i
  · subst h
    rw [List.getElem?_set_self (List.getElem?_eq_some_iff.mp hj).1, hj]
    rfl
  · rw [List.getElem?_set_ne h]
/-- where a cell that is not the script's lies -/
theorem wr_cell {D : va_G} {base b : Nat} {al : List Nat} {σ : pT} {I : pI} {F : pF} {U : State} {H : Heap} {ws : va_W} {tys : List (ClassId × FieldType)} {q a : Nat} (h1 : al = b :: ws.map Prod.fst) (h6 : ∀ (j a : Nat) (e : va_E), ws[j]? = some (a, e) → ce al tys σ I F (j + 1) e) (h7 : ∀ j, (σ.2.1 (j + 1)).1 ≠ 0 → j < ws.length) (h8 : (σ.2.1 0).1 = 99) (hk : (σ.2.1 q).1 ≠ 99) (hk0 : (σ.2.1 q).1 ≠ 0) (ha : al[q]? = some a) : ∃ j e, q = j + 1 ∧ ws[j]? = some (a, e) ∧ ce al tys σ I F q e := by
  cases q with
  | zero => exact absurd h8 hk
  | succ j =>
    have hj := h7 j hk0
    obtain ⟨e1, he1⟩ : ∃ e1, ws[j]? = some e1 := ⟨ws[j], List.getElem?_eq_getElem hj⟩
    obtain ⟨a1, e⟩ := e1
    have h2 := wr_al h1 he1
    rw [ha] at h2
    cases h2
    exact ⟨j, e, rfl, he1, h6 j a e he1⟩
/-- a cell of the world was written -/
theorem wr_set {D : va_G} {base b : Nat} {al : List Nat} {σ σ' : pT} {I I' : pI} {F F' : pF} {U : State} {H H1 H0 : Heap} {locs locs1 : List Loc} {ws : va_W} {tys : List (ClassId × FieldType)} {j a : Nat} {e e' : va_E} (h1 : al = b :: ws.map Prod.fst) (h2 : ws.length = σ.1) (h4 : va_K D vwCl tys U)
    (h6 : ∀ (j a : Nat) (e : va_E), ws[j]? = some (a, e) → ce al tys σ I F (j + 1) e) (h7 : ∀ j, (σ.2.1 (j + 1)).1 ≠ 0 → j < ws.length) (h8 : (σ.2.1 0).1 = 99) (h9 : b < base) (h10 : base ≤ H0.size) (h11 : va_X b (σ.2.1 0).2 (I 0) U H)
    (hj : ws[j]? = some (a, e)) (hP : va_P D vwCl (ws.set j (a, e')) H1) (hD : va_D (fun q : Nat => base ≤ q) (ws.set j (a, e'))) (hS0 : va_S (fun q : Nat => base ≤ q) H0 H locs) (hS : va_S (fun q : Nat => base ≤ q) H0 H1 locs1) (e1 : σ'.1 = σ.1) (e2 : σ'.2.1 = σ.2.1) (hR : ∀ q, q ≠ j + 1 → σ'.2.2 q = σ.2.2 q) (hI : ∀ q, q ≠ j + 1 → I' q = I q) (hF : ∀ q, q ≠ j + 1 → F' q = F q) (hc : ce al tys σ' I' F' (j + 1) e') : wr D base b al σ' I' F' U H1 := by
  have hl := (List.getElem?_eq_some_iff.mp hj).1
  refine ⟨ws.set j (a, e'), tys, by rw [map_fst_set hj]; exact h1, by rw [List.length_set, e1]; exact h2, hP, h4, hD, fun i a' x hx => ?_, fun i hi => by rw [List.length_set]; rw [e2] at hi; exact h7 i hi, by rw [e2]; exact h8, h9, Nat.le_trans h10 hS.1, ?_⟩
  · by_cases hij : j = i
    · subst hij
      rw [List.getElem?_set_self hl] at hx
      cases hx
      exact hc
    · rw [List.getElem?_set_ne hij] at hx
      exact ce_congr (by rw [e2]) (hR _ (by omega)) (hI _ (by omega)) (hF _ (by omega)) (h6 i a' x hx)
  · rw [e2, hI 0 (by omega)]
    have hb0 : b < H0.size := Nat.lt_of_lt_of_le h9 h10
    exact h11.kept ((hS.2.1 b hb0 (Nat.not_le.mpr h9)).trans (hS0.2.1 b hb0 (Nat.not_le.mpr h9)).symm)
/-- a cell was made -/
theorem wr_push {D : va_G} {base b : Nat} {al : List Nat} {σ σ' : pT} {I I' : pI} {F F' : pF} {U : State} {H H1 H0 : Heap} {locs : List Loc} {ws : va_W} {tys ts : List (ClassId × FieldType)} {a : Nat} {e : va_E} (h1 : al = b :: ws.map Prod.fst) (h2 : ws.length = σ.1)
    (h6 : ∀ (j a : Nat) (e : va_E), ws[j]? = some (a, e) → ce al tys σ I F (j + 1) e) (h7 : ∀ j, (σ.2.1 (j + 1)).1 ≠ 0 → j < ws.length) (h8 : (σ.2.1 0).1 = 99) (h9 : b < base) (h10 : base ≤ H0.size) (h11 : va_X b (σ.2.1 0).2 (I 0) U H)
    (h4 : va_K D vwCl (tys ++ ts) U) (hP : va_P D vwCl (ws ++ [(a, e)]) H1) (hD : va_D (fun q : Nat => base ≤ q) (ws ++ [(a, e)])) (hS0 : va_S (fun q : Nat => base ≤ q) H0 H locs) (hS : va_S (fun q : Nat => base ≤ q) H0 H1 locs) (e1 : σ'.1 = σ.1 + 1) (hK : ∀ q, q ≠ σ.1 + 1 → σ'.2.1 q = σ.2.1 q) (hR : ∀ q, q ≠ σ.1 + 1 → σ'.2.2 q = σ.2.2 q) (hI : ∀ q, q ≠ σ.1 + 1 → I' q = I q) (hF : ∀ q, q ≠ σ.1 + 1 → F' q = F q) (hc : ce (al ++ [a]) (tys ++ ts) σ' I' F' (σ.1 + 1) e) : wr D base b (al ++ [a]) σ' I' F' U H1 ∧ (al ++ [a])[σ.1 + 1]? = some a := by
  refine ⟨⟨ws ++ [(a, e)], tys ++ ts, by rw [h1, List.map_append]; rfl, by rw [List.length_append, e1, h2]; rfl, hP, h4, hD, fun i a' x hx => ?_, fun i hi => ?_, by rw [hK 0 (by omega)]; exact h8, h9, Nat.le_trans h10 hS.1, ?_⟩, ?_⟩
  · by_cases hi : i < ws.length
    · rw [List.getElem?_append_left hi] at hx
      exact ce_congr (hK _ (by omega)) (hR _ (by omega)) (hI _ (by omega)) (hF _ (by omega)) (ce_app (h6 i a' x hx))
    · rw [List.getElem?_append_right (by omega)] at hx
      have hz : i - ws.length < 1 := (List.getElem?_eq_some_iff.mp hx).1
      have hi0 : i = ws.length := by omega
      subst hi0
      rw [Nat.sub_self] at hx
      cases hx
      rw [h2]
      exact hc
  · rw [List.length_append, List.length_singleton]
    by_cases hi0 : i + 1 = σ.1 + 1
    · omega
    · rw [hK _ hi0] at hi
      have := h7 i hi
      omega
  · rw [hK 0 (by omega), hI 0 (by omega)]
    have hb0 : b < H0.size := Nat.lt_of_lt_of_le h9 h10
    exact h11.kept ((hS.2.1 b hb0 (Nat.not_le.mpr h9)).trans (hS0.2.1 b hb0 (Nat.not_le.mpr h9)).symm)
  · rw [List.getElem?_append_right (by rw [h1]; simp; omega), h1]
    simp [h2]
/-- the words that have a way of their own hold -/
def spW (U : State) : Prop := (∀ q ∈ spN, va_Nw (.methodLinkNest q.1 q.2.1 q.2.2.1 q.2.2.2) U) ∧ ∀ C ∈ spA, va_AO C U
theorem spW_warm {s U : State} (hW : s.WarmedH U.vm) (h : spW s) : spW U := ⟨fun q hq => va_Nw.warmM hW (h.1 q hq), fun C hC => (h.2 C hC).moved hW.alike⟩
theorem spW_vm {u U : State} (hvm : u.vm = U.vm) (h : spW u) : spW U := ⟨fun q hq => va_Nw.same rfl hvm (h.1 q hq), fun C hC => (h.2 C hC).moved (by rw [hvm]; exact Vm.Alike.refl _)⟩
/-! the judgement: from here on, in any machine that holds the pure world, the method comes to the end that Z tells -/
abbrev pZ : Type := va_G → Nat → Nat → List Nat → List Frame → Array Value → State → Room → State → Prop
def cx (cc : ByteArray) (Y : mB) (base : Nat) (p : Program) (R : Room) (s : State) (m : MethodId) (args : Array Value) (meth : Method) (c : Code) : Prop :=
  p.tables.exec = Jvm.exec ∧ c.code = cc ∧ meth.sig.returnType = Y.2.2.1 ∧ (∀ w ∈ wsA, w.before args s = true) ∧ s.vm.findClass Y.1 = some m.cls ∧ meth.locks = false ∧ c.maxLocals = Y.2.1 ∧ R.frames = Y.2.2.2.1 ∧ R.locals = Y.2.2.2.2.1 ∧ base ≤ s.heap.size ∧ spW s ∧ (Y.2.2.2.2.2 = true → meth.name = "<init>")
def PW (cc : ByteArray) (Y : mB) (Z : pZ) (pc : Nat) (ls st : List Value) (σ : pT) (I : pI) (F : pF) (β : Nat × Nat) : Prop :=
  ∀ (p : Program) (l : Launch) (e : Env) (R : Room) (s : State) (m : MethodId) (args : Array Value) (below : List Frame) (meth : Method) (c : Code) (D : va_G) (base b : Nat) (al0 l0 : List Nat) (d0 : Drawn) (H : Heap) (locs : List Loc) (cells slots : Nat) (lsM : Array Slot) (stM : List Value),
    cx cc Y base p R s m args meth c → s.drawn.sameBut d0 lw_cs → lr (al0 ++ l0) Y.2.1 ls lsM → sr (al0 ++ l0) st stM → wr D base b (al0 ++ l0) σ I F s H → va_S (fun q : Nat => base ≤ q) s.heap H locs → cells + β.1 ≤ R.cells → slots + β.2 ≤ R.slots →
      W p l e R (s.setDrawn d0) m args below meth c H locs cells slots (Z D base b al0 below args s R) (F0 m pc lsM stM)
def vro (al : List Nat) (v v' : Option Value) : Prop := match v with
  | some x => ∃ x', v' = some x' ∧ vr al x x'
  | none => v' = none
abbrev pQ : Type := Option Value → pT → pI → pF → Prop
def qcOf (D : va_G) (base b : Nat) (al0 : List Nat) (Post : pQ) : Array Value → State → Outcome → State → Prop := fun _ st o t =>
  (∃ (v v' : Option Value) (l : List Nat) (σ : pT) (I : pI) (F : pF), o = .returned v' ∧ vro (al0 ++ l) v v' ∧ Post v σ I F ∧ wr D base b (al0 ++ l) σ I F t t.heap) ∧ va_F (fun q : Nat => base ≤ q) st t
def fM (Post : pQ) : pZ := fun D base b al0 below args s R => MQD lw_cs below (qcOf D base b al0 Post) args s R.cells R.slots (fun q : Nat => base ≤ q)
abbrev pPc (D : va_G) (base b : Nat) (al : List Nat) (σ : pT) (I : pI) (F : pF) (asM : List Value) : Array Value → State → Prop := va_Pc asM (fun U => base ≤ U.heap.size ∧ spW U ∧ wr D base b al σ I F U U.heap)
abbrev pWs (y : MethodName) (cc : ByteArray) (Y : mB) : List Cond := Cond.code y cc Y.2.1 Y.2.2.1 :: wsA
abbrev pRm (Y : mB) (β : Nat × Nat) : Room := { frames := Y.2.2.2.1, cells := β.1, slots := β.2, locals := Y.2.2.2.2.1 }
/-- a method's contract over the pure world -/
def PM (y : MethodName) (cc : ByteArray) (Y : mB) (β : Nat × Nat) (as : List Value) (σ : pT) (I : pI) (F : pF) (Post : pQ) : Prop :=
  ∀ (l : Launch) (D : va_G) (base b : Nat) (al : List Nat) (asM : List Value), sr al as asM →
    MetD lw_cs l y (pWs y cc Y) (pRm Y β) (pPc D base b al σ I F asM) (qcOf D base b al Post) β.1 β.2 (fun q : Nat => base ≤ q)
theorem PM.imp {y : MethodName} {cc : ByteArray} {Y : mB} {β : Nat × Nat} {as : List Value} {σ : pT} {I : pI} {F : pF} {P P' : pQ} (h : PM y cc Y β as σ I F P) (hp : ∀ v σ' I' F', P v σ' I' F' → P' v σ' I' F') : PM y cc Y β as σ I F P' := by
  intro l D base b al asM hs p e ha hc hk s m args below hf happ hP hK
  obtain ⟨n, o, h1, h2, h3, d, h4, ⟨⟨v, v', l', σ', I', F', q1, q2, q3, q4⟩, h5⟩, h6⟩ := h l D base b al asM hs p e ha hc hk s m args below hf happ hP hK
  exact ⟨n, o, h1, h2, h3, d, h4, ⟨⟨v, v', l', σ', I', F', q1, q2, hp _ _ _ _ q3, q4⟩, h5⟩, h6⟩
theorem wsL_at {w : Cond} (i : Nat) (h : wsA[i]? = some w) : w ∈ wsA := List.mem_of_getElem? h
theorem lv_args_mem : ∀ (vs : List Value) (i : Nat), (∀ v ∈ vs, v.category = 1) → ∀ (k : Nat) (v : Value), vs[k]? = some v → (i + k, v) ∈ lv_args i vs
  | [], i, _, k, v, h => by simp at h
  | u :: vs, i, hc, 0, v, h => by
    simp only [List.getElem?_cons_zero, Option.some.injEq] at h
    subst h
    exact List.mem_cons_self
  | u :: vs, i, hc, k + 1, v, h => by
    rw [List.getElem?_cons_succ] at h
    have h1 : ¬ u.category = 2 := by rw [hc u List.mem_cons_self]; decide
    show (i + (k + 1), v) ∈ (i, u) :: lv_args (if u.category = 2 then i + 2 else i + 1) vs
    rw [if_neg h1]
    have h2 := lv_args_mem vs (i + 1) (fun w hw => hc w (List.mem_cons_of_mem _ hw)) k v h
    rw [show i + (k + 1) = i + 1 + k by omega]
    exact List.mem_cons_of_mem _ h2
theorem lg_sl_len : ∀ (vs : List Value), (∀ v ∈ vs, v.category = 1) → (lg_sl vs).length = vs.length
  | [], _ => rfl
  | u :: vs, hc => by
    have h1 : ¬ u.category = 2 := by rw [hc u List.mem_cons_self]; decide
    have h2 := lg_sl_len vs (fun w hw => hc w (List.mem_cons_of_mem _ hw))
    unfold lg_sl at h2 ⊢
    rw [List.flatMap_cons, if_neg h1, List.length_append, h2]
    simp [Nat.add_comm]
theorem sr_cats {al : List Nat} {as asM : List Value} (h : sr al as asM) (hc : ∀ v ∈ as, v.category = 1) : ∀ v ∈ asM, v.category = 1 := by
  intro v hv
  obtain ⟨k, hk⟩ := List.getElem?_of_mem hv
  have hl := (List.getElem?_eq_some_iff.mp hk).1
  rw [sr_len h] at hl
  obtain ⟨u, hu⟩ : ∃ u, as[k]? = some u := ⟨as[k], List.getElem?_eq_getElem hl⟩
  obtain ⟨w, h1, h2⟩ := sr_get h hu
  rw [hk] at h1
  cases h1
  rw [vr_cat h2]
  exact hc u (List.mem_of_getElem? hu)
theorem lr_entry {al : List Nat} {as asM : List Value} {nL : Nat} (h : sr al as asM) (hc : ∀ v ∈ as, v.category = 1) (hn : as.length ≤ nL) :
    lr al nL (as ++ List.replicate (nL - as.length) pJ) ((lg_sl asM ++ List.replicate (nL - (lg_sl asM).length) Slot.unset).toArray) := by
  have hcM := sr_cats h hc
  have hlen : (lg_sl asM).length = as.length := by rw [lg_sl_len asM hcM, sr_len h]
  have hE := lv_entry asM (n := nL) (by rw [hlen]; exact hn)
  refine ⟨hE.1, hE.2.1, by simp; omega, fun k v hk => ?_⟩
  by_cases hl : k < as.length
  · rw [List.getElem?_append_left hl] at hk
    obtain ⟨v', h1, h2⟩ := sr_get h hk
    refine Or.inr ⟨v', h2, ?_⟩
    have h3 := hE.2.2 _ (lv_args_mem asM 0 hcM k v' h1)
    rwa [Nat.zero_add] at h3
  · rw [List.getElem?_append_right (by omega), List.getElem?_replicate] at hk
    split at hk
    · cases hk; exact Or.inl rfl
    · cases hk
theorem PM.of {y : MethodName} {cc : ByteArray} {Y : mB} {β : Nat × Nat} {as : List Value} {σ : pT} {I : pI} {F : pF} {Post : pQ} (hy : plainName y.cls = true ∧ y.cls = Y.1 ∧ (Y.2.2.2.2.2 = true → y.name = "<init>")) (hcat : ∀ v ∈ as, v.category = 1) (hn : as.length ≤ Y.2.1)
    (k : PW cc Y (fM Post) 0 (as ++ List.replicate (Y.2.1 - as.length) pJ) [] σ I F β) : PM y cc Y β as σ I F Post := by
  intro l D base b al asM hs
  refine MetD.ofW (cc := cc) (maxL := Y.2.1) (ret := Y.2.2.1) hy.1 rfl ?_
  intro p e s m args below meth c s₁ B hml hv hd0
  obtain ⟨rfl, hsz, hsp, hw⟩ := hv
  have hts0 := atoms_spec (ws := pWs y cc Y) B.pre
  have hts : ∀ w ∈ wsA, w.before asM.toArray s = true := fun w h => hts0 w (List.mem_cons_of_mem _ h)
  have hown : s.vm.findClass Y.1 = some m.cls := by rw [← hy.2.1]; exact findClass_of_methodNamed B.named
  rw [lg_entry_eq]
  refine k p l e _ s m _ below meth c D base b al [] s.drawn s.heap [] 0 0 _ [] ⟨B.exec, B.bytes, B.returns, hts, hown, B.notSynchronized, hml, rfl, rfl, hsz, hsp, fun h => ?_⟩ (Drawn.sameBut.refl _ _) (by rw [List.append_nil]; exact lr_entry hs hcat hn) rfl (by rw [List.append_nil]; exact hw) va_S.rf (by simp [headSpec]) (by simp [headSpec])
  exact (name_of_methodNamed B.named B.method).1.trans (hy.2.2 h)
theorem pw_blind {D : va_G} {base b : Nat} {al : List Nat} {σ : pT} {I : pI} {F : pF} {asM : List Value} : FrameBlind (pPc D base b al σ I F asM) := by
  intro a U g mk h
  obtain ⟨h1, h2, hsp, h3⟩ := h
  exact ⟨h1, h2, spW_vm (u := U) (U := U.calling g mk a) rfl hsp, wr_moved (u := U) (U := U.calling g mk a) (Vm.Alike.refl U.vm) h3⟩
/-- what a call comes back with -/
theorem pw_back {p : Program} {l : Launch} {e : Env} {R : Room} {s : State} {m : MethodId} {args : Array Value} {below : List Frame} {meth : Method} {c : Code} {H H0 : Heap} {locs : List Loc} {cells slots mc ms : Nat} {Q : State → Prop} {pc : Nat} {ls : Array Slot} {rest st0 : List Value} {Qa : State → Outcome → State → Prop} {A : Nat → Prop}
    (hr : va_RunD lw_cs p l e R s m args below meth c H locs cells slots mc ms (F0 m pc ls st0) rest Qa A) (hS : va_S A H0 H locs) (hQ : ∀ st o t, Qa st o t → va_F A st t)
    (kk : ∀ (v : Option Value) (st₀ t : State) (H1 : Heap) (locs1 : List Loc) (d' : Drawn), st₀.heap = H → t.heap = H1 → s.vm.Alike t.vm → Qa st₀ (.returned v) t → va_S A H0 H1 locs1 → s.drawn.sameBut d' lw_cs → W p l e R (s.setDrawn d') m args below meth c H1 locs1 (cells + mc) (slots + ms) Q (F0 m (pc + 3) ls (v.toList ++ rest))) : W p l e R s m args below meth c H locs cells slots Q (F0 m pc ls st0) := by
  intro T hT X
  obtain ⟨v, st₀, t, T', L, d', hd', h0, X', hL, e1, e2, hq, st⟩ := hr T hT X
  obtain ⟨hz, hk⟩ := hQ _ _ _ hq
  rw [h0] at hz hk
  obtain ⟨t2, a1, b1⟩ := kk v st₀ t T'.heap (locs ++ L) d' h0 e1.symm (by rw [← e2]; exact X'.warmed.alike) hq
    ⟨Nat.le_trans hS.1 (by rw [e1]; exact hz), fun q h1 h2 => by rw [e1, hk q (Nat.lt_of_lt_of_le h1 hS.1) h2]; exact hS.2.1 q h1 h2, fun q hq => by
      rcases List.mem_append.mp hq with h | h
      · exact hS.2.2 q h
      · exact hL q h⟩ hd' T' rfl X'
  exact ⟨t2, st t2 a1, b1⟩
theorem qc_F {D : va_G} {base b : Nat} {al0 : List Nat} {Post : pQ} {a : Array Value} (st : State) (o : Outcome) (t : State) (h : qcOf D base b al0 Post a st o t) : va_F (fun q : Nat => base ≤ q) st t := h.2
theorem vro_sr {al : List Nat} {v v' : Option Value} {st stM : List Value} (h : vro al v v') (hs : sr al st stM) : sr al (v.toList ++ st) (v'.toList ++ stM) := by
  cases v with
  | none => rw [show v' = none from h]; exact hs
  | some x =>
    obtain ⟨x', rfl, h1⟩ := h
    exact ⟨x', stM, rfl, h1, hs⟩
/-- a callee as the words tell it: name, code, what it returns; its parameters -/
def mOK (y : MethodName) (cc : ByteArray) (Y : mB) (n : Nat) : Prop :=
  Cond.code y cc Y.2.1 Y.2.2.1 ∈ wsA ∧ Cond.initialized y.cls ∈ wsA ∧ y.cls ≠ "java/lang/invoke/MethodHandle" ∧ y.cls ≠ "java/lang/invoke/VarHandle" ∧ (parseMethodDescriptor y.desc).map (fun d => d.parameters.length) = some n
def mOKV (y : MethodName) (cc : ByteArray) (Y : mB) (n ci : Nat) : Prop :=
  mOK y cc Y n ∧ Cond.instanceMethod y ∈ wsA ∧ Cond.selects y.cls y y ∈ wsA ∧ ci < 9 ∧ (∃ q, vwCl[ci]? = some q ∧ q.1 = y.cls)
def mOKS (y : MethodName) (cc : ByteArray) (Y : mB) (n : Nat) : Prop := mOK y cc Y n ∧ Cond.static y ∈ wsA
def mOKI (y : MethodName) (cc : ByteArray) (Y : mB) (n : Nat) : Prop := mOK y cc Y n ∧ Cond.instanceMethod y ∈ wsA ∧ y.name = "<init>" ∧ Y.2.2.1 = none
section PC
variable {cc : ByteArray} {Y : mB} {Z : pZ} {pc : Nat} {ls st : List Value} {σ : pT} {I : pI} {F : pF} {β : Nat × Nat}
theorem pw_callV {y : MethodName} {cy : ByteArray} {Yy : mB} {βy : Nat × Nat} {n ci idx q : Nat} {as : List Value} {Post : pQ} {stk : List Value} (hdg : decode cc pc = .ok (.invokevirtual idx, 3)) (hy : mOKV y cy Yy n ci) (hl : Cond.methodLink Y.1 idx y ∈ wsA) (hM : PM y cy Yy βy (.ref q :: as) σ I F Post)
    (hq : (σ.2.1 q).1 = ci + 1) (hn : as.length = n) (hst : stk = as.reverse ++ .ref q :: st) (hcat : (st.map fun v => v.category).sum ≤ 8) (hR : Yy.2.2.2.1 + 1 ≤ Y.2.2.2.1 ∧ 8 + (Yy.2.1 + 11) + Yy.2.2.2.2.1 ≤ Y.2.2.2.2.1) (hβ : βy.1 ≤ β.1 ∧ βy.2 ≤ β.2)
    (k : ∀ v σ' I' F', Post v σ' I' F' → PW cc Y Z (pc + 3) ls (v.toList ++ st) σ' I' F' (β.1 - βy.1, β.2 - βy.2)) : PW cc Y Z pc ls stk σ I F β := by
  subst hst
  intro p l e R s m args below meth c D base b al0 l0 d0 H locs cells slots lsM stM hc hd hls hs hw hS hk1 hk2
  obtain ⟨hx, hb, hr, hts, hown, hlk, hml, hrf, hrl, hbs, hsp, -⟩ := id hc
  obtain ⟨aM, t1, rfl, ha, a', tM, rfl, ⟨a, haq, rfl⟩, hst⟩ : ∃ aM t1, stM = aM ++ t1 ∧ sr (al0 ++ l0) as.reverse aM ∧ sr (al0 ++ l0) (.ref q :: st) t1 := sr_split hs
  obtain ⟨⟨hcode, hini, hmh, hvh, hpn⟩, hinst, hsel, hci, ⟨vq, hvq, hvn⟩⟩ := hy
  obtain ⟨ws, tys, g1, g2, g3, g4, g5, g6, g7, g8, g9, g10, g11⟩ := id hw
  obtain ⟨j, en, hj, hjw, hce⟩ := wr_cell (D := D) (base := base) (b := b) (U := s) (H := H) g1 g6 g7 g8 (by rw [hq]; omega) (by rw [hq]; omega) haq
  obtain ⟨fs, rfl, -⟩ := hce.1 ci hq hci
  have hasr := sr_rev ha
  rw [List.reverse_reverse] at hasr
  have hts' := dr_words hts d0
  have hG : GoodIn wsA (pWs y cy Yy) := fun w h => by
    rcases List.mem_cons.mp h with rfl | h
    · exact ⟨hcode, wsA_gd _ hcode⟩
    · exact ⟨h, wsA_gd _ h⟩
  have hCB : CallB R (s.setDrawn d0) args Y.1 idx y cy Yy.2.1 Yy.2.2.1 (pWs y cy Yy) (pRm Yy βy) βy.1 βy.2 n := callB_of n hts' hG rfl rfl rfl (hts' _ hini) (hts' _ hl) ⟨hmh, hvh, hpn⟩ ⟨by rw [hrf]; exact hR.1, by rw [hrl]; exact hR.2⟩
  refine pw_back (va_runV_D (cs := lw_cs) (As := aM.reverse) (rest := tM) (C := y.cls) ⟨hx, hb, hml, hown, hts'⟩ (hM l D base b (al0 ++ l0) (.ref a :: aM.reverse) ⟨_, _, rfl, ⟨a, haq, rfl⟩, hasr⟩) ⟨hCB, hts' _ hinst, hts' _ hsel⟩ ⟨pw_blind, by rw [← hvn]; exact va_recv g4 g3 hvq hjw, fun U hU hW => ⟨rfl, by rw [hU]; exact g10, spW_warm hW hsp, by rw [hU]; exact wr_moved hW.alike hw⟩⟩ rfl (by rw [List.length_reverse, sr_len ha, List.length_reverse]; exact hn) hls.1 (by rw [List.reverse_reverse]) (lv_room (by rw [sr_cat hst]; exact hcat)) hdg ⟨by omega, by omega⟩) hS qc_F ?_
  intro v st₀ t H1 locs1 d' h0 ht hvm ⟨⟨vp, v', l', σ', I', F', e1, e2, e3, e4⟩, hF⟩ hS1 hd1
  cases e1
  rw [List.append_assoc] at e2 e4
  have := k vp σ' I' F' e3 p l e R s m args below meth c D base b al0 (l0 ++ l') d' H1 locs1 (cells + βy.1) (slots + βy.2) lsM (v.toList ++ tM) hc (hd.trans hd1) (by rw [← List.append_assoc]; exact lr_app hls) (vro_sr e2 (by rw [← List.append_assoc]; exact sr_app hst)) (by rw [ht] at e4; exact wr_moved hvm.symm e4) hS1 (by show cells + βy.1 + (β.1 - βy.1) ≤ _; omega) (by show slots + βy.2 + (β.2 - βy.2) ≤ _; omega)
  exact this
theorem pw_callS {y : MethodName} {cy : ByteArray} {Yy : mB} {βy : Nat × Nat} {n idx : Nat} {as : List Value} {Post : pQ} {stk : List Value} (hdg : decode cc pc = .ok (.invokestatic idx, 3)) (hy : mOKS y cy Yy n) (hl : Cond.methodLink Y.1 idx y ∈ wsA) (hM : PM y cy Yy βy as σ I F Post)
    (hn : as.length = n) (hst : stk = as.reverse ++ st) (hcat : (st.map fun v => v.category).sum ≤ 8) (hR : Yy.2.2.2.1 + 1 ≤ Y.2.2.2.1 ∧ 8 + (Yy.2.1 + 11) + Yy.2.2.2.2.1 ≤ Y.2.2.2.2.1) (hβ : βy.1 ≤ β.1 ∧ βy.2 ≤ β.2)
    (k : ∀ v σ' I' F', Post v σ' I' F' → PW cc Y Z (pc + 3) ls (v.toList ++ st) σ' I' F' (β.1 - βy.1, β.2 - βy.2)) : PW cc Y Z pc ls stk σ I F β := by
  subst hst
  intro p l e R s m args below meth c D base b al0 l0 d0 H locs cells slots lsM stM hc hd hls hs hw hS hk1 hk2
  obtain ⟨hx, hb, hr, hts, hown, hlk, hml, hrf, hrl, hbs, hsp, -⟩ := id hc
  obtain ⟨aM, tM, rfl, ha, hst⟩ : ∃ aM t1, stM = aM ++ t1 ∧ sr (al0 ++ l0) as.reverse aM ∧ sr (al0 ++ l0) st t1 := sr_split hs
  obtain ⟨⟨hcode, hini, hmh, hvh, hpn⟩, hstat⟩ := hy
  obtain ⟨ws, tys, g1, g2, g3, g4, g5, g6, g7, g8, g9, g10, g11⟩ := id hw
  have hasr := sr_rev ha
  rw [List.reverse_reverse] at hasr
  have hts' := dr_words hts d0
  have hG : GoodIn wsA (pWs y cy Yy) := fun w h => by
    rcases List.mem_cons.mp h with rfl | h
    · exact ⟨hcode, wsA_gd _ hcode⟩
    · exact ⟨h, wsA_gd _ h⟩
  have hCB : CallB R (s.setDrawn d0) args Y.1 idx y cy Yy.2.1 Yy.2.2.1 (pWs y cy Yy) (pRm Yy βy) βy.1 βy.2 n := callB_of n hts' hG rfl rfl rfl (hts' _ hini) (hts' _ hl) ⟨hmh, hvh, hpn⟩ ⟨by rw [hrf]; exact hR.1, by rw [hrl]; exact hR.2⟩
  refine pw_back (va_runS_D (cs := lw_cs) (As := aM.reverse) (rest := tM) ⟨hx, hb, hml, hown, hts'⟩ (hM l D base b (al0 ++ l0) aM.reverse hasr) ⟨hCB, hts' _ hstat⟩ ⟨pw_blind, fun U hU hW => ⟨rfl, by rw [hU]; exact g10, spW_warm hW hsp, by rw [hU]; exact wr_moved hW.alike hw⟩⟩ rfl (by rw [List.length_reverse, sr_len ha, List.length_reverse]; exact hn) hls.1 (by rw [List.reverse_reverse]) (lv_room (by rw [sr_cat hst]; exact hcat)) hdg ⟨by omega, by omega⟩) hS qc_F ?_
  intro v st₀ t H1 locs1 d' h0 ht hvm ⟨⟨vp, v', l', σ', I', F', e1, e2, e3, e4⟩, hF⟩ hS1 hd1
  cases e1
  rw [List.append_assoc] at e2 e4
  have := k vp σ' I' F' e3 p l e R s m args below meth c D base b al0 (l0 ++ l') d' H1 locs1 (cells + βy.1) (slots + βy.2) lsM (v.toList ++ tM) hc (hd.trans hd1) (by rw [← List.append_assoc]; exact lr_app hls) (vro_sr e2 (by rw [← List.append_assoc]; exact sr_app hst)) (by rw [ht] at e4; exact wr_moved hvm.symm e4) hS1 (by show cells + βy.1 + (β.1 - βy.1) ≤ _; omega) (by show slots + βy.2 + (β.2 - βy.2) ≤ _; omega)
  exact this
theorem pw_callI {y : MethodName} {cy : ByteArray} {Yy : mB} {βy : Nat × Nat} {n idx q : Nat} {as : List Value} {Post : pQ} {stk : List Value} (hdg : decode cc pc = .ok (.invokespecial idx, 3)) (hy : mOKI y cy Yy n) (hl : Cond.methodLink Y.1 idx y ∈ wsA) (hM : PM y cy Yy βy (.ref q :: as) σ I F Post)
    (hn : as.length = n) (hst : stk = as.reverse ++ .ref q :: st) (hcat : (st.map fun v => v.category).sum ≤ 8) (hR : Yy.2.2.2.1 + 1 ≤ Y.2.2.2.1 ∧ 8 + (Yy.2.1 + 11) + Yy.2.2.2.2.1 ≤ Y.2.2.2.2.1) (hβ : βy.1 ≤ β.1 ∧ βy.2 ≤ β.2)
    (k : ∀ v σ' I' F', Post v σ' I' F' → PW cc Y Z (pc + 3) ls (v.toList ++ st) σ' I' F' (β.1 - βy.1, β.2 - βy.2)) : PW cc Y Z pc ls stk σ I F β := by
  subst hst
  intro p l e R s m args below meth c D base b al0 l0 d0 H locs cells slots lsM stM hc hd hls hs hw hS hk1 hk2
  obtain ⟨hx, hb, hr, hts, hown, hlk, hml, hrf, hrl, hbs, hsp, -⟩ := id hc
  obtain ⟨aM, t1, rfl, ha, a', tM, rfl, ⟨a, haq, rfl⟩, hst⟩ : ∃ aM t1, stM = aM ++ t1 ∧ sr (al0 ++ l0) as.reverse aM ∧ sr (al0 ++ l0) (.ref q :: st) t1 := sr_split hs
  obtain ⟨⟨hcode, hini, hmh, hvh, hpn⟩, hinst, hnm, hret⟩ := hy
  obtain ⟨ws, tys, g1, g2, g3, g4, g5, g6, g7, g8, g9, g10, g11⟩ := id hw
  have hasr := sr_rev ha
  rw [List.reverse_reverse] at hasr
  have hts' := dr_words hts d0
  have hG : GoodIn wsA (pWs y cy Yy) := fun w h => by
    rcases List.mem_cons.mp h with rfl | h
    · exact ⟨hcode, wsA_gd _ hcode⟩
    · exact ⟨h, wsA_gd _ h⟩
  have hCB : CallB R (s.setDrawn d0) args Y.1 idx y cy Yy.2.1 none (pWs y cy Yy) (pRm Yy βy) βy.1 βy.2 n := callB_of n hts' hG (by show Cond.code y cy Yy.2.1 Yy.2.2.1 :: wsA = _; rw [hret]) rfl rfl (hts' _ hini) (hts' _ hl) ⟨hmh, hvh, hpn⟩ ⟨by rw [hrf]; exact hR.1, by rw [hrl]; exact hR.2⟩
  refine pw_back (va_runI_D (cs := lw_cs) (As := aM.reverse) (rest := tM) ⟨hx, hb, hml, hown, hts'⟩ (hM l D base b (al0 ++ l0) (.ref a :: aM.reverse) ⟨_, _, rfl, ⟨a, haq, rfl⟩, hasr⟩) ⟨hCB, hnm, hts' _ hinst⟩ ⟨pw_blind, fun U hU hW => ⟨rfl, by rw [hU]; exact g10, spW_warm hW hsp, by rw [hU]; exact wr_moved hW.alike hw⟩⟩ rfl (by rw [List.length_reverse, sr_len ha, List.length_reverse]; exact hn) hls.1 (by rw [List.reverse_reverse]) (lv_room (by rw [sr_cat hst]; exact hcat)) hdg ⟨by omega, by omega⟩) hS qc_F ?_
  intro v st₀ t H1 locs1 d' h0 ht hvm ⟨⟨vp, v', l', σ', I', F', e1, e2, e3, e4⟩, hF⟩ hS1 hd1
  cases e1
  rw [List.append_assoc] at e2 e4
  have := k vp σ' I' F' e3 p l e R s m args below meth c D base b al0 (l0 ++ l') d' H1 locs1 (cells + βy.1) (slots + βy.2) lsM (v.toList ++ tM) hc (hd.trans hd1) (by rw [← List.append_assoc]; exact lr_app hls) (vro_sr e2 (by rw [← List.append_assoc]; exact sr_app hst)) (by rw [ht] at e4; exact wr_moved hvm.symm e4) hS1 (by show cells + βy.1 + (β.1 - βy.1) ≤ _; omega) (by show slots + βy.2 + (β.2 - βy.2) ≤ _; omega)
  exact this
theorem pw_callSN {y : MethodName} {cy : ByteArray} {Yy : mB} {βy : Nat × Nat} {n idx : Nat} {as : List Value} {Post : pQ} {stk : List Value} (hdg : decode cc pc = .ok (.invokestatic idx, 3)) (hy : mOKS y cy Yy n) {host : String} (hl : (Y.1, idx, y, host) ∈ spN) (hM : PM y cy Yy βy as σ I F Post)
    (hn : as.length = n) (hst : stk = as.reverse ++ st) (hcat : (st.map fun v => v.category).sum ≤ 8) (hR : Yy.2.2.2.1 + 1 ≤ Y.2.2.2.1 ∧ 8 + (Yy.2.1 + 11) + Yy.2.2.2.2.1 ≤ Y.2.2.2.2.1) (hβ : βy.1 ≤ β.1 ∧ βy.2 ≤ β.2)
    (k : ∀ v σ' I' F', Post v σ' I' F' → PW cc Y Z (pc + 3) ls (v.toList ++ st) σ' I' F' (β.1 - βy.1, β.2 - βy.2)) : PW cc Y Z pc ls stk σ I F β := by
  subst hst
  intro p l e R s m args below meth c D base b al0 l0 d0 H locs cells slots lsM stM hc hd hls hs hw hS hk1 hk2
  obtain ⟨hx, hb, hr, hts, hown, hlk, hml, hrf, hrl, hbs, hsp, -⟩ := id hc
  obtain ⟨aM, tM, rfl, ha, hst⟩ : ∃ aM t1, stM = aM ++ t1 ∧ sr (al0 ++ l0) as.reverse aM ∧ sr (al0 ++ l0) st t1 := sr_split hs
  obtain ⟨⟨hcode, hini, hmh, hvh, hpn⟩, hstat⟩ := hy
  obtain ⟨ws, tys, g1, g2, g3, g4, g5, g6, g7, g8, g9, g10, g11⟩ := id hw
  have hasr := sr_rev ha
  rw [List.reverse_reverse] at hasr
  have hts' := dr_words hts d0
  have hG : GoodIn wsA (pWs y cy Yy) := fun w h => by
    rcases List.mem_cons.mp h with rfl | h
    · exact ⟨hcode, wsA_gd _ hcode⟩
    · exact ⟨h, wsA_gd _ h⟩
  have hCB : va_CN R (s.setDrawn d0) args Y.1 idx y host cy Yy.2.1 Yy.2.2.1 (pWs y cy Yy) (pRm Yy βy) βy.1 βy.2 n := va_cnB n hts' hG rfl rfl rfl (spW_vm (u := s) (U := s.setDrawn d0) rfl hsp |>.1 _ hl) (hts' _ hini) ⟨hmh, hvh, hpn⟩ ⟨by rw [hrf]; exact hR.1, by rw [hrl]; exact hR.2⟩
  refine pw_back (va_runSN_D (cs := lw_cs) (As := aM.reverse) (rest := tM) ⟨hx, hb, hml, hown, hts'⟩ (hM l D base b (al0 ++ l0) aM.reverse hasr) ⟨hCB, hts' _ hstat, trivial⟩ ⟨pw_blind, fun U hU hW => ⟨rfl, by rw [hU]; exact g10, spW_warm hW hsp, by rw [hU]; exact wr_moved hW.alike hw⟩⟩ rfl (by rw [List.length_reverse, sr_len ha, List.length_reverse]; exact hn) hls.1 (by rw [List.reverse_reverse]) (lv_room (by rw [sr_cat hst]; exact hcat)) hdg ⟨by omega, by omega⟩) hS qc_F ?_
  intro v st₀ t H1 locs1 d' h0 ht hvm ⟨⟨vp, v', l', σ', I', F', e1, e2, e3, e4⟩, hF⟩ hS1 hd1
  cases e1
  rw [List.append_assoc] at e2 e4
  have := k vp σ' I' F' e3 p l e R s m args below meth c D base b al0 (l0 ++ l') d' H1 locs1 (cells + βy.1) (slots + βy.2) lsM (v.toList ++ tM) hc (hd.trans hd1) (by rw [← List.append_assoc]; exact lr_app hls) (vro_sr e2 (by rw [← List.append_assoc]; exact sr_app hst)) (by rw [ht] at e4; exact wr_moved hvm.symm e4) hS1 (by show cells + βy.1 + (β.1 - βy.1) ≤ _; omega) (by show slots + βy.2 + (β.2 - βy.2) ≤ _; omega)
  exact this
theorem pw_callIN {y : MethodName} {cy : ByteArray} {Yy : mB} {βy : Nat × Nat} {n idx q : Nat} {as : List Value} {Post : pQ} {stk : List Value} (hdg : decode cc pc = .ok (.invokespecial idx, 3)) (hy : mOKI y cy Yy n) {host : String} (hl : (Y.1, idx, y, host) ∈ spN) (hM : PM y cy Yy βy (.ref q :: as) σ I F Post)
    (hn : as.length = n) (hst : stk = as.reverse ++ .ref q :: st) (hcat : (st.map fun v => v.category).sum ≤ 8) (hR : Yy.2.2.2.1 + 1 ≤ Y.2.2.2.1 ∧ 8 + (Yy.2.1 + 11) + Yy.2.2.2.2.1 ≤ Y.2.2.2.2.1) (hβ : βy.1 ≤ β.1 ∧ βy.2 ≤ β.2)
    (k : ∀ v σ' I' F', Post v σ' I' F' → PW cc Y Z (pc + 3) ls (v.toList ++ st) σ' I' F' (β.1 - βy.1, β.2 - βy.2)) : PW cc Y Z pc ls stk σ I F β := by
  subst hst
  intro p l e R s m args below meth c D base b al0 l0 d0 H locs cells slots lsM stM hc hd hls hs hw hS hk1 hk2
  obtain ⟨hx, hb, hr, hts, hown, hlk, hml, hrf, hrl, hbs, hsp, -⟩ := id hc
  obtain ⟨aM, t1, rfl, ha, a', tM, rfl, ⟨a, haq, rfl⟩, hst⟩ : ∃ aM t1, stM = aM ++ t1 ∧ sr (al0 ++ l0) as.reverse aM ∧ sr (al0 ++ l0) (.ref q :: st) t1 := sr_split hs
  obtain ⟨⟨hcode, hini, hmh, hvh, hpn⟩, hinst, hnm, hret⟩ := hy
  obtain ⟨ws, tys, g1, g2, g3, g4, g5, g6, g7, g8, g9, g10, g11⟩ := id hw
  have hasr := sr_rev ha
  rw [List.reverse_reverse] at hasr
  have hts' := dr_words hts d0
  have hG : GoodIn wsA (pWs y cy Yy) := fun w h => by
    rcases List.mem_cons.mp h with rfl | h
    · exact ⟨hcode, wsA_gd _ hcode⟩
    · exact ⟨h, wsA_gd _ h⟩
  have hCB : va_CN R (s.setDrawn d0) args Y.1 idx y host cy Yy.2.1 none (pWs y cy Yy) (pRm Yy βy) βy.1 βy.2 n := va_cnB n hts' hG (by show Cond.code y cy Yy.2.1 Yy.2.2.1 :: wsA = _; rw [hret]) rfl rfl (spW_vm (u := s) (U := s.setDrawn d0) rfl hsp |>.1 _ hl) (hts' _ hini) ⟨hmh, hvh, hpn⟩ ⟨by rw [hrf]; exact hR.1, by rw [hrl]; exact hR.2⟩
  refine pw_back (va_runIN_D (cs := lw_cs) (As := aM.reverse) (rest := tM) ⟨hx, hb, hml, hown, hts'⟩ (hM l D base b (al0 ++ l0) (.ref a :: aM.reverse) ⟨_, _, rfl, ⟨a, haq, rfl⟩, hasr⟩) ⟨hCB, hnm, hts' _ hinst⟩ ⟨pw_blind, fun U hU hW => ⟨rfl, by rw [hU]; exact g10, spW_warm hW hsp, by rw [hU]; exact wr_moved hW.alike hw⟩⟩ rfl (by rw [List.length_reverse, sr_len ha, List.length_reverse]; exact hn) hls.1 (by rw [List.reverse_reverse]) (lv_room (by rw [sr_cat hst]; exact hcat)) hdg ⟨by omega, by omega⟩) hS qc_F ?_
  intro v st₀ t H1 locs1 d' h0 ht hvm ⟨⟨vp, v', l', σ', I', F', e1, e2, e3, e4⟩, hF⟩ hS1 hd1
  cases e1
  rw [List.append_assoc] at e2 e4
  have := k vp σ' I' F' e3 p l e R s m args below meth c D base b al0 (l0 ++ l') d' H1 locs1 (cells + βy.1) (slots + βy.2) lsM (v.toList ++ tM) hc (hd.trans hd1) (by rw [← List.append_assoc]; exact lr_app hls) (vro_sr e2 (by rw [← List.append_assoc]; exact sr_app hst)) (by rw [ht] at e4; exact wr_moved hvm.symm e4) hS1 (by show cells + βy.1 + (β.1 - βy.1) ≤ _; omega) (by show slots + βy.2 + (β.2 - βy.2) ≤ _; omega)
  exact this
theorem pw_objInit {idx q : Nat} (hdg : decode cc pc = .ok (.invokespecial idx, 3)) (hl : Cond.methodLink Y.1 idx objectInit ∈ wsA) (hi : Cond.instanceMethod objectInit ∈ wsA) (ho : Cond.code objectInit ⟨#[0xb1]⟩ 1 none ∈ wsA) (hR : 1 ≤ Y.2.2.2.1 ∧ 12 ≤ Y.2.2.2.2.1) (k : PW cc Y Z (pc + 3) ls [] σ I F β) : PW cc Y Z pc ls [.ref q] σ I F β := by
  intro p l e R s m args below meth c D base b al0 l0 d0 H locs cells slots lsM stM hc hd hls hs hw hS hk1 hk2
  obtain ⟨hx, hb, hr, hts, hown, hlk, hml, hrf, hrl, hbs, hsp, -⟩ := id hc
  obtain ⟨a', tM, rfl, ⟨a, haq, rfl⟩, hst⟩ := hs
  rw [show tM = [] from hst]
  have hts' := dr_words hts d0
  have h0 : (F0 m pc lsM [Value.ref a]).monitorRoom = 0 := rfl
  have hR2 : 2 * (F0 m pc lsM [Value.ref a]).monitorRoom + (([] : List Value).map fun v => v.category).sum + 12 ≤ R.locals := by
    rw [h0, hrl, List.map_nil, List.sum_nil]
    have := hR.2
    omega
  have hR1 : 1 ≤ R.frames := by
    rw [hrf]
    exact hR.1
  have hsz : (F0 m pc lsM [Value.ref a]).locals.size = c.maxLocals := by
    rw [hml]
    exact hls.1
  refine W.objInit (s := s.setDrawn d0) (rest := []) hx hb hown (hts' _ hl) (hts' _ hi) (hts' _ ho) rfl hsz rfl hdg hR1 hR2 ?_
  refine W.eq (g2 := F0 m (pc + 3) lsM []) rfl ?_
  exact k p l e R s m args below meth c D base b al0 l0 d0 H locs cells slots lsM [] hc hd hls rfl hw hS hk1 hk2
/-! the ends -/
theorem pw_zret {Post : pQ} {x : Int32} {ty : FieldType} (hdg : decode cc pc = .ok (.ireturn, 1)) (hr : Y.2.2.1 = some ty) (hn : narrow ty (.int x) = .int x) (h : Post (some (.int x)) σ I F) : PW cc Y (fM Post) pc ls [.int x] σ I F β := by
  intro p l e R s m args below meth c D base b al0 l0 d0 H locs cells slots lsM stM hc hd hls hs hw hS hk1 hk2
  obtain ⟨hx, hb, hr0, hts, hown, hlk, hml, hrf, hrl, hbs, hsp, -⟩ := id hc
  obtain ⟨v', tM, rfl, rfl, hst⟩ := hs
  rw [show tM = [] from hst]
  refine W.widen (k := R.cells) (n := R.slots) (by omega) (by omega) ?_
  refine W.endD hd ?_
  exact W.zret hx hb (hr0.trans hr) hn (fun t ht hW => ⟨⟨some (.int x), some (.int x), l0, σ, I, F, rfl, ⟨_, rfl, rfl⟩, h, by rw [ht]; exact wr_moved hW.alike hw⟩, hS.F ht⟩) hS.2.2 hdg
theorem pw_iret {Post : pQ} {x : Int32} (hdg : decode cc pc = .ok (.ireturn, 1)) (hr : Y.2.2.1 = some .int) (h : Post (some (.int x)) σ I F) : PW cc Y (fM Post) pc ls [.int x] σ I F β := pw_zret hdg hr rfl h
theorem pw_fret {Post : pQ} {x : UInt32} (hdg : decode cc pc = .ok (.freturn, 1)) (hr : Y.2.2.1 = some .float) (h : Post (some (.float x)) σ I F) : PW cc Y (fM Post) pc ls [.float x] σ I F β := by
  intro p l e R s m args below meth c D base b al0 l0 d0 H locs cells slots lsM stM hc hd hls hs hw hS hk1 hk2
  obtain ⟨hx, hb, hr0, hts, hown, hlk, hml, hrf, hrl, hbs, hsp, -⟩ := id hc
  obtain ⟨v', tM, rfl, ⟨y, rfl, hy⟩, hst⟩ := hs
  rw [show tM = [] from hst]
  refine W.widen (k := R.cells) (n := R.slots) (by omega) (by omega) ?_
  refine W.endD hd ?_
  exact W.fret hx hb (hr0.trans hr) (fun t ht hW => ⟨⟨some (.float x), some (.float y), l0, σ, I, F, rfl, ⟨_, rfl, ⟨y, rfl, hy⟩⟩, h, by rw [ht]; exact wr_moved hW.alike hw⟩, hS.F ht⟩) hS.2.2 hdg hlk
theorem pw_vret {Post : pQ} (hdg : decode cc pc = .ok (.return_, 1)) (hr : Y.2.2.1 = none) (h : Post none σ I F) : PW cc Y (fM Post) pc ls [] σ I F β := by
  intro p l e R s m args below meth c D base b al0 l0 d0 H locs cells slots lsM stM hc hd hls hs hw hS hk1 hk2
  obtain ⟨hx, hb, hr0, hts, hown, hlk, hml, hrf, hrl, hbs, hsp, -⟩ := id hc
  rw [show stM = [] from hs]
  refine W.widen (k := R.cells) (n := R.slots) (by omega) (by omega) ?_
  refine W.endD hd ?_
  exact W.vret hx hb (hr0.trans hr) (fun t ht hW => ⟨⟨none, none, l0, σ, I, F, rfl, rfl, h, by rw [ht]; exact wr_moved hW.alike hw⟩, hS.F ht⟩) hS.2.2 hdg
end PC
end
section
/-! helpers -/
def up2 {α : Type} (f : Nat → Nat → α) (q k : Nat) (x : α) : Nat → Nat → α := fun i j => if i = q ∧ j = k then x else f i j
theorem up2_row {α : Type} {f : Nat → Nat → α} {q k : Nat} {x : α} {i : Nat} (h : i ≠ q) : up2 f q k x i = f i := by
  funext j
  simp [up2, h]
theorem up2_s {α : Type} {f : Nat → Nat → α} {q k : Nat} {x : α} : up2 f q k x q k = x := by simp [up2]
theorem up2_n {α : Type} {f : Nat → Nat → α} {q k i j : Nat} {x : α} (h : ¬ (i = q ∧ j = k)) : up2 f q k x i j = f i j := by simp [up2, h]
def isIt (t : FieldType) : Bool := match t with
  | .float => false
  | .object _ => false
  | .array _ => false
  | _ => true
def isRt (t : FieldType) : Bool := match t with
  | .object _ => true
  | .array _ => true
  | _ => false
theorem isRt_n {t : FieldType} {a : Nat} (h : isRt t = true) : narrow t (.ref a) = .ref a := by cases t <;> first | rfl | cases h
theorem isRt_f {t : FieldType} {a : Nat} (h : isRt t = true) : fits t (.ref a) = true := by cases t <;> first | rfl | cases h
theorem fv_I {σ : pT} {I : pI} {F : pF} {c q k : Nat} (h : isIt (fty c k) = true) : fv σ I F c q k = .int (I q k) := by
  unfold fv
  generalize fty c k = t at h
  cases t <;> first | rfl | cases h
theorem fv_F {σ : pT} {I : pI} {F : pF} {c q k : Nat} (h : fty c k = .float) : fv σ I F c q k = .float (F q k) := by
  unfold fv
  rw [h]
theorem fv_R {σ : pT} {I : pI} {F : pF} {c q k : Nat} (h : isRt (fty c k) = true) : fv σ I F c q k = rv (σ.2.2 q k) := by
  unfold fv
  generalize fty c k = t at h
  cases t <;> first | rfl | cases h
theorem fv_upI {σ : pT} {I : pI} {F : pF} {c q k j : Nat} {x : Int32} (h : j ≠ k) : fv σ (up2 I q k x) F c q j = fv σ I F c q j := by
  unfold fv
  rw [up2_n (f := I) (fun z => h z.2)]
theorem fv_upF {σ : pT} {I : pI} {F : pF} {c q k j : Nat} {x : UInt32} (h : j ≠ k) : fv σ I (up2 F q k x) c q j = fv σ I F c q j := by
  unfold fv
  rw [up2_n (f := F) (fun z => h z.2)]
theorem fv_upR {σ : pT} {I : pI} {F : pF} {c q k j : Nat} {x : Option Nat} (h : j ≠ k) : fv (σ.1, σ.2.1, up2 σ.2.2 q k x) I F c q j = fv σ I F c q j := by
  unfold fv
  dsimp only
  rw [up2_n (f := σ.2.2) (fun z => h z.2)]
def ffin (ci k : Nat) : Bool := match vwCl[ci]? with
  | some r => (r.2.1 k).2.2.2
  | none => true
def fdecl (ci k : Nat) : String := match vwCl[ci]? with
  | some r => (r.2.1 k).1
  | none => ""
theorem ffin_of {ci k : Nat} {C : String} {T : u_T} {N : Nat} (h : vwCl[ci]? = some (C, T, N)) : ffin ci k = (T k).2.2.2 := by
  unfold ffin
  rw [h]
theorem fdecl_of {ci k : Nat} {C : String} {T : u_T} {N : Nat} (h : vwCl[ci]? = some (C, T, N)) : fdecl ci k = (T k).1 := by
  unfold fdecl
  rw [h]
theorem vw_at {ci : Nat} (h : ci < 9) : ∃ rr : vw_C, vwCl[ci]? = some rr ∧ rr.1 = cnm ci := by
  match ci, h with
  | 0, _ => exact ⟨_, rfl, rfl⟩
  | 1, _ => exact ⟨_, rfl, rfl⟩
  | 2, _ => exact ⟨_, rfl, rfl⟩
  | 3, _ => exact ⟨_, rfl, rfl⟩
  | 4, _ => exact ⟨_, rfl, rfl⟩
  | 5, _ => exact ⟨_, rfl, rfl⟩
  | 6, _ => exact ⟨_, rfl, rfl⟩
  | 7, _ => exact ⟨_, rfl, rfl⟩
  | 8, _ => exact ⟨_, rfl, rfl⟩
/-- a field's link, with all that the rows ask of its class -/
def fdOK (own : String) (idx ci k : Nat) : Prop := ∃ (C : String) (T : u_T), vwCl[ci]? = some (C, T, fN ci) ∧ (∀ w ∈ u_ws C T (fN ci), w ∈ wsA) ∧ k < fN ci ∧ (∀ j, j < fN ci → parseFieldDescriptor (T j).2.2.1 = some (fty ci j)) ∧ (∀ a, a < fN ci → ∀ b, b < fN ci → a ≠ b → (T a).2.1 ≠ (T b).2.1) ∧ Cond.fieldLink own idx (T k).1 (T k).2.1 (T k).2.2.1 ∈ wsA
section PR
variable {cc : ByteArray} {Y : mB} {Z : pZ} {pc : Nat} {ls st : List Value} {σ : pT} {I : pI} {F : pF} {β : Nat × Nat}
theorem pw_iconst {n : Int} {v : Int32} (hdg : decode cc pc = .ok (.iconst n, 1)) (hv : Int32.ofInt n = v) (k : PW cc Y Z (pc + 1) ls (.int v :: st) σ I F β) : PW cc Y Z pc ls st σ I F β := by
  intro p l e R s m args below meth c D base b al0 l0 d0 H locs cells slots lsM stM hc hd hls hs hw hS hk1 hk2
  obtain ⟨hx, hb, hr0, hts, hown, hlk, hml, hrf, hrl, hbs, hsp, -⟩ := id hc
  exact lv_iconst hx hb hdg hv (k p l e R s m args below meth c D base b al0 l0 d0 H locs cells slots lsM _ hc hd hls ⟨_, _, rfl, rfl, hs⟩ hw hS hk1 hk2)

theorem pw_bipush {n : Int} {v : Int32} (hdg : decode cc pc = .ok (.bipush n, 2)) (hv : (Int8.ofInt n).toInt32 = v) (k : PW cc Y Z (pc + 2) ls (.int v :: st) σ I F β) : PW cc Y Z pc ls st σ I F β := by
  intro p l e R s m args below meth c D base b al0 l0 d0 H locs cells slots lsM stM hc hd hls hs hw hS hk1 hk2
  obtain ⟨hx, hb, hr0, hts, hown, hlk, hml, hrf, hrl, hbs, hsp, -⟩ := id hc
  exact lv_bipush hx hb hdg hv (k p l e R s m args below meth c D base b al0 l0 d0 H locs cells slots lsM _ hc hd hls ⟨_, _, rfl, rfl, hs⟩ hw hS hk1 hk2)

theorem pw_sipush {n : Int} {v : Int32} (hdg : decode cc pc = .ok (.sipush n, 3)) (hv : (Int16.ofInt n).toInt32 = v) (k : PW cc Y Z (pc + 3) ls (.int v :: st) σ I F β) : PW cc Y Z pc ls st σ I F β := by
  intro p l e R s m args below meth c D base b al0 l0 d0 H locs cells slots lsM stM hc hd hls hs hw hS hk1 hk2
  obtain ⟨hx, hb, hr0, hts, hown, hlk, hml, hrf, hrl, hbs, hsp, -⟩ := id hc
  exact lv_sipush hx hb hdg hv (k p l e R s m args below meth c D base b al0 l0 d0 H locs cells slots lsM _ hc hd hls ⟨_, _, rfl, rfl, hs⟩ hw hS hk1 hk2)

-- FCONST
theorem pw_ldcf {idx : Nat} {v : UInt32} (hdg : decode cc pc = .ok (.ldc idx, 2)) (hw0 : Cond.constantFloat Y.1 idx v ∈ wsA) (k : PW cc Y Z (pc + 2) ls (.float v :: st) σ I F β) : PW cc Y Z pc ls st σ I F β := by
  intro p l e R s m args below meth c D base b al0 l0 d0 H locs cells slots lsM stM hc hd hls hs hw hS hk1 hk2
  obtain ⟨hx, hb, hr0, hts, hown, hlk, hml, hrf, hrl, hbs, hsp, -⟩ := id hc
  exact lv_ldcf hx hb hown (dr_words hts d0 _ hw0) hdg (k p l e R s m args below meth c D base b al0 l0 d0 H locs cells slots lsM _ hc hd hls ⟨_, _, rfl, ⟨_, rfl, alike32_refl _⟩, hs⟩ hw hS hk1 hk2)

theorem pw_ldcw {idx : Nat} {v : Int32} (hdg : decode cc pc = .ok (.ldc_w idx, 3)) (hw0 : Cond.constant Y.1 idx v ∈ wsA) (k : PW cc Y Z (pc + 3) ls (.int v :: st) σ I F β) : PW cc Y Z pc ls st σ I F β := by
  intro p l e R s m args below meth c D base b al0 l0 d0 H locs cells slots lsM stM hc hd hls hs hw hS hk1 hk2
  obtain ⟨hx, hb, hr0, hts, hown, hlk, hml, hrf, hrl, hbs, hsp, -⟩ := id hc
  exact lv_ldcw hx hb hown (dr_words hts d0 _ hw0) hdg (k p l e R s m args below meth c D base b al0 l0 d0 H locs cells slots lsM _ hc hd hls ⟨_, _, rfl, rfl, hs⟩ hw hS hk1 hk2)

theorem pw_iload_n {k0 : Fin 4} {i : Nat} {x : Int32} (hdg : decode cc pc = .ok (.iload_n k0, 1)) (hi : (k0 : Nat) = i) (hl : ls[i]? = some (.int x)) (k : PW cc Y Z (pc + 1) ls (.int x :: st) σ I F β) : PW cc Y Z pc ls st σ I F β := by
  intro p l e R s m args below meth c D base b al0 l0 d0 H locs cells slots lsM stM hc hd hls hs hw hS hk1 hk2
  obtain ⟨hx, hb, hr0, hts, hown, hlk, hml, hrf, hrl, hbs, hsp, -⟩ := id hc
  obtain ⟨_, rfl, h2⟩ := lr_get hls hl (by intro h; cases h)
  exact lv_iload_n hx hb hdg hi h2 (k p l e R s m args below meth c D base b al0 l0 d0 H locs cells slots lsM _ hc hd hls ⟨_, _, rfl, rfl, hs⟩ hw hS hk1 hk2)

theorem pw_iload {i : Nat} {x : Int32} (hdg : decode cc pc = .ok (.iload i, 2)) (hl : ls[i]? = some (.int x)) (k : PW cc Y Z (pc + 2) ls (.int x :: st) σ I F β) : PW cc Y Z pc ls st σ I F β := by
  intro p l e R s m args below meth c D base b al0 l0 d0 H locs cells slots lsM stM hc hd hls hs hw hS hk1 hk2
  obtain ⟨hx, hb, hr0, hts, hown, hlk, hml, hrf, hrl, hbs, hsp, -⟩ := id hc
  obtain ⟨_, rfl, h2⟩ := lr_get hls hl (by intro h; cases h)
  exact lv_iload hx hb hdg h2 (k p l e R s m args below meth c D base b al0 l0 d0 H locs cells slots lsM _ hc hd hls ⟨_, _, rfl, rfl, hs⟩ hw hS hk1 hk2)

theorem pw_fload_n {k0 : Fin 4} {i : Nat} {x : UInt32} (hdg : decode cc pc = .ok (.fload_n k0, 1)) (hi : (k0 : Nat) = i) (hl : ls[i]? = some (.float x)) (k : PW cc Y Z (pc + 1) ls (.float x :: st) σ I F β) : PW cc Y Z pc ls st σ I F β := by
  intro p l e R s m args below meth c D base b al0 l0 d0 H locs cells slots lsM stM hc hd hls hs hw hS hk1 hk2
  obtain ⟨hx, hb, hr0, hts, hown, hlk, hml, hrf, hrl, hbs, hsp, -⟩ := id hc
  obtain ⟨_, ⟨y, rfl, hy⟩, h2⟩ := lr_get hls hl (by intro h; cases h)
  exact lv_fload_n hx hb hdg hi h2 (k p l e R s m args below meth c D base b al0 l0 d0 H locs cells slots lsM _ hc hd hls ⟨_, _, rfl, ⟨y, rfl, hy⟩, hs⟩ hw hS hk1 hk2)

theorem pw_fload {i : Nat} {x : UInt32} (hdg : decode cc pc = .ok (.fload i, 2)) (hl : ls[i]? = some (.float x)) (k : PW cc Y Z (pc + 2) ls (.float x :: st) σ I F β) : PW cc Y Z pc ls st σ I F β := by
  intro p l e R s m args below meth c D base b al0 l0 d0 H locs cells slots lsM stM hc hd hls hs hw hS hk1 hk2
  obtain ⟨hx, hb, hr0, hts, hown, hlk, hml, hrf, hrl, hbs, hsp, -⟩ := id hc
  obtain ⟨_, ⟨y, rfl, hy⟩, h2⟩ := lr_get hls hl (by intro h; cases h)
  exact lv_fload hx hb hdg h2 (k p l e R s m args below meth c D base b al0 l0 d0 H locs cells slots lsM _ hc hd hls ⟨_, _, rfl, ⟨y, rfl, hy⟩, hs⟩ hw hS hk1 hk2)

theorem pw_aload_n {k0 : Fin 4} {i : Nat} {x : Nat} (hdg : decode cc pc = .ok (.aload_n k0, 1)) (hi : (k0 : Nat) = i) (hl : ls[i]? = some (.ref x)) (k : PW cc Y Z (pc + 1) ls (.ref x :: st) σ I F β) : PW cc Y Z pc ls st σ I F β := by
  intro p l e R s m args below meth c D base b al0 l0 d0 H locs cells slots lsM stM hc hd hls hs hw hS hk1 hk2
  obtain ⟨hx, hb, hr0, hts, hown, hlk, hml, hrf, hrl, hbs, hsp, -⟩ := id hc
  obtain ⟨_, ⟨a, ha, rfl⟩, h2⟩ := lr_get hls hl (by intro h; cases h)
  exact lv_aload_n hx hb hdg hi h2 (k p l e R s m args below meth c D base b al0 l0 d0 H locs cells slots lsM _ hc hd hls ⟨_, _, rfl, ⟨a, ha, rfl⟩, hs⟩ hw hS hk1 hk2)

theorem pw_aload {i : Nat} {x : Nat} (hdg : decode cc pc = .ok (.aload i, 2)) (hl : ls[i]? = some (.ref x)) (k : PW cc Y Z (pc + 2) ls (.ref x :: st) σ I F β) : PW cc Y Z pc ls st σ I F β := by
  intro p l e R s m args below meth c D base b al0 l0 d0 H locs cells slots lsM stM hc hd hls hs hw hS hk1 hk2
  obtain ⟨hx, hb, hr0, hts, hown, hlk, hml, hrf, hrl, hbs, hsp, -⟩ := id hc
  obtain ⟨_, ⟨a, ha, rfl⟩, h2⟩ := lr_get hls hl (by intro h; cases h)
  exact lv_aload hx hb hdg h2 (k p l e R s m args below meth c D base b al0 l0 d0 H locs cells slots lsM _ hc hd hls ⟨_, _, rfl, ⟨a, ha, rfl⟩, hs⟩ hw hS hk1 hk2)

theorem pw_dload {i : Nat} {x : UInt64} (hdg : decode cc pc = .ok (.dload i, 2)) (hl : ls[i]? = some (.double x)) (k : PW cc Y Z (pc + 2) ls (.double x :: st) σ I F β) : PW cc Y Z pc ls st σ I F β := by
  intro p l e R s m args below meth c D base b al0 l0 d0 H locs cells slots lsM stM hc hd hls hs hw hS hk1 hk2
  obtain ⟨hx, hb, hr0, hts, hown, hlk, hml, hrf, hrl, hbs, hsp, -⟩ := id hc
  obtain ⟨_, ⟨y, rfl, hy⟩, h2⟩ := lr_get hls hl (by intro h; cases h)
  exact lv_dload hx hb hdg h2 (k p l e R s m args below meth c D base b al0 l0 d0 H locs cells slots lsM _ hc hd hls ⟨_, _, rfl, ⟨y, rfl, hy⟩, hs⟩ hw hS hk1 hk2)

theorem pw_istore_n {k0 : Fin 4} {i : Nat} {x : Int32} (hdg : decode cc pc = .ok (.istore_n k0, 1)) (hi : (k0 : Nat) = i) (hn : i < Y.2.1) (ho : lo2 ls i = true) (k : PW cc Y Z (pc + 1) (ls.set i (.int x)) st σ I F β) : PW cc Y Z pc ls (.int x :: st) σ I F β := by
  intro p l e R s m args below meth c D base b al0 l0 d0 H locs cells slots lsM stM hc hd hls hs hw hS hk1 hk2
  obtain ⟨hx, hb, hr0, hts, hown, hlk, hml, hrf, hrl, hbs, hsp, -⟩ := id hc
  obtain ⟨_, t0, rfl, rfl, hs⟩ := hs
  refine lv_istore_n hx hb hdg hi (lr_has hls) hn rfl (fun ls1 hl1 => ?_)
  exact k p l e R s m args below meth c D base b al0 l0 d0 H locs cells slots ls1 _ hc hd (lr_set hls (rfl : vr _ (.int x) (.int x)) hl1 (lo2_ok ho)) hs hw hS hk1 hk2

theorem pw_istore {i : Nat} {x : Int32} (hdg : decode cc pc = .ok (.istore i, 2)) (hn : i < Y.2.1) (ho : lo2 ls i = true) (k : PW cc Y Z (pc + 2) (ls.set i (.int x)) st σ I F β) : PW cc Y Z pc ls (.int x :: st) σ I F β := by
  intro p l e R s m args below meth c D base b al0 l0 d0 H locs cells slots lsM stM hc hd hls hs hw hS hk1 hk2
  obtain ⟨hx, hb, hr0, hts, hown, hlk, hml, hrf, hrl, hbs, hsp, -⟩ := id hc
  obtain ⟨_, t0, rfl, rfl, hs⟩ := hs
  refine lv_istore hx hb hdg (lr_has hls) hn rfl (fun ls1 hl1 => ?_)
  exact k p l e R s m args below meth c D base b al0 l0 d0 H locs cells slots ls1 _ hc hd (lr_set hls (rfl : vr _ (.int x) (.int x)) hl1 (lo2_ok ho)) hs hw hS hk1 hk2

theorem pw_fstore_n {k0 : Fin 4} {i : Nat} {x : UInt32} (hdg : decode cc pc = .ok (.fstore_n k0, 1)) (hi : (k0 : Nat) = i) (hn : i < Y.2.1) (ho : lo2 ls i = true) (k : PW cc Y Z (pc + 1) (ls.set i (.float x)) st σ I F β) : PW cc Y Z pc ls (.float x :: st) σ I F β := by
  intro p l e R s m args below meth c D base b al0 l0 d0 H locs cells slots lsM stM hc hd hls hs hw hS hk1 hk2
  obtain ⟨hx, hb, hr0, hts, hown, hlk, hml, hrf, hrl, hbs, hsp, -⟩ := id hc
  obtain ⟨_, t0, rfl, ⟨x', rfl, hx'⟩, hs⟩ := hs
  refine lv_fstore_n hx hb hdg hi (lr_has hls) hn rfl (fun ls1 hl1 => ?_)
  exact k p l e R s m args below meth c D base b al0 l0 d0 H locs cells slots ls1 _ hc hd (lr_set hls (⟨x', rfl, hx'⟩ : vr _ (.float x) (.float x')) hl1 (lo2_ok ho)) hs hw hS hk1 hk2

theorem pw_fstore {i : Nat} {x : UInt32} (hdg : decode cc pc = .ok (.fstore i, 2)) (hn : i < Y.2.1) (ho : lo2 ls i = true) (k : PW cc Y Z (pc + 2) (ls.set i (.float x)) st σ I F β) : PW cc Y Z pc ls (.float x :: st) σ I F β := by
  intro p l e R s m args below meth c D base b al0 l0 d0 H locs cells slots lsM stM hc hd hls hs hw hS hk1 hk2
  obtain ⟨hx, hb, hr0, hts, hown, hlk, hml, hrf, hrl, hbs, hsp, -⟩ := id hc
  obtain ⟨_, t0, rfl, ⟨x', rfl, hx'⟩, hs⟩ := hs
  refine lv_fstore hx hb hdg (lr_has hls) hn rfl (fun ls1 hl1 => ?_)
  exact k p l e R s m args below meth c D base b al0 l0 d0 H locs cells slots ls1 _ hc hd (lr_set hls (⟨x', rfl, hx'⟩ : vr _ (.float x) (.float x')) hl1 (lo2_ok ho)) hs hw hS hk1 hk2

theorem pw_astore_n {k0 : Fin 4} {i : Nat} {x : Nat} (hdg : decode cc pc = .ok (.astore_n k0, 1)) (hi : (k0 : Nat) = i) (hn : i < Y.2.1) (ho : lo2 ls i = true) (k : PW cc Y Z (pc + 1) (ls.set i (.ref x)) st σ I F β) : PW cc Y Z pc ls (.ref x :: st) σ I F β := by
  intro p l e R s m args below meth c D base b al0 l0 d0 H locs cells slots lsM stM hc hd hls hs hw hS hk1 hk2
  obtain ⟨hx, hb, hr0, hts, hown, hlk, hml, hrf, hrl, hbs, hsp, -⟩ := id hc
  obtain ⟨_, t0, rfl, ⟨xa, hx', rfl⟩, hs⟩ := hs
  refine lv_astore_n hx hb hdg hi (lr_has hls) hn rfl (fun ls1 hl1 => ?_)
  exact k p l e R s m args below meth c D base b al0 l0 d0 H locs cells slots ls1 _ hc hd (lr_set hls (⟨xa, hx', rfl⟩ : vr _ (.ref x) (.ref xa)) hl1 (lo2_ok ho)) hs hw hS hk1 hk2

theorem pw_astore {i : Nat} {x : Nat} (hdg : decode cc pc = .ok (.astore i, 2)) (hn : i < Y.2.1) (ho : lo2 ls i = true) (k : PW cc Y Z (pc + 2) (ls.set i (.ref x)) st σ I F β) : PW cc Y Z pc ls (.ref x :: st) σ I F β := by
  intro p l e R s m args below meth c D base b al0 l0 d0 H locs cells slots lsM stM hc hd hls hs hw hS hk1 hk2
  obtain ⟨hx, hb, hr0, hts, hown, hlk, hml, hrf, hrl, hbs, hsp, -⟩ := id hc
  obtain ⟨_, t0, rfl, ⟨xa, hx', rfl⟩, hs⟩ := hs
  refine lv_astore hx hb hdg (lr_has hls) hn rfl (fun ls1 hl1 => ?_)
  exact k p l e R s m args below meth c D base b al0 l0 d0 H locs cells slots ls1 _ hc hd (lr_set hls (⟨xa, hx', rfl⟩ : vr _ (.ref x) (.ref xa)) hl1 (lo2_ok ho)) hs hw hS hk1 hk2

theorem pw_dstore {i : Nat} {x : UInt64} (hdg : decode cc pc = .ok (.dstore i, 2)) (hn : i + 1 < Y.2.1) (ho : lo2 ls i = true) (k : PW cc Y Z (pc + 2) ((ls.set i (.double x)).set (i + 1) pJ) st σ I F β) : PW cc Y Z pc ls (.double x :: st) σ I F β := by
  intro p l e R s m args below meth c D base b al0 l0 d0 H locs cells slots lsM stM hc hd hls hs hw hS hk1 hk2
  obtain ⟨hx, hb, hr0, hts, hown, hlk, hml, hrf, hrl, hbs, hsp, -⟩ := id hc
  obtain ⟨_, t0, rfl, ⟨x', rfl, hx'⟩, hs⟩ := hs
  refine lv_dstore hx hb hdg (lr_has hls) hn rfl (fun ls1 hl1 => ?_)
  exact k p l e R s m args below meth c D base b al0 l0 d0 H locs cells slots ls1 _ hc hd (lr_set2 hls (⟨_, rfl, hx'⟩ : vr _ (.double x) _) hl1 (lo2_ok ho)) hs hw hS hk1 hk2

theorem pw_iinc {i : Nat} {n : Int} {x v : Int32} (hdg : decode cc pc = .ok (.iinc i n, 3)) (hl : ls[i]? = some (.int x)) (hv : x + Int32.ofInt n = v) (ho : lo2 ls i = true) (k : PW cc Y Z (pc + 3) (ls.set i (.int v)) st σ I F β) : PW cc Y Z pc ls st σ I F β := by
  intro p l e R s m args below meth c D base b al0 l0 d0 H locs cells slots lsM stM hc hd hls hs hw hS hk1 hk2
  obtain ⟨hx, hb, hr0, hts, hown, hlk, hml, hrf, hrl, hbs, hsp, -⟩ := id hc
  obtain ⟨_, rfl, h2⟩ := lr_get hls hl (by intro h; cases h)
  obtain ⟨k9, hk9⟩ := List.getElem?_of_mem (lr_mem.mpr h2)
  have hn : i < Y.2.1 := by rw [← hls.2.2.1]; exact (List.getElem?_eq_some_iff.mp hl).1
  refine lv_iinc hx hb hdg (lr_has hls) hk9 hv hn rfl (fun ls1 hl1 => ?_)
  exact k p l e R s m args below meth c D base b al0 l0 d0 H locs cells slots ls1 _ hc hd (lr_set hls (rfl : vr _ (.int v) (.int v)) hl1 (lo2_ok ho)) hs hw hS hk1 hk2

theorem pw_iadd {x y : Int32} (hdg : decode cc pc = .ok (.iadd, 1)) (k : PW cc Y Z (pc + 1) ls (.int (x + y) :: st) σ I F β) : PW cc Y Z pc ls (.int y :: .int x :: st) σ I F β := by
  intro p l e R s m args below meth c D base b al0 l0 d0 H locs cells slots lsM stM hc hd hls hs hw hS hk1 hk2
  obtain ⟨hx, hb, hr0, hts, hown, hlk, hml, hrf, hrl, hbs, hsp, -⟩ := id hc
  obtain ⟨_, t0, rfl, rfl, hs⟩ := hs
  obtain ⟨_, t1, rfl, rfl, hs⟩ := hs
  exact lv_iadd hx hb hdg (k p l e R s m args below meth c D base b al0 l0 d0 H locs cells slots lsM _ hc hd hls ⟨_, _, rfl, rfl, hs⟩ hw hS hk1 hk2)

theorem pw_isub {x y : Int32} (hdg : decode cc pc = .ok (.isub, 1)) (k : PW cc Y Z (pc + 1) ls (.int (x - y) :: st) σ I F β) : PW cc Y Z pc ls (.int y :: .int x :: st) σ I F β := by
  intro p l e R s m args below meth c D base b al0 l0 d0 H locs cells slots lsM stM hc hd hls hs hw hS hk1 hk2
  obtain ⟨hx, hb, hr0, hts, hown, hlk, hml, hrf, hrl, hbs, hsp, -⟩ := id hc
  obtain ⟨_, t0, rfl, rfl, hs⟩ := hs
  obtain ⟨_, t1, rfl, rfl, hs⟩ := hs
  exact lv_isub hx hb hdg (k p l e R s m args below meth c D base b al0 l0 d0 H locs cells slots lsM _ hc hd hls ⟨_, _, rfl, rfl, hs⟩ hw hS hk1 hk2)

theorem pw_imul {x y : Int32} (hdg : decode cc pc = .ok (.imul, 1)) (k : PW cc Y Z (pc + 1) ls (.int (x * y) :: st) σ I F β) : PW cc Y Z pc ls (.int y :: .int x :: st) σ I F β := by
  intro p l e R s m args below meth c D base b al0 l0 d0 H locs cells slots lsM stM hc hd hls hs hw hS hk1 hk2
  obtain ⟨hx, hb, hr0, hts, hown, hlk, hml, hrf, hrl, hbs, hsp, -⟩ := id hc
  obtain ⟨_, t0, rfl, rfl, hs⟩ := hs
  obtain ⟨_, t1, rfl, rfl, hs⟩ := hs
  exact lv_imul hx hb hdg (k p l e R s m args below meth c D base b al0 l0 d0 H locs cells slots lsM _ hc hd hls ⟨_, _, rfl, rfl, hs⟩ hw hS hk1 hk2)

theorem pw_iand {x y : Int32} (hdg : decode cc pc = .ok (.iand, 1)) (k : PW cc Y Z (pc + 1) ls (.int (x &&& y) :: st) σ I F β) : PW cc Y Z pc ls (.int y :: .int x :: st) σ I F β := by
  intro p l e R s m args below meth c D base b al0 l0 d0 H locs cells slots lsM stM hc hd hls hs hw hS hk1 hk2
  obtain ⟨hx, hb, hr0, hts, hown, hlk, hml, hrf, hrl, hbs, hsp, -⟩ := id hc
  obtain ⟨_, t0, rfl, rfl, hs⟩ := hs
  obtain ⟨_, t1, rfl, rfl, hs⟩ := hs
  exact lv_iand hx hb hdg (k p l e R s m args below meth c D base b al0 l0 d0 H locs cells slots lsM _ hc hd hls ⟨_, _, rfl, rfl, hs⟩ hw hS hk1 hk2)

theorem pw_ixor {x y : Int32} (hdg : decode cc pc = .ok (.ixor, 1)) (k : PW cc Y Z (pc + 1) ls (.int (x ^^^ y) :: st) σ I F β) : PW cc Y Z pc ls (.int y :: .int x :: st) σ I F β := by
  intro p l e R s m args below meth c D base b al0 l0 d0 H locs cells slots lsM stM hc hd hls hs hw hS hk1 hk2
  obtain ⟨hx, hb, hr0, hts, hown, hlk, hml, hrf, hrl, hbs, hsp, -⟩ := id hc
  obtain ⟨_, t0, rfl, rfl, hs⟩ := hs
  obtain ⟨_, t1, rfl, rfl, hs⟩ := hs
  exact lv_ixor hx hb hdg (k p l e R s m args below meth c D base b al0 l0 d0 H locs cells slots lsM _ hc hd hls ⟨_, _, rfl, rfl, hs⟩ hw hS hk1 hk2)

theorem pw_ishl {x y : Int32} (hdg : decode cc pc = .ok (.ishl, 1)) (k : PW cc Y Z (pc + 1) ls (.int (x <<< (y &&& 31)) :: st) σ I F β) : PW cc Y Z pc ls (.int y :: .int x :: st) σ I F β := by
  intro p l e R s m args below meth c D base b al0 l0 d0 H locs cells slots lsM stM hc hd hls hs hw hS hk1 hk2
  obtain ⟨hx, hb, hr0, hts, hown, hlk, hml, hrf, hrl, hbs, hsp, -⟩ := id hc
  obtain ⟨_, t0, rfl, rfl, hs⟩ := hs
  obtain ⟨_, t1, rfl, rfl, hs⟩ := hs
  exact lv_ishl hx hb hdg (k p l e R s m args below meth c D base b al0 l0 d0 H locs cells slots lsM _ hc hd hls ⟨_, _, rfl, rfl, hs⟩ hw hS hk1 hk2)

theorem pw_ishr {x y : Int32} (hdg : decode cc pc = .ok (.ishr, 1)) (k : PW cc Y Z (pc + 1) ls (.int (x >>> (y &&& 31)) :: st) σ I F β) : PW cc Y Z pc ls (.int y :: .int x :: st) σ I F β := by
  intro p l e R s m args below meth c D base b al0 l0 d0 H locs cells slots lsM stM hc hd hls hs hw hS hk1 hk2
  obtain ⟨hx, hb, hr0, hts, hown, hlk, hml, hrf, hrl, hbs, hsp, -⟩ := id hc
  obtain ⟨_, t0, rfl, rfl, hs⟩ := hs
  obtain ⟨_, t1, rfl, rfl, hs⟩ := hs
  exact lv_ishr hx hb hdg (k p l e R s m args below meth c D base b al0 l0 d0 H locs cells slots lsM _ hc hd hls ⟨_, _, rfl, rfl, hs⟩ hw hS hk1 hk2)

theorem pw_irem {x y : Int32} (hdg : decode cc pc = .ok (.irem, 1)) (hne : ¬ y = 0) (k : PW cc Y Z (pc + 1) ls (.int (x - x / y * y) :: st) σ I F β) : PW cc Y Z pc ls (.int y :: .int x :: st) σ I F β := by
  intro p l e R s m args below meth c D base b al0 l0 d0 H locs cells slots lsM stM hc hd hls hs hw hS hk1 hk2
  obtain ⟨hx, hb, hr0, hts, hown, hlk, hml, hrf, hrl, hbs, hsp, -⟩ := id hc
  obtain ⟨_, t0, rfl, rfl, hs⟩ := hs
  obtain ⟨_, t1, rfl, rfl, hs⟩ := hs
  exact lv_irem hx hb hdg hne (k p l e R s m args below meth c D base b al0 l0 d0 H locs cells slots lsM _ hc hd hls ⟨_, _, rfl, rfl, hs⟩ hw hS hk1 hk2)

theorem pw_iushr {x y v : Int32} (hdg : decode cc pc = .ok (.iushr, 1)) (hv : (x.toUInt32 >>> (y.toUInt32 &&& Int32.toUInt32 31)).toInt32 = v) (k : PW cc Y Z (pc + 1) ls (.int v :: st) σ I F β) : PW cc Y Z pc ls (.int y :: .int x :: st) σ I F β := by
  intro p l e R s m args below meth c D base b al0 l0 d0 H locs cells slots lsM stM hc hd hls hs hw hS hk1 hk2
  obtain ⟨hx, hb, hr0, hts, hown, hlk, hml, hrf, hrl, hbs, hsp, -⟩ := id hc
  obtain ⟨_, t0, rfl, rfl, hs⟩ := hs
  obtain ⟨_, t1, rfl, rfl, hs⟩ := hs
  exact lv_iushr hx hb hdg hv (k p l e R s m args below meth c D base b al0 l0 d0 H locs cells slots lsM _ hc hd hls ⟨_, _, rfl, rfl, hs⟩ hw hS hk1 hk2)

theorem pw_fadd {x y : UInt32} (hdg : decode cc pc = .ok (.fadd, 1)) (k : PW cc Y Z (pc + 1) ls (.float (FP.fadd x y) :: st) σ I F β) : PW cc Y Z pc ls (.float y :: .float x :: st) σ I F β := by
  intro p l e R s m args below meth c D base b al0 l0 d0 H locs cells slots lsM stM hc hd hls hs hw hS hk1 hk2
  obtain ⟨hx, hb, hr0, hts, hown, hlk, hml, hrf, hrl, hbs, hsp, -⟩ := id hc
  obtain ⟨_, t0, rfl, ⟨y', rfl, hy'⟩, hs⟩ := hs
  obtain ⟨_, t1, rfl, ⟨x', rfl, hx'⟩, hs⟩ := hs
  refine lv_fadd_any hd lw_bits hx hb hdg (fun r d1 hal hd1 => ?_)
  exact k p l e R s m args below meth c D base b al0 l0 d1 H locs cells slots lsM _ hc hd1 hls ⟨_, _, rfl, ⟨r, rfl, by rw [← alike_fadd hx' hy']; exact hal⟩, hs⟩ hw hS hk1 hk2

theorem pw_fsub {x y : UInt32} (hdg : decode cc pc = .ok (.fsub, 1)) (k : PW cc Y Z (pc + 1) ls (.float (FP.fsub x y) :: st) σ I F β) : PW cc Y Z pc ls (.float y :: .float x :: st) σ I F β := by
  intro p l e R s m args below meth c D base b al0 l0 d0 H locs cells slots lsM stM hc hd hls hs hw hS hk1 hk2
  obtain ⟨hx, hb, hr0, hts, hown, hlk, hml, hrf, hrl, hbs, hsp, -⟩ := id hc
  obtain ⟨_, t0, rfl, ⟨y', rfl, hy'⟩, hs⟩ := hs
  obtain ⟨_, t1, rfl, ⟨x', rfl, hx'⟩, hs⟩ := hs
  refine lv_fsub_any hd lw_bits hx hb hdg (fun r d1 hal hd1 => ?_)
  exact k p l e R s m args below meth c D base b al0 l0 d1 H locs cells slots lsM _ hc hd1 hls ⟨_, _, rfl, ⟨r, rfl, by rw [← alike_fsub hx' hy']; exact hal⟩, hs⟩ hw hS hk1 hk2

theorem pw_fmul {x y : UInt32} (hdg : decode cc pc = .ok (.fmul, 1)) (k : PW cc Y Z (pc + 1) ls (.float (FP.fmul x y) :: st) σ I F β) : PW cc Y Z pc ls (.float y :: .float x :: st) σ I F β := by
  intro p l e R s m args below meth c D base b al0 l0 d0 H locs cells slots lsM stM hc hd hls hs hw hS hk1 hk2
  obtain ⟨hx, hb, hr0, hts, hown, hlk, hml, hrf, hrl, hbs, hsp, -⟩ := id hc
  obtain ⟨_, t0, rfl, ⟨y', rfl, hy'⟩, hs⟩ := hs
  obtain ⟨_, t1, rfl, ⟨x', rfl, hx'⟩, hs⟩ := hs
  refine lv_fmul_any hd lw_bits hx hb hdg (fun r d1 hal hd1 => ?_)
  exact k p l e R s m args below meth c D base b al0 l0 d1 H locs cells slots lsM _ hc hd1 hls ⟨_, _, rfl, ⟨r, rfl, by rw [← alike_fmul hx' hy']; exact hal⟩, hs⟩ hw hS hk1 hk2

theorem pw_fdiv {x y : UInt32} (hdg : decode cc pc = .ok (.fdiv, 1)) (k : PW cc Y Z (pc + 1) ls (.float (FP.fdiv x y) :: st) σ I F β) : PW cc Y Z pc ls (.float y :: .float x :: st) σ I F β := by
  intro p l e R s m args below meth c D base b al0 l0 d0 H locs cells slots lsM stM hc hd hls hs hw hS hk1 hk2
  obtain ⟨hx, hb, hr0, hts, hown, hlk, hml, hrf, hrl, hbs, hsp, -⟩ := id hc
  obtain ⟨_, t0, rfl, ⟨y', rfl, hy'⟩, hs⟩ := hs
  obtain ⟨_, t1, rfl, ⟨x', rfl, hx'⟩, hs⟩ := hs
  refine lv_fdiv_any hd lw_bits hx hb hdg (fun r d1 hal hd1 => ?_)
  exact k p l e R s m args below meth c D base b al0 l0 d1 H locs cells slots lsM _ hc hd1 hls ⟨_, _, rfl, ⟨r, rfl, by rw [← alike_fdiv hx' hy']; exact hal⟩, hs⟩ hw hS hk1 hk2

theorem pw_i2f {x : Int32} (hdg : decode cc pc = .ok (.i2f, 1)) (k : PW cc Y Z (pc + 1) ls (.float (FP.i2f x) :: st) σ I F β) : PW cc Y Z pc ls (.int x :: st) σ I F β := by
  intro p l e R s m args below meth c D base b al0 l0 d0 H locs cells slots lsM stM hc hd hls hs hw hS hk1 hk2
  obtain ⟨hx, hb, hr0, hts, hown, hlk, hml, hrf, hrl, hbs, hsp, -⟩ := id hc
  obtain ⟨_, t0, rfl, rfl, hs⟩ := hs
  exact lv_i2f hx hb hdg (k p l e R s m args below meth c D base b al0 l0 d0 H locs cells slots lsM _ hc hd hls ⟨_, _, rfl, ⟨_, rfl, alike32_refl _⟩, hs⟩ hw hS hk1 hk2)

theorem pw_f2i {x : UInt32} (hdg : decode cc pc = .ok (.f2i, 1)) (k : PW cc Y Z (pc + 1) ls (.int (FP.f2i x) :: st) σ I F β) : PW cc Y Z pc ls (.float x :: st) σ I F β := by
  intro p l e R s m args below meth c D base b al0 l0 d0 H locs cells slots lsM stM hc hd hls hs hw hS hk1 hk2
  obtain ⟨hx, hb, hr0, hts, hown, hlk, hml, hrf, hrl, hbs, hsp, -⟩ := id hc
  obtain ⟨_, t0, rfl, ⟨x', rfl, hx'⟩, hs⟩ := hs
  refine lv_f2i hx hb hdg ?_
  rw [alike_f2i hx']
  exact k p l e R s m args below meth c D base b al0 l0 d0 H locs cells slots lsM _ hc hd hls ⟨_, _, rfl, rfl, hs⟩ hw hS hk1 hk2

theorem pw_f2d {x : UInt32} (hdg : decode cc pc = .ok (.f2d, 1)) (k : PW cc Y Z (pc + 1) ls (.double (FP.f2d x) :: st) σ I F β) : PW cc Y Z pc ls (.float x :: st) σ I F β := by
  intro p l e R s m args below meth c D base b al0 l0 d0 H locs cells slots lsM stM hc hd hls hs hw hS hk1 hk2
  obtain ⟨hx, hb, hr0, hts, hown, hlk, hml, hrf, hrl, hbs, hsp, -⟩ := id hc
  obtain ⟨_, t0, rfl, ⟨x', rfl, hx'⟩, hs⟩ := hs
  refine lv_f2d_any hd lw_bits hx hb hdg (fun r d1 hal hd1 => ?_)
  exact k p l e R s m args below meth c D base b al0 l0 d1 H locs cells slots lsM _ hc hd1 hls ⟨_, _, rfl, ⟨r, rfl, alike64_trans hal (alike_f2d hx')⟩, hs⟩ hw hS hk1 hk2

theorem pw_i2c {x v : Int32} (hdg : decode cc pc = .ok (.i2c, 1)) (hv : (x.toUInt32 % 65536).toInt32 = v) (k : PW cc Y Z (pc + 1) ls (.int v :: st) σ I F β) : PW cc Y Z pc ls (.int x :: st) σ I F β := by
  intro p l e R s m args below meth c D base b al0 l0 d0 H locs cells slots lsM stM hc hd hls hs hw hS hk1 hk2
  obtain ⟨hx, hb, hr0, hts, hown, hlk, hml, hrf, hrl, hbs, hsp, -⟩ := id hc
  obtain ⟨_, t0, rfl, rfl, hs⟩ := hs
  exact lv_i2c hx hb hdg hv (k p l e R s m args below meth c D base b al0 l0 d0 H locs cells slots lsM _ hc hd hls ⟨_, _, rfl, rfl, hs⟩ hw hS hk1 hk2)

theorem pw_fcmp {x y : UInt32} {op : CmpOp} (hdg : decode cc pc = .ok (.fcmp op, 1)) (k : PW cc Y Z (pc + 1) ls (.int (Op.cmpValue (FP.fcmp x y) op) :: st) σ I F β) : PW cc Y Z pc ls (.float y :: .float x :: st) σ I F β := by
  intro p l e R s m args below meth c D base b al0 l0 d0 H locs cells slots lsM stM hc hd hls hs hw hS hk1 hk2
  obtain ⟨hx, hb, hr0, hts, hown, hlk, hml, hrf, hrl, hbs, hsp, -⟩ := id hc
  obtain ⟨_, t0, rfl, ⟨y', rfl, hy'⟩, hs⟩ := hs
  obtain ⟨_, t1, rfl, ⟨x', rfl, hx'⟩, hs⟩ := hs
  refine lv_fcmp hx hb hdg ?_
  rw [alike_fcmp hx' hy']
  exact k p l e R s m args below meth c D base b al0 l0 d0 H locs cells slots lsM _ hc hd hls ⟨_, _, rfl, rfl, hs⟩ hw hS hk1 hk2

theorem pw_dcmp {x y : UInt64} {op : CmpOp} (hdg : decode cc pc = .ok (.dcmp op, 1)) (k : PW cc Y Z (pc + 1) ls (.int (Op.cmpValue (FP.dcmp x y) op) :: st) σ I F β) : PW cc Y Z pc ls (.double y :: .double x :: st) σ I F β := by
  intro p l e R s m args below meth c D base b al0 l0 d0 H locs cells slots lsM stM hc hd hls hs hw hS hk1 hk2
  obtain ⟨hx, hb, hr0, hts, hown, hlk, hml, hrf, hrl, hbs, hsp, -⟩ := id hc
  obtain ⟨_, t0, rfl, ⟨y', rfl, hy'⟩, hs⟩ := hs
  obtain ⟨_, t1, rfl, ⟨x', rfl, hx'⟩, hs⟩ := hs
  refine lv_dcmp hx hb hdg ?_
  rw [alike_dcmp hx' hy']
  exact k p l e R s m args below meth c D base b al0 l0 d0 H locs cells slots lsM _ hc hd hls ⟨_, _, rfl, rfl, hs⟩ hw hS hk1 hk2

theorem pw_dup {v : Value} (hdg : decode cc pc = .ok (.dup, 1)) (hv : v.category = 1) (k : PW cc Y Z (pc + 1) ls (v :: v :: st) σ I F β) : PW cc Y Z pc ls (v :: st) σ I F β := by
  intro p l e R s m args below meth c D base b al0 l0 d0 H locs cells slots lsM stM hc hd hls hs hw hS hk1 hk2
  obtain ⟨hx, hb, hr0, hts, hown, hlk, hml, hrf, hrl, hbs, hsp, -⟩ := id hc
  obtain ⟨v', t0, rfl, h1, hs⟩ := hs
  exact lv_dup hx hb hdg (by rw [vr_cat h1]; exact hv) (k p l e R s m args below meth c D base b al0 l0 d0 H locs cells slots lsM _ hc hd hls ⟨_, _, rfl, h1, _, _, rfl, h1, hs⟩ hw hS hk1 hk2)

theorem pw_dup2 {v w : Value} (hdg : decode cc pc = .ok (.dup2, 1)) (hv : v.category = 1) (hw0 : w.category = 1) (k : PW cc Y Z (pc + 1) ls (v :: w :: v :: w :: st) σ I F β) : PW cc Y Z pc ls (v :: w :: st) σ I F β := by
  intro p l e R s m args below meth c D base b al0 l0 d0 H locs cells slots lsM stM hc hd hls hs hw hS hk1 hk2
  obtain ⟨hx, hb, hr0, hts, hown, hlk, hml, hrf, hrl, hbs, hsp, -⟩ := id hc
  obtain ⟨v', t0, rfl, h1, w', t1, rfl, h2, hs⟩ := hs
  exact lv_dup2_11 hx hb hdg (by rw [vr_cat h1]; exact hv) (by rw [vr_cat h2]; exact hw0) (k p l e R s m args below meth c D base b al0 l0 d0 H locs cells slots lsM _ hc hd hls ⟨_, _, rfl, h1, _, _, rfl, h2, _, _, rfl, h1, _, _, rfl, h2, hs⟩ hw hS hk1 hk2)

theorem pw_if_eq {x : Int32} {off : Int} {tgt : Nat} (hdg : decode cc pc = .ok (.ifCond .eq off, 3)) (ht : (pc : Int) + off = (tgt : Int)) (kt : x = 0 → PW cc Y Z tgt ls st σ I F β) (kf : ¬ x = 0 → PW cc Y Z (pc + 3) ls st σ I F β) : PW cc Y Z pc ls (.int x :: st) σ I F β := by
  intro p l e R s m args below meth c D base b al0 l0 d0 H locs cells slots lsM stM hc hd hls hs hw hS hk1 hk2
  obtain ⟨hx, hb, hr0, hts, hown, hlk, hml, hrf, hrl, hbs, hsp, -⟩ := id hc
  obtain ⟨_, t0, rfl, rfl, hs⟩ := hs
  exact lv_if_eq hx hb hdg ht (fun h9 => (kt h9) p l e R s m args below meth c D base b al0 l0 d0 H locs cells slots lsM _ hc hd hls hs hw hS hk1 hk2) (fun h9 => (kf h9) p l e R s m args below meth c D base b al0 l0 d0 H locs cells slots lsM _ hc hd hls hs hw hS hk1 hk2)

theorem pw_if_ne {x : Int32} {off : Int} {tgt : Nat} (hdg : decode cc pc = .ok (.ifCond .ne off, 3)) (ht : (pc : Int) + off = (tgt : Int)) (kt : ¬ x = 0 → PW cc Y Z tgt ls st σ I F β) (kf : x = 0 → PW cc Y Z (pc + 3) ls st σ I F β) : PW cc Y Z pc ls (.int x :: st) σ I F β := by
  intro p l e R s m args below meth c D base b al0 l0 d0 H locs cells slots lsM stM hc hd hls hs hw hS hk1 hk2
  obtain ⟨hx, hb, hr0, hts, hown, hlk, hml, hrf, hrl, hbs, hsp, -⟩ := id hc
  obtain ⟨_, t0, rfl, rfl, hs⟩ := hs
  exact lv_if_ne hx hb hdg ht (fun h9 => (kt h9) p l e R s m args below meth c D base b al0 l0 d0 H locs cells slots lsM _ hc hd hls hs hw hS hk1 hk2) (fun h9 => (kf h9) p l e R s m args below meth c D base b al0 l0 d0 H locs cells slots lsM _ hc hd hls hs hw hS hk1 hk2)

theorem pw_if_lt {x : Int32} {off : Int} {tgt : Nat} (hdg : decode cc pc = .ok (.ifCond .lt off, 3)) (ht : (pc : Int) + off = (tgt : Int)) (kt : x < 0 → PW cc Y Z tgt ls st σ I F β) (kf : ¬ x < 0 → PW cc Y Z (pc + 3) ls st σ I F β) : PW cc Y Z pc ls (.int x :: st) σ I F β := by
  intro p l e R s m args below meth c D base b al0 l0 d0 H locs cells slots lsM stM hc hd hls hs hw hS hk1 hk2
  obtain ⟨hx, hb, hr0, hts, hown, hlk, hml, hrf, hrl, hbs, hsp, -⟩ := id hc
  obtain ⟨_, t0, rfl, rfl, hs⟩ := hs
  exact lv_if_lt hx hb hdg ht (fun h9 => (kt h9) p l e R s m args below meth c D base b al0 l0 d0 H locs cells slots lsM _ hc hd hls hs hw hS hk1 hk2) (fun h9 => (kf h9) p l e R s m args below meth c D base b al0 l0 d0 H locs cells slots lsM _ hc hd hls hs hw hS hk1 hk2)

theorem pw_if_ge {x : Int32} {off : Int} {tgt : Nat} (hdg : decode cc pc = .ok (.ifCond .ge off, 3)) (ht : (pc : Int) + off = (tgt : Int)) (kt : 0 ≤ x → PW cc Y Z tgt ls st σ I F β) (kf : ¬ 0 ≤ x → PW cc Y Z (pc + 3) ls st σ I F β) : PW cc Y Z pc ls (.int x :: st) σ I F β := by
  intro p l e R s m args below meth c D base b al0 l0 d0 H locs cells slots lsM stM hc hd hls hs hw hS hk1 hk2
  obtain ⟨hx, hb, hr0, hts, hown, hlk, hml, hrf, hrl, hbs, hsp, -⟩ := id hc
  obtain ⟨_, t0, rfl, rfl, hs⟩ := hs
  exact lv_if_ge hx hb hdg ht (fun h9 => (kt h9) p l e R s m args below meth c D base b al0 l0 d0 H locs cells slots lsM _ hc hd hls hs hw hS hk1 hk2) (fun h9 => (kf h9) p l e R s m args below meth c D base b al0 l0 d0 H locs cells slots lsM _ hc hd hls hs hw hS hk1 hk2)

theorem pw_if_gt {x : Int32} {off : Int} {tgt : Nat} (hdg : decode cc pc = .ok (.ifCond .gt off, 3)) (ht : (pc : Int) + off = (tgt : Int)) (kt : 0 < x → PW cc Y Z tgt ls st σ I F β) (kf : ¬ 0 < x → PW cc Y Z (pc + 3) ls st σ I F β) : PW cc Y Z pc ls (.int x :: st) σ I F β := by
  intro p l e R s m args below meth c D base b al0 l0 d0 H locs cells slots lsM stM hc hd hls hs hw hS hk1 hk2
  obtain ⟨hx, hb, hr0, hts, hown, hlk, hml, hrf, hrl, hbs, hsp, -⟩ := id hc
  obtain ⟨_, t0, rfl, rfl, hs⟩ := hs
  exact lv_if_gt hx hb hdg ht (fun h9 => (kt h9) p l e R s m args below meth c D base b al0 l0 d0 H locs cells slots lsM _ hc hd hls hs hw hS hk1 hk2) (fun h9 => (kf h9) p l e R s m args below meth c D base b al0 l0 d0 H locs cells slots lsM _ hc hd hls hs hw hS hk1 hk2)

theorem pw_if_le {x : Int32} {off : Int} {tgt : Nat} (hdg : decode cc pc = .ok (.ifCond .le off, 3)) (ht : (pc : Int) + off = (tgt : Int)) (kt : x ≤ 0 → PW cc Y Z tgt ls st σ I F β) (kf : ¬ x ≤ 0 → PW cc Y Z (pc + 3) ls st σ I F β) : PW cc Y Z pc ls (.int x :: st) σ I F β := by
  intro p l e R s m args below meth c D base b al0 l0 d0 H locs cells slots lsM stM hc hd hls hs hw hS hk1 hk2
  obtain ⟨hx, hb, hr0, hts, hown, hlk, hml, hrf, hrl, hbs, hsp, -⟩ := id hc
  obtain ⟨_, t0, rfl, rfl, hs⟩ := hs
  exact lv_if_le hx hb hdg ht (fun h9 => (kt h9) p l e R s m args below meth c D base b al0 l0 d0 H locs cells slots lsM _ hc hd hls hs hw hS hk1 hk2) (fun h9 => (kf h9) p l e R s m args below meth c D base b al0 l0 d0 H locs cells slots lsM _ hc hd hls hs hw hS hk1 hk2)

theorem pw_icmp_eq {x y : Int32} {off : Int} {tgt : Nat} (hdg : decode cc pc = .ok (.if_icmp .eq off, 3)) (ht : (pc : Int) + off = (tgt : Int)) (kt : x = y → PW cc Y Z tgt ls st σ I F β) (kf : ¬ x = y → PW cc Y Z (pc + 3) ls st σ I F β) : PW cc Y Z pc ls (.int y :: .int x :: st) σ I F β := by
  intro p l e R s m args below meth c D base b al0 l0 d0 H locs cells slots lsM stM hc hd hls hs hw hS hk1 hk2
  obtain ⟨hx, hb, hr0, hts, hown, hlk, hml, hrf, hrl, hbs, hsp, -⟩ := id hc
  obtain ⟨_, t0, rfl, rfl, hs⟩ := hs
  obtain ⟨_, t1, rfl, rfl, hs⟩ := hs
  exact lv_icmp_eq hx hb hdg ht (fun h9 => (kt h9) p l e R s m args below meth c D base b al0 l0 d0 H locs cells slots lsM _ hc hd hls hs hw hS hk1 hk2) (fun h9 => (kf h9) p l e R s m args below meth c D base b al0 l0 d0 H locs cells slots lsM _ hc hd hls hs hw hS hk1 hk2)

theorem pw_icmp_ne {x y : Int32} {off : Int} {tgt : Nat} (hdg : decode cc pc = .ok (.if_icmp .ne off, 3)) (ht : (pc : Int) + off = (tgt : Int)) (kt : ¬ x = y → PW cc Y Z tgt ls st σ I F β) (kf : x = y → PW cc Y Z (pc + 3) ls st σ I F β) : PW cc Y Z pc ls (.int y :: .int x :: st) σ I F β := by
  intro p l e R s m args below meth c D base b al0 l0 d0 H locs cells slots lsM stM hc hd hls hs hw hS hk1 hk2
  obtain ⟨hx, hb, hr0, hts, hown, hlk, hml, hrf, hrl, hbs, hsp, -⟩ := id hc
  obtain ⟨_, t0, rfl, rfl, hs⟩ := hs
  obtain ⟨_, t1, rfl, rfl, hs⟩ := hs
  exact lv_icmp_ne hx hb hdg ht (fun h9 => (kt h9) p l e R s m args below meth c D base b al0 l0 d0 H locs cells slots lsM _ hc hd hls hs hw hS hk1 hk2) (fun h9 => (kf h9) p l e R s m args below meth c D base b al0 l0 d0 H locs cells slots lsM _ hc hd hls hs hw hS hk1 hk2)

theorem pw_icmp_lt {x y : Int32} {off : Int} {tgt : Nat} (hdg : decode cc pc = .ok (.if_icmp .lt off, 3)) (ht : (pc : Int) + off = (tgt : Int)) (kt : x < y → PW cc Y Z tgt ls st σ I F β) (kf : ¬ x < y → PW cc Y Z (pc + 3) ls st σ I F β) : PW cc Y Z pc ls (.int y :: .int x :: st) σ I F β := by
  intro p l e R s m args below meth c D base b al0 l0 d0 H locs cells slots lsM stM hc hd hls hs hw hS hk1 hk2
  obtain ⟨hx, hb, hr0, hts, hown, hlk, hml, hrf, hrl, hbs, hsp, -⟩ := id hc
  obtain ⟨_, t0, rfl, rfl, hs⟩ := hs
  obtain ⟨_, t1, rfl, rfl, hs⟩ := hs
  exact lv_icmp_lt hx hb hdg ht (fun h9 => (kt h9) p l e R s m args below meth c D base b al0 l0 d0 H locs cells slots lsM _ hc hd hls hs hw hS hk1 hk2) (fun h9 => (kf h9) p l e R s m args below meth c D base b al0 l0 d0 H locs cells slots lsM _ hc hd hls hs hw hS hk1 hk2)

theorem pw_icmp_ge {x y : Int32} {off : Int} {tgt : Nat} (hdg : decode cc pc = .ok (.if_icmp .ge off, 3)) (ht : (pc : Int) + off = (tgt : Int)) (kt : y ≤ x → PW cc Y Z tgt ls st σ I F β) (kf : ¬ y ≤ x → PW cc Y Z (pc + 3) ls st σ I F β) : PW cc Y Z pc ls (.int y :: .int x :: st) σ I F β := by
  intro p l e R s m args below meth c D base b al0 l0 d0 H locs cells slots lsM stM hc hd hls hs hw hS hk1 hk2
  obtain ⟨hx, hb, hr0, hts, hown, hlk, hml, hrf, hrl, hbs, hsp, -⟩ := id hc
  obtain ⟨_, t0, rfl, rfl, hs⟩ := hs
  obtain ⟨_, t1, rfl, rfl, hs⟩ := hs
  exact lv_icmp_ge hx hb hdg ht (fun h9 => (kt h9) p l e R s m args below meth c D base b al0 l0 d0 H locs cells slots lsM _ hc hd hls hs hw hS hk1 hk2) (fun h9 => (kf h9) p l e R s m args below meth c D base b al0 l0 d0 H locs cells slots lsM _ hc hd hls hs hw hS hk1 hk2)

theorem pw_icmp_gt {x y : Int32} {off : Int} {tgt : Nat} (hdg : decode cc pc = .ok (.if_icmp .gt off, 3)) (ht : (pc : Int) + off = (tgt : Int)) (kt : y < x → PW cc Y Z tgt ls st σ I F β) (kf : ¬ y < x → PW cc Y Z (pc + 3) ls st σ I F β) : PW cc Y Z pc ls (.int y :: .int x :: st) σ I F β := by
  intro p l e R s m args below meth c D base b al0 l0 d0 H locs cells slots lsM stM hc hd hls hs hw hS hk1 hk2
  obtain ⟨hx, hb, hr0, hts, hown, hlk, hml, hrf, hrl, hbs, hsp, -⟩ := id hc
  obtain ⟨_, t0, rfl, rfl, hs⟩ := hs
  obtain ⟨_, t1, rfl, rfl, hs⟩ := hs
  exact lv_icmp_gt hx hb hdg ht (fun h9 => (kt h9) p l e R s m args below meth c D base b al0 l0 d0 H locs cells slots lsM _ hc hd hls hs hw hS hk1 hk2) (fun h9 => (kf h9) p l e R s m args below meth c D base b al0 l0 d0 H locs cells slots lsM _ hc hd hls hs hw hS hk1 hk2)

theorem pw_icmp_le {x y : Int32} {off : Int} {tgt : Nat} (hdg : decode cc pc = .ok (.if_icmp .le off, 3)) (ht : (pc : Int) + off = (tgt : Int)) (kt : x ≤ y → PW cc Y Z tgt ls st σ I F β) (kf : ¬ x ≤ y → PW cc Y Z (pc + 3) ls st σ I F β) : PW cc Y Z pc ls (.int y :: .int x :: st) σ I F β := by
  intro p l e R s m args below meth c D base b al0 l0 d0 H locs cells slots lsM stM hc hd hls hs hw hS hk1 hk2
  obtain ⟨hx, hb, hr0, hts, hown, hlk, hml, hrf, hrl, hbs, hsp, -⟩ := id hc
  obtain ⟨_, t0, rfl, rfl, hs⟩ := hs
  obtain ⟨_, t1, rfl, rfl, hs⟩ := hs
  exact lv_icmp_le hx hb hdg ht (fun h9 => (kt h9) p l e R s m args below meth c D base b al0 l0 d0 H locs cells slots lsM _ hc hd hls hs hw hS hk1 hk2) (fun h9 => (kf h9) p l e R s m args below meth c D base b al0 l0 d0 H locs cells slots lsM _ hc hd hls hs hw hS hk1 hk2)

theorem pw_goto {off : Int} {tgt : Nat} (hdg : decode cc pc = .ok (.goto off, 3)) (ht : (pc : Int) + off = (tgt : Int)) (k : PW cc Y Z (tgt) ls st σ I F β) : PW cc Y Z pc ls st σ I F β := by
  intro p l e R s m args below meth c D base b al0 l0 d0 H locs cells slots lsM stM hc hd hls hs hw hS hk1 hk2
  obtain ⟨hx, hb, hr0, hts, hown, hlk, hml, hrf, hrl, hbs, hsp, -⟩ := id hc
  exact lv_goto hx hb hdg ht (k p l e R s m args below meth c D base b al0 l0 d0 H locs cells slots lsM _ hc hd hls hs hw hS hk1 hk2)

theorem pw_lookup {dflt : Int} {ps : Array (Int × Int)} {len : Nat} {x : Int32} {off : Int} {tgt : Nat} (hdg : decode cc pc = .ok (.lookupswitch dflt ps, len)) (hp : (ps.toList.zip (ps.toList.drop 1)).all (fun (a, next) => a.1 < next.1) = true) (ho : Op.lookupswitch.offset ps.toList dflt x.toInt = off) (ht : (pc : Int) + off = (tgt : Int)) (k : PW cc Y Z (tgt) ls st σ I F β) : PW cc Y Z pc ls (.int x :: st) σ I F β := by
  intro p l e R s m args below meth c D base b al0 l0 d0 H locs cells slots lsM stM hc hd hls hs hw hS hk1 hk2
  obtain ⟨hx, hb, hr0, hts, hown, hlk, hml, hrf, hrl, hbs, hsp, -⟩ := id hc
  obtain ⟨_, t0, rfl, rfl, hs⟩ := hs
  exact lv_lookup hx hb hdg hp ho ht (k p l e R s m args below meth c D base b al0 l0 d0 H locs cells slots lsM _ hc hd hls hs hw hS hk1 hk2)

theorem pw_tableOut {dflt lo hi : Int} {offs : Array Int} {len : Nat} {x : Int32} {tgt : Nat} (hdg : decode cc pc = .ok (.tableswitch dflt lo hi offs, len)) (h : x.toInt < lo ∨ hi < x.toInt) (ht : (pc : Int) + dflt = (tgt : Int)) (k : PW cc Y Z (tgt) ls st σ I F β) : PW cc Y Z pc ls (.int x :: st) σ I F β := by
  intro p l e R s m args below meth c D base b al0 l0 d0 H locs cells slots lsM stM hc hd hls hs hw hS hk1 hk2
  obtain ⟨hx, hb, hr0, hts, hown, hlk, hml, hrf, hrl, hbs, hsp, -⟩ := id hc
  obtain ⟨_, t0, rfl, rfl, hs⟩ := hs
  exact lv_tableOut hx hb hdg h ht (k p l e R s m args below meth c D base b al0 l0 d0 H locs cells slots lsM _ hc hd hls hs hw hS hk1 hk2)

theorem pw_tableIn {dflt lo hi : Int} {offs : Array Int} {len : Nat} {x : Int32} {off : Int} {tgt : Nat} (hdg : decode cc pc = .ok (.tableswitch dflt lo hi offs, len)) (h1 : ¬ x.toInt < lo) (h2 : ¬ hi < x.toInt) (ho : offs[(x.toInt - lo).toNat]? = some off) (ht : (pc : Int) + off = (tgt : Int)) (k : PW cc Y Z (tgt) ls st σ I F β) : PW cc Y Z pc ls (.int x :: st) σ I F β := by
  intro p l e R s m args below meth c D base b al0 l0 d0 H locs cells slots lsM stM hc hd hls hs hw hS hk1 hk2
  obtain ⟨hx, hb, hr0, hts, hown, hlk, hml, hrf, hrl, hbs, hsp, -⟩ := id hc
  obtain ⟨_, t0, rfl, rfl, hs⟩ := hs
  exact lv_tableIn hx hb hdg h1 h2 ho ht (k p l e R s m args below meth c D base b al0 l0 d0 H locs cells slots lsM _ hc hd hls hs hw hS hk1 hk2)

theorem pw_get {idx ci k q : Nat} {v : Value} (hdg : decode cc pc = .ok (.getfield idx, 3)) (hf : fdOK Y.1 idx ci k) (hci : ci < 9) (hq : (σ.2.1 q).1 = ci + 1) (hv : fv σ I F ci q k = v) (kk : PW cc Y Z (pc + 3) ls (v :: st) σ I F β) : PW cc Y Z pc ls (.ref q :: st) σ I F β := by
  intro p l e R s m args below meth c D base b al0 l0 d0 H locs cells slots lsM stM hc hd hls hs hw hS hk1 hk2
  obtain ⟨hx, hb, hr0, hts, hown, hlk, hml, hrf, hrl, hbs, hsp, -⟩ := id hc
  obtain ⟨_, t0, rfl, ⟨a, hqa, rfl⟩, hs⟩ := hs
  obtain ⟨ws, tys, g1, g2, g3, g4, g5, g6, g7, g8, g9, g10, g11⟩ := id hw
  obtain ⟨C, T, f1, f2, f3, f4, f5, f6⟩ := hf
  obtain ⟨j, en, hj, hjw, hce⟩ := wr_cell (D := D) (base := base) (b := b) (U := s) (H := H) g1 g6 g7 g8 (by rw [hq]; omega) (by rw [hq]; omega) hqa
  obtain ⟨fs, rfl, hfs⟩ := hce.1 ci hq hci
  obtain ⟨v', hv1, hv2⟩ := hfs k f3
  subst hv
  exact va_get (s := s.setDrawn d0) (D := D) hx hb (dr_words hts d0) f2 hown g4 g3 j hjw f1 k f3 (dr_words hts d0 _ f6) (fun _ h => h) hv1 hdg (kk p l e R s m args below meth c D base b al0 l0 d0 H locs cells slots lsM _ hc hd hls ⟨_, _, rfl, hv2, hs⟩ hw hS hk1 hk2)

/-- the field written: the pure world behind it -/
theorem ce_put {al : List Nat} {tys : List (ClassId × FieldType)} {σ σ' : pT} {I I' : pI} {F F' : pF} {q ci k : Nat} {fs : List Value} {v' : Value} (hq : (σ.2.1 q).1 = ci + 1) (hci : ci < 9) (hfs : ∀ k, k < fN ci → ∃ v', fs[k]? = some v' ∧ vr al (fv σ I F ci q k) v') (hK : σ'.2.1 q = σ.2.1 q) (hv : vr al (fv σ' I' F' ci q k) v') (ho : ∀ j, j ≠ k → fv σ' I' F' ci q j = fv σ I F ci q j) : ce al tys σ' I' F' q (.inr (ci, fs.set k v')) := by
  refine ⟨fun c h1 h2 => ?_, fun h1 => ?_, fun h1 => ?_, fun h1 => ?_, fun c h1 h2 => ?_⟩
  · rw [hK, hq] at h1
    have hcc : ci = c := by omega
    subst hcc
    refine ⟨_, rfl, fun j hj => ?_⟩
    by_cases hjk : k = j
    · subst hjk
      obtain ⟨w, hw1, -⟩ := hfs k hj
      exact ⟨v', List.getElem?_set_self (List.getElem?_eq_some_iff.mp hw1).1, hv⟩
    · obtain ⟨w, hw1, hw2⟩ := hfs j hj
      exact ⟨w, by rw [List.getElem?_set_ne hjk]; exact hw1, by rw [ho j (Ne.symm hjk)]; exact hw2⟩
  · rw [hK, hq] at h1; omega
  · rw [hK, hq] at h1; omega
  · rw [hK, hq] at h1; omega
  · rw [hK, hq] at h1; omega

-- PUTS
theorem pw_putI {idx ci k q : Nat} {x : Int32} (hdg : decode cc pc = .ok (.putfield idx, 3)) (hf : fdOK Y.1 idx ci k) (hci : ci < 9) (hfin : ffin ci k = false) (hnr : narrow (fty ci k) (.int x) = .int x ∧ fits (fty ci k) (.int x) = true ∧ isIt (fty ci k) = true) (hq : (σ.2.1 q).1 = ci + 1) (kk : PW cc Y Z (pc + 3) ls st σ (up2 I q k x) F β) : PW cc Y Z pc ls (.int x :: .ref q :: st) σ I F β := by
  intro p l e R s m args below meth c D base b al0 l0 d0 H locs cells slots lsM stM hc hd hls hs hw hS hk1 hk2
  obtain ⟨hx, hb, hr0, hts, hown, hlk, hml, hrf, hrl, hbs, hsp, -⟩ := id hc
  obtain ⟨_, t0, rfl, rfl, hs⟩ := hs
  obtain ⟨_, t1, rfl, ⟨a, hqa, rfl⟩, hs⟩ := hs
  obtain ⟨ws, tys, g1, g2, g3, g4, g5, g6, g7, g8, g9, g10, g11⟩ := id hw
  obtain ⟨C, T, f1, f2, f3, f4, f5, f6⟩ := hf
  obtain ⟨j, en, hj, hjw, hce⟩ := wr_cell (D := D) (base := base) (b := b) (U := s) (H := H) g1 g6 g7 g8 (by rw [hq]; omega) (by rw [hq]; omega) hqa
  obtain ⟨fs, rfl, hfs⟩ := hce.1 ci hq hci
  obtain ⟨v', hv1, hv2⟩ := hfs k f3
  have hfl : k < fs.length := (List.getElem?_eq_some_iff.mp hv1).1
  refine va_put (s := s.setDrawn d0) (D := D) hx hb (dr_words hts d0) f2 (fty ci) f4 f5 hown g4 g3 g5 hS j hjw f1 k f3 (dr_words hts d0 _ f6) (fun _ h => h) (by rw [← ffin_of f1]; exact hfin) (ty := fty ci k) (f4 k f3) hnr.1 hnr.2.1 hfl hdg (fun H1 locs1 hP1 hD1 hS1 => ?_)
  subst hj
  refine kk p l e R s m args below meth c D base b al0 l0 d0 H1 locs1 cells slots lsM _ hc hd hls hs (wr_set (σ' := σ) (I' := up2 I (j + 1) k x) (F' := F) g1 g2 g4 g6 g7 g8 g9 hbs g11 hjw hP1 hD1 hS hS1 rfl rfl ?_ ?_ ?_ ?_) hS1 hk1 hk2
  · intro q9 h9; rfl
  · intro q9 h9; exact up2_row h9
  · intro q9 h9; rfl
  · exact ce_put hq hci hfs rfl (by rw [fv_I hnr.2.2]; simp [up2]; rfl) (fun j9 h9 => fv_upI h9)

theorem pw_putF {idx ci k q : Nat} {x : UInt32} (hdg : decode cc pc = .ok (.putfield idx, 3)) (hf : fdOK Y.1 idx ci k) (hci : ci < 9) (hfin : ffin ci k = false) (hnr : fty ci k = .float) (hq : (σ.2.1 q).1 = ci + 1) (kk : PW cc Y Z (pc + 3) ls st σ I (up2 F q k x) β) : PW cc Y Z pc ls (.float x :: .ref q :: st) σ I F β := by
  intro p l e R s m args below meth c D base b al0 l0 d0 H locs cells slots lsM stM hc hd hls hs hw hS hk1 hk2
  obtain ⟨hx, hb, hr0, hts, hown, hlk, hml, hrf, hrl, hbs, hsp, -⟩ := id hc
  obtain ⟨_, t0, rfl, ⟨x', rfl, hx'⟩, hs⟩ := hs
  obtain ⟨_, t1, rfl, ⟨a, hqa, rfl⟩, hs⟩ := hs
  obtain ⟨ws, tys, g1, g2, g3, g4, g5, g6, g7, g8, g9, g10, g11⟩ := id hw
  obtain ⟨C, T, f1, f2, f3, f4, f5, f6⟩ := hf
  obtain ⟨j, en, hj, hjw, hce⟩ := wr_cell (D := D) (base := base) (b := b) (U := s) (H := H) g1 g6 g7 g8 (by rw [hq]; omega) (by rw [hq]; omega) hqa
  obtain ⟨fs, rfl, hfs⟩ := hce.1 ci hq hci
  obtain ⟨v', hv1, hv2⟩ := hfs k f3
  have hfl : k < fs.length := (List.getElem?_eq_some_iff.mp hv1).1
  refine va_put (s := s.setDrawn d0) (D := D) hx hb (dr_words hts d0) f2 (fty ci) f4 f5 hown g4 g3 g5 hS j hjw f1 k f3 (dr_words hts d0 _ f6) (fun _ h => h) (by rw [← ffin_of f1]; exact hfin) (ty := fty ci k) (f4 k f3) (by rw [hnr]; rfl) (by rw [hnr]; rfl) hfl hdg (fun H1 locs1 hP1 hD1 hS1 => ?_)
  subst hj
  refine kk p l e R s m args below meth c D base b al0 l0 d0 H1 locs1 cells slots lsM _ hc hd hls hs (wr_set (σ' := σ) (I' := I) (F' := up2 F (j + 1) k x) g1 g2 g4 g6 g7 g8 g9 hbs g11 hjw hP1 hD1 hS hS1 rfl rfl ?_ ?_ ?_ ?_) hS1 hk1 hk2
  · intro q9 h9; rfl
  · intro q9 h9; rfl
  · intro q9 h9; exact up2_row h9
  · exact ce_put hq hci hfs rfl (by rw [fv_F hnr]; exact ⟨x', rfl, by simp [up2]; exact hx'⟩) (fun j9 h9 => fv_upF h9)

theorem pw_putR {idx ci k q : Nat} {x : Nat} (hdg : decode cc pc = .ok (.putfield idx, 3)) (hf : fdOK Y.1 idx ci k) (hci : ci < 9) (hfin : ffin ci k = false) (hnr : isRt (fty ci k) = true) (hq : (σ.2.1 q).1 = ci + 1) (kk : PW cc Y Z (pc + 3) ls st (σ.1, σ.2.1, up2 σ.2.2 q k (some x)) I F β) : PW cc Y Z pc ls (.ref x :: .ref q :: st) σ I F β := by
  intro p l e R s m args below meth c D base b al0 l0 d0 H locs cells slots lsM stM hc hd hls hs hw hS hk1 hk2
  obtain ⟨hx, hb, hr0, hts, hown, hlk, hml, hrf, hrl, hbs, hsp, -⟩ := id hc
  obtain ⟨_, t0, rfl, ⟨xa, hx', rfl⟩, hs⟩ := hs
  obtain ⟨_, t1, rfl, ⟨a, hqa, rfl⟩, hs⟩ := hs
  obtain ⟨ws, tys, g1, g2, g3, g4, g5, g6, g7, g8, g9, g10, g11⟩ := id hw
  obtain ⟨C, T, f1, f2, f3, f4, f5, f6⟩ := hf
  obtain ⟨j, en, hj, hjw, hce⟩ := wr_cell (D := D) (base := base) (b := b) (U := s) (H := H) g1 g6 g7 g8 (by rw [hq]; omega) (by rw [hq]; omega) hqa
  obtain ⟨fs, rfl, hfs⟩ := hce.1 ci hq hci
  obtain ⟨v', hv1, hv2⟩ := hfs k f3
  have hfl : k < fs.length := (List.getElem?_eq_some_iff.mp hv1).1
  refine va_put (s := s.setDrawn d0) (D := D) hx hb (dr_words hts d0) f2 (fty ci) f4 f5 hown g4 g3 g5 hS j hjw f1 k f3 (dr_words hts d0 _ f6) (fun _ h => h) (by rw [← ffin_of f1]; exact hfin) (ty := fty ci k) (f4 k f3) (isRt_n hnr) (isRt_f hnr) hfl hdg (fun H1 locs1 hP1 hD1 hS1 => ?_)
  subst hj
  refine kk p l e R s m args below meth c D base b al0 l0 d0 H1 locs1 cells slots lsM _ hc hd hls hs (wr_set (σ' := (σ.1, σ.2.1, up2 σ.2.2 (j + 1) k (some x))) (I' := I) (F' := F) g1 g2 g4 g6 g7 g8 g9 hbs g11 hjw hP1 hD1 hS hS1 rfl rfl ?_ ?_ ?_ ?_) hS1 hk1 hk2
  · intro q9 h9; exact up2_row h9
  · intro q9 h9; rfl
  · intro q9 h9; rfl
  · exact ce_put hq hci hfs rfl (by rw [fv_R hnr]; simp only [up2, and_self, if_true]; exact ⟨xa, hx', rfl⟩) (fun j9 h9 => fv_upR h9)

theorem pw_putFI {idx ci k q : Nat} {x : Int32} (hdg : decode cc pc = .ok (.putfield idx, 3)) (hf : fdOK Y.1 idx ci k) (hci : ci < 9) (hfin : ffin ci k = true) (hini : Y.2.2.2.2.2 = true) (hdecl : fdecl ci k = Y.1) (hnr : narrow (fty ci k) (.int x) = .int x ∧ fits (fty ci k) (.int x) = true ∧ isIt (fty ci k) = true) (hq : (σ.2.1 q).1 = ci + 1) (kk : PW cc Y Z (pc + 3) ls st σ (up2 I q k x) F β) : PW cc Y Z pc ls (.int x :: .ref q :: st) σ I F β := by
  intro p l e R s m args below meth c D base b al0 l0 d0 H locs cells slots lsM stM hc hd hls hs hw hS hk1 hk2
  obtain ⟨hx, hb, hr0, hts, hown, hlk, hml, hrf, hrl, hbs, hsp, -⟩ := id hc
  obtain ⟨_, t0, rfl, rfl, hs⟩ := hs
  obtain ⟨_, t1, rfl, ⟨a, hqa, rfl⟩, hs⟩ := hs
  obtain ⟨ws, tys, g1, g2, g3, g4, g5, g6, g7, g8, g9, g10, g11⟩ := id hw
  obtain ⟨C, T, f1, f2, f3, f4, f5, f6⟩ := hf
  obtain ⟨j, en, hj, hjw, hce⟩ := wr_cell (D := D) (base := base) (b := b) (U := s) (H := H) g1 g6 g7 g8 (by rw [hq]; omega) (by rw [hq]; omega) hqa
  obtain ⟨fs, rfl, hfs⟩ := hce.1 ci hq hci
  obtain ⟨v', hv1, hv2⟩ := hfs k f3
  have hfl : k < fs.length := (List.getElem?_eq_some_iff.mp hv1).1
  refine va_putF (s := s.setDrawn d0) (D := D) hx hb (dr_words hts d0) f2 (fty ci) f4 f5 hown g4 g3 g5 hS j hjw f1 k f3 (dr_words hts d0 _ f6) (fun _ h => h) (by rw [← ffin_of f1]; exact hfin) (hc.2.2.2.2.2.2.2.2.2.2.2 hini) (by rw [← fdecl_of f1]; exact hdecl) (ty := fty ci k) (f4 k f3) hnr.1 hnr.2.1 hfl hdg (fun H1 locs1 hP1 hD1 hS1 => ?_)
  subst hj
  refine kk p l e R s m args below meth c D base b al0 l0 d0 H1 locs1 cells slots lsM _ hc hd hls hs (wr_set (σ' := σ) (I' := up2 I (j + 1) k x) (F' := F) g1 g2 g4 g6 g7 g8 g9 hbs g11 hjw hP1 hD1 hS hS1 rfl rfl ?_ ?_ ?_ ?_) hS1 hk1 hk2
  · intro q9 h9; rfl
  · intro q9 h9; exact up2_row h9
  · intro q9 h9; rfl
  · exact ce_put hq hci hfs rfl (by rw [fv_I hnr.2.2]; simp [up2]; rfl) (fun j9 h9 => fv_upI h9)

theorem pw_putFF {idx ci k q : Nat} {x : UInt32} (hdg : decode cc pc = .ok (.putfield idx, 3)) (hf : fdOK Y.1 idx ci k) (hci : ci < 9) (hfin : ffin ci k = true) (hini : Y.2.2.2.2.2 = true) (hdecl : fdecl ci k = Y.1) (hnr : fty ci k = .float) (hq : (σ.2.1 q).1 = ci + 1) (kk : PW cc Y Z (pc + 3) ls st σ I (up2 F q k x) β) : PW cc Y Z pc ls (.float x :: .ref q :: st) σ I F β := by
  intro p l e R s m args below meth c D base b al0 l0 d0 H locs cells slots lsM stM hc hd hls hs hw hS hk1 hk2
  obtain ⟨hx, hb, hr0, hts, hown, hlk, hml, hrf, hrl, hbs, hsp, -⟩ := id hc
  obtain ⟨_, t0, rfl, ⟨x', rfl, hx'⟩, hs⟩ := hs
  obtain ⟨_, t1, rfl, ⟨a, hqa, rfl⟩, hs⟩ := hs
  obtain ⟨ws, tys, g1, g2, g3, g4, g5, g6, g7, g8, g9, g10, g11⟩ := id hw
  obtain ⟨C, T, f1, f2, f3, f4, f5, f6⟩ := hf
  obtain ⟨j, en, hj, hjw, hce⟩ := wr_cell (D := D) (base := base) (b := b) (U := s) (H := H) g1 g6 g7 g8 (by rw [hq]; omega) (by rw [hq]; omega) hqa
  obtain ⟨fs, rfl, hfs⟩ := hce.1 ci hq hci
  obtain ⟨v', hv1, hv2⟩ := hfs k f3
  have hfl : k < fs.length := (List.getElem?_eq_some_iff.mp hv1).1
  refine va_putF (s := s.setDrawn d0) (D := D) hx hb (dr_words hts d0) f2 (fty ci) f4 f5 hown g4 g3 g5 hS j hjw f1 k f3 (dr_words hts d0 _ f6) (fun _ h => h) (by rw [← ffin_of f1]; exact hfin) (hc.2.2.2.2.2.2.2.2.2.2.2 hini) (by rw [← fdecl_of f1]; exact hdecl) (ty := fty ci k) (f4 k f3) (by rw [hnr]; rfl) (by rw [hnr]; rfl) hfl hdg (fun H1 locs1 hP1 hD1 hS1 => ?_)
  subst hj
  refine kk p l e R s m args below meth c D base b al0 l0 d0 H1 locs1 cells slots lsM _ hc hd hls hs (wr_set (σ' := σ) (I' := I) (F' := up2 F (j + 1) k x) g1 g2 g4 g6 g7 g8 g9 hbs g11 hjw hP1 hD1 hS hS1 rfl rfl ?_ ?_ ?_ ?_) hS1 hk1 hk2
  · intro q9 h9; rfl
  · intro q9 h9; rfl
  · intro q9 h9; exact up2_row h9
  · exact ce_put hq hci hfs rfl (by rw [fv_F hnr]; exact ⟨x', rfl, by simp [up2]; exact hx'⟩) (fun j9 h9 => fv_upF h9)

theorem pw_putFR {idx ci k q : Nat} {x : Nat} (hdg : decode cc pc = .ok (.putfield idx, 3)) (hf : fdOK Y.1 idx ci k) (hci : ci < 9) (hfin : ffin ci k = true) (hini : Y.2.2.2.2.2 = true) (hdecl : fdecl ci k = Y.1) (hnr : isRt (fty ci k) = true) (hq : (σ.2.1 q).1 = ci + 1) (kk : PW cc Y Z (pc + 3) ls st (σ.1, σ.2.1, up2 σ.2.2 q k (some x)) I F β) : PW cc Y Z pc ls (.ref x :: .ref q :: st) σ I F β := by
  intro p l e R s m args below meth c D base b al0 l0 d0 H locs cells slots lsM stM hc hd hls hs hw hS hk1 hk2
  obtain ⟨hx, hb, hr0, hts, hown, hlk, hml, hrf, hrl, hbs, hsp, -⟩ := id hc
  obtain ⟨_, t0, rfl, ⟨xa, hx', rfl⟩, hs⟩ := hs
  obtain ⟨_, t1, rfl, ⟨a, hqa, rfl⟩, hs⟩ := hs
  obtain ⟨ws, tys, g1, g2, g3, g4, g5, g6, g7, g8, g9, g10, g11⟩ := id hw
  obtain ⟨C, T, f1, f2, f3, f4, f5, f6⟩ := hf
  obtain ⟨j, en, hj, hjw, hce⟩ := wr_cell (D := D) (base := base) (b := b) (U := s) (H := H) g1 g6 g7 g8 (by rw [hq]; omega) (by rw [hq]; omega) hqa
  obtain ⟨fs, rfl, hfs⟩ := hce.1 ci hq hci
  obtain ⟨v', hv1, hv2⟩ := hfs k f3
  have hfl : k < fs.length := (List.getElem?_eq_some_iff.mp hv1).1
  refine va_putF (s := s.setDrawn d0) (D := D) hx hb (dr_words hts d0) f2 (fty ci) f4 f5 hown g4 g3 g5 hS j hjw f1 k f3 (dr_words hts d0 _ f6) (fun _ h => h) (by rw [← ffin_of f1]; exact hfin) (hc.2.2.2.2.2.2.2.2.2.2.2 hini) (by rw [← fdecl_of f1]; exact hdecl) (ty := fty ci k) (f4 k f3) (isRt_n hnr) (isRt_f hnr) hfl hdg (fun H1 locs1 hP1 hD1 hS1 => ?_)
  subst hj
  refine kk p l e R s m args below meth c D base b al0 l0 d0 H1 locs1 cells slots lsM _ hc hd hls hs (wr_set (σ' := (σ.1, σ.2.1, up2 σ.2.2 (j + 1) k (some x))) (I' := I) (F' := F) g1 g2 g4 g6 g7 g8 g9 hbs g11 hjw hP1 hD1 hS hS1 rfl rfl ?_ ?_ ?_ ?_) hS1 hk1 hk2
  · intro q9 h9; exact up2_row h9
  · intro q9 h9; rfl
  · intro q9 h9; rfl
  · exact ce_put hq hci hfs rfl (by rw [fv_R hnr]; simp only [up2, and_self, if_true]; exact ⟨xa, hx', rfl⟩) (fun j9 h9 => fv_upR h9)

/-! arrays -/
theorem pw_iald {q n : Nat} {i : Int32} (hdg : decode cc pc = .ok (.iaload, 1)) (hq : σ.2.1 q = (20, n)) (hin : vp_in i n) (kk : PW cc Y Z (pc + 1) ls (.int (I q i.toNatClampNeg) :: st) σ I F β) : PW cc Y Z pc ls (.int i :: .ref q :: st) σ I F β := by
  intro p l e R s m args below meth c D base b al0 l0 d0 H locs cells slots lsM stM hc hd hls hs hw hS hk1 hk2
  obtain ⟨hx, hb, hr0, hts, hown, hlk, hml, hrf, hrl, hbs, hsp, -⟩ := id hc
  obtain ⟨_, t0, rfl, rfl, hs⟩ := hs
  obtain ⟨_, t1, rfl, ⟨a, hqa, rfl⟩, hs⟩ := hs
  obtain ⟨ws, tys, g1, g2, g3, g4, g5, g6, g7, g8, g9, g10, g11⟩ := id hw
  obtain ⟨j, en, hj, hjw, hce⟩ := wr_cell (D := D) (base := base) (b := b) (U := s) (H := H) g1 g6 g7 g8 (by rw [hq]; show 20 ≠ 99; omega) (by rw [hq]; show 20 ≠ 0; omega) hqa
  have hlt : i.toNatClampNeg < n := Nat.not_le.mp fun q => hin (Or.inr q)
  obtain ⟨cA, f, rfl, ⟨t0', ht0⟩, hf⟩ := hce.2.1 (by rw [hq])
  rw [hq] at hjw hf
  refine va_iald (s := s.setDrawn d0) (D := D) hx hb g4 g3 j t0' hjw ht0 hin hdg ?_
  rw [hf _ hlt]
  exact kk p l e R s m args below meth c D base b al0 l0 d0 H locs cells slots lsM _ hc hd hls ⟨_, _, rfl, rfl, hs⟩ hw hS hk1 hk2

theorem pw_cald {q n : Nat} {i : Int32} (hdg : decode cc pc = .ok (.caload, 1)) (hq : σ.2.1 q = (21, n)) (hin : vp_in i n) (kk : PW cc Y Z (pc + 1) ls (.int (I q i.toNatClampNeg) :: st) σ I F β) : PW cc Y Z pc ls (.int i :: .ref q :: st) σ I F β := by
  intro p l e R s m args below meth c D base b al0 l0 d0 H locs cells slots lsM stM hc hd hls hs hw hS hk1 hk2
  obtain ⟨hx, hb, hr0, hts, hown, hlk, hml, hrf, hrl, hbs, hsp, -⟩ := id hc
  obtain ⟨_, t0, rfl, rfl, hs⟩ := hs
  obtain ⟨_, t1, rfl, ⟨a, hqa, rfl⟩, hs⟩ := hs
  obtain ⟨ws, tys, g1, g2, g3, g4, g5, g6, g7, g8, g9, g10, g11⟩ := id hw
  obtain ⟨j, en, hj, hjw, hce⟩ := wr_cell (D := D) (base := base) (b := b) (U := s) (H := H) g1 g6 g7 g8 (by rw [hq]; show 21 ≠ 99; omega) (by rw [hq]; show 21 ≠ 0; omega) hqa
  have hlt : i.toNatClampNeg < n := Nat.not_le.mp fun q => hin (Or.inr q)
  obtain ⟨cA, f, rfl, ⟨t0', ht0⟩, hf⟩ := hce.2.2.1 (by rw [hq])
  rw [hq] at hjw hf
  refine va_cald (s := s.setDrawn d0) (D := D) hx hb g4 g3 j t0' hjw ht0 hin hdg ?_
  rw [hf _ hlt]
  exact kk p l e R s m args below meth c D base b al0 l0 d0 H locs cells slots lsM _ hc hd hls ⟨_, _, rfl, rfl, hs⟩ hw hS hk1 hk2

theorem pw_fald {q n : Nat} {i : Int32} (hdg : decode cc pc = .ok (.faload, 1)) (hq : σ.2.1 q = (22, n)) (hin : vp_in i n) (kk : PW cc Y Z (pc + 1) ls (.float (F q i.toNatClampNeg) :: st) σ I F β) : PW cc Y Z pc ls (.int i :: .ref q :: st) σ I F β := by
  intro p l e R s m args below meth c D base b al0 l0 d0 H locs cells slots lsM stM hc hd hls hs hw hS hk1 hk2
  obtain ⟨hx, hb, hr0, hts, hown, hlk, hml, hrf, hrl, hbs, hsp, -⟩ := id hc
  obtain ⟨_, t0, rfl, rfl, hs⟩ := hs
  obtain ⟨_, t1, rfl, ⟨a, hqa, rfl⟩, hs⟩ := hs
  obtain ⟨ws, tys, g1, g2, g3, g4, g5, g6, g7, g8, g9, g10, g11⟩ := id hw
  obtain ⟨j, en, hj, hjw, hce⟩ := wr_cell (D := D) (base := base) (b := b) (U := s) (H := H) g1 g6 g7 g8 (by rw [hq]; show 22 ≠ 99; omega) (by rw [hq]; show 22 ≠ 0; omega) hqa
  have hlt : i.toNatClampNeg < n := Nat.not_le.mp fun q => hin (Or.inr q)
  obtain ⟨cA, f, rfl, ⟨t0', ht0⟩, hf⟩ := hce.2.2.2.1 (by rw [hq])
  rw [hq] at hjw hf
  refine va_fald (s := s.setDrawn d0) (D := D) hx hb g4 g3 j t0' hjw ht0 hin hdg ?_
  exact kk p l e R s m args below meth c D base b al0 l0 d0 H locs cells slots lsM _ hc hd hls ⟨_, _, rfl, ⟨_, rfl, hf _ hlt⟩, hs⟩ hw hS hk1 hk2

theorem pw_aald {q n : Nat} {i : Int32} {ci x : Nat} (hdg : decode cc pc = .ok (.aaload, 1)) (hq : σ.2.1 q = (ci + 30, n)) (hin : vp_in i n) (hci : ci < 9) (hx9 : σ.2.2 q i.toNatClampNeg = some x) (kk : PW cc Y Z (pc + 1) ls (.ref x :: st) σ I F β) : PW cc Y Z pc ls (.int i :: .ref q :: st) σ I F β := by
  intro p l e R s m args below meth c D base b al0 l0 d0 H locs cells slots lsM stM hc hd hls hs hw hS hk1 hk2
  obtain ⟨hx, hb, hr0, hts, hown, hlk, hml, hrf, hrl, hbs, hsp, -⟩ := id hc
  obtain ⟨_, t0, rfl, rfl, hs⟩ := hs
  obtain ⟨_, t1, rfl, ⟨a, hqa, rfl⟩, hs⟩ := hs
  obtain ⟨ws, tys, g1, g2, g3, g4, g5, g6, g7, g8, g9, g10, g11⟩ := id hw
  obtain ⟨j, en, hj, hjw, hce⟩ := wr_cell (D := D) (base := base) (b := b) (U := s) (H := H) g1 g6 g7 g8 (by rw [hq]; show ci + 30 ≠ 99; omega) (by rw [hq]; show ci + 30 ≠ 0; omega) hqa
  have hlt : i.toNatClampNeg < n := Nat.not_le.mp fun q => hin (Or.inr q)
  obtain ⟨cA, f, rfl, ⟨t0', ht0⟩, hf⟩ := hce.2.2.2.2 ci (by rw [hq]) hci
  rw [hq] at hjw hf
  refine va_aldq (s := s.setDrawn d0) (D := D) hx hb g4 g3 j t0' hjw ht0 hin hdg ?_
  have hfx := hf _ hlt
  rw [hx9] at hfx
  exact kk p l e R s m args below meth c D base b al0 l0 d0 H locs cells slots lsM _ hc hd hls ⟨_, _, rfl, hfx, hs⟩ hw hS hk1 hk2

theorem pw_sald {n : Nat} {i : Int32} (hdg : decode cc pc = .ok (.iaload, 1)) (hq : (σ.2.1 0).2 = n) (hin : vp_in i n) (kk : PW cc Y Z (pc + 1) ls (.int (I 0 i.toNatClampNeg) :: st) σ I F β) : PW cc Y Z pc ls (.int i :: .ref 0 :: st) σ I F β := by
  intro p l e R s m args below meth c D base b al0 l0 d0 H locs cells slots lsM stM hc hd hls hs hw hS hk1 hk2
  obtain ⟨hx, hb, hr0, hts, hown, hlk, hml, hrf, hrl, hbs, hsp, -⟩ := id hc
  obtain ⟨_, t0, rfl, rfl, hs⟩ := hs
  obtain ⟨_, t1, rfl, ⟨a, hqa, rfl⟩, hs⟩ := hs
  obtain ⟨ws, tys, g1, g2, g3, g4, g5, g6, g7, g8, g9, g10, g11⟩ := id hw
  have ha : a = b := by
    rw [g1, List.getElem?_cons_zero] at hqa
    exact (Option.some.inj hqa).symm
  subst ha
  have hS0 : va_S (fun q : Nat => base ≤ q) H H locs := ⟨Nat.le_refl _, fun _ _ _ => rfl, hS.2.2⟩
  have hbl : a < H.size := Nat.lt_of_lt_of_le g9 g10
  subst hq
  refine va_sld (s := s.setDrawn d0) (A := fun q : Nat => base ≤ q) hx hb (H0 := H) g11 hbl (Nat.not_le.mpr g9) hS0 hin hdg ?_
  exact kk p l e R s m args below meth c D base a al0 l0 d0 H locs cells slots lsM _ hc hd hls ⟨_, _, rfl, rfl, hs⟩ hw hS hk1 hk2

theorem pw_slen {n : Nat} (hdg : decode cc pc = .ok (.arraylength, 1)) (hq : (σ.2.1 0).2 = n) (kk : PW cc Y Z (pc + 1) ls (.int (Int32.ofNat n) :: st) σ I F β) : PW cc Y Z pc ls (.ref 0 :: st) σ I F β := by
  intro p l e R s m args below meth c D base b al0 l0 d0 H locs cells slots lsM stM hc hd hls hs hw hS hk1 hk2
  obtain ⟨hx, hb, hr0, hts, hown, hlk, hml, hrf, hrl, hbs, hsp, -⟩ := id hc
  obtain ⟨_, t1, rfl, ⟨a, hqa, rfl⟩, hs⟩ := hs
  obtain ⟨ws, tys, g1, g2, g3, g4, g5, g6, g7, g8, g9, g10, g11⟩ := id hw
  have ha : a = b := by
    rw [g1, List.getElem?_cons_zero] at hqa
    exact (Option.some.inj hqa).symm
  subst ha
  have hS0 : va_S (fun q : Nat => base ≤ q) H H locs := ⟨Nat.le_refl _, fun _ _ _ => rfl, hS.2.2⟩
  have hbl : a < H.size := Nat.lt_of_lt_of_le g9 g10
  subst hq
  refine va_slen (s := s.setDrawn d0) (A := fun q : Nat => base ≤ q) hx hb (H0 := H) g11 hbl (Nat.not_le.mpr g9) hS0 hdg ?_
  exact kk p l e R s m args below meth c D base a al0 l0 d0 H locs cells slots lsM _ hc hd hls ⟨_, _, rfl, rfl, hs⟩ hw hS hk1 hk2

theorem pw_alenI {q n : Nat} (hdg : decode cc pc = .ok (.arraylength, 1)) (hq : σ.2.1 q = (20, n)) (kk : PW cc Y Z (pc + 1) ls (.int (Int32.ofNat n) :: st) σ I F β) : PW cc Y Z pc ls (.ref q :: st) σ I F β := by
  intro p l e R s m args below meth c D base b al0 l0 d0 H locs cells slots lsM stM hc hd hls hs hw hS hk1 hk2
  obtain ⟨hx, hb, hr0, hts, hown, hlk, hml, hrf, hrl, hbs, hsp, -⟩ := id hc
  obtain ⟨_, t1, rfl, ⟨a, hqa, rfl⟩, hs⟩ := hs
  obtain ⟨ws, tys, g1, g2, g3, g4, g5, g6, g7, g8, g9, g10, g11⟩ := id hw
  obtain ⟨j, en, hj, hjw, hce⟩ := wr_cell (D := D) (base := base) (b := b) (U := s) (H := H) g1 g6 g7 g8 (by rw [hq]; show 20 ≠ 99; omega) (by rw [hq]; show 20 ≠ 0; omega) hqa
  obtain ⟨cA, f, rfl, ⟨t0', ht0⟩, hf⟩ := hce.2.1 (by rw [hq])
  rw [hq] at hjw
  refine va_alen (s := s.setDrawn d0) (D := D) hx hb g4 g3 j t0' hjw ht0 rfl hdg ?_
  exact kk p l e R s m args below meth c D base b al0 l0 d0 H locs cells slots lsM _ hc hd hls ⟨_, _, rfl, rfl, hs⟩ hw hS hk1 hk2

theorem pw_alenC {q n : Nat} (hdg : decode cc pc = .ok (.arraylength, 1)) (hq : σ.2.1 q = (21, n)) (kk : PW cc Y Z (pc + 1) ls (.int (Int32.ofNat n) :: st) σ I F β) : PW cc Y Z pc ls (.ref q :: st) σ I F β := by
  intro p l e R s m args below meth c D base b al0 l0 d0 H locs cells slots lsM stM hc hd hls hs hw hS hk1 hk2
  obtain ⟨hx, hb, hr0, hts, hown, hlk, hml, hrf, hrl, hbs, hsp, -⟩ := id hc
  obtain ⟨_, t1, rfl, ⟨a, hqa, rfl⟩, hs⟩ := hs
  obtain ⟨ws, tys, g1, g2, g3, g4, g5, g6, g7, g8, g9, g10, g11⟩ := id hw
  obtain ⟨j, en, hj, hjw, hce⟩ := wr_cell (D := D) (base := base) (b := b) (U := s) (H := H) g1 g6 g7 g8 (by rw [hq]; show 21 ≠ 99; omega) (by rw [hq]; show 21 ≠ 0; omega) hqa
  obtain ⟨cA, f, rfl, ⟨t0', ht0⟩, hf⟩ := hce.2.2.1 (by rw [hq])
  rw [hq] at hjw
  refine va_alen (s := s.setDrawn d0) (D := D) hx hb g4 g3 j t0' hjw ht0 rfl hdg ?_
  exact kk p l e R s m args below meth c D base b al0 l0 d0 H locs cells slots lsM _ hc hd hls ⟨_, _, rfl, rfl, hs⟩ hw hS hk1 hk2

theorem pw_alenF {q n : Nat} (hdg : decode cc pc = .ok (.arraylength, 1)) (hq : σ.2.1 q = (22, n)) (kk : PW cc Y Z (pc + 1) ls (.int (Int32.ofNat n) :: st) σ I F β) : PW cc Y Z pc ls (.ref q :: st) σ I F β := by
  intro p l e R s m args below meth c D base b al0 l0 d0 H locs cells slots lsM stM hc hd hls hs hw hS hk1 hk2
  obtain ⟨hx, hb, hr0, hts, hown, hlk, hml, hrf, hrl, hbs, hsp, -⟩ := id hc
  obtain ⟨_, t1, rfl, ⟨a, hqa, rfl⟩, hs⟩ := hs
  obtain ⟨ws, tys, g1, g2, g3, g4, g5, g6, g7, g8, g9, g10, g11⟩ := id hw
  obtain ⟨j, en, hj, hjw, hce⟩ := wr_cell (D := D) (base := base) (b := b) (U := s) (H := H) g1 g6 g7 g8 (by rw [hq]; show 22 ≠ 99; omega) (by rw [hq]; show 22 ≠ 0; omega) hqa
  obtain ⟨cA, f, rfl, ⟨t0', ht0⟩, hf⟩ := hce.2.2.2.1 (by rw [hq])
  rw [hq] at hjw
  refine va_alen (s := s.setDrawn d0) (D := D) hx hb g4 g3 j t0' hjw ht0 rfl hdg ?_
  exact kk p l e R s m args below meth c D base b al0 l0 d0 H locs cells slots lsM _ hc hd hls ⟨_, _, rfl, rfl, hs⟩ hw hS hk1 hk2

theorem pw_alenR {q n : Nat} {ci : Nat} (hdg : decode cc pc = .ok (.arraylength, 1)) (hq : σ.2.1 q = (ci + 30, n)) (hci : ci < 9) (kk : PW cc Y Z (pc + 1) ls (.int (Int32.ofNat n) :: st) σ I F β) : PW cc Y Z pc ls (.ref q :: st) σ I F β := by
  intro p l e R s m args below meth c D base b al0 l0 d0 H locs cells slots lsM stM hc hd hls hs hw hS hk1 hk2
  obtain ⟨hx, hb, hr0, hts, hown, hlk, hml, hrf, hrl, hbs, hsp, -⟩ := id hc
  obtain ⟨_, t1, rfl, ⟨a, hqa, rfl⟩, hs⟩ := hs
  obtain ⟨ws, tys, g1, g2, g3, g4, g5, g6, g7, g8, g9, g10, g11⟩ := id hw
  obtain ⟨j, en, hj, hjw, hce⟩ := wr_cell (D := D) (base := base) (b := b) (U := s) (H := H) g1 g6 g7 g8 (by rw [hq]; show ci + 30 ≠ 99; omega) (by rw [hq]; show ci + 30 ≠ 0; omega) hqa
  obtain ⟨cA, f, rfl, ⟨t0', ht0⟩, hf⟩ := hce.2.2.2.2 ci (by rw [hq]) hci
  rw [hq] at hjw
  refine va_alen (s := s.setDrawn d0) (D := D) hx hb g4 g3 j t0' hjw ht0 rfl hdg ?_
  exact kk p l e R s m args below meth c D base b al0 l0 d0 H locs cells slots lsM _ hc hd hls ⟨_, _, rfl, rfl, hs⟩ hw hS hk1 hk2

theorem pw_iast {q n : Nat} {i : Int32} {x : Int32} (hdg : decode cc pc = .ok (.iastore, 1)) (hq : σ.2.1 q = (20, n)) (hin : vp_in i n) (kk : PW cc Y Z (pc + 1) ls st σ (up2 I q i.toNatClampNeg x) F β) : PW cc Y Z pc ls (.int x :: .int i :: .ref q :: st) σ I F β := by
  intro p l e R s m args below meth c D base b al0 l0 d0 H locs cells slots lsM stM hc hd hls hs hw hS hk1 hk2
  obtain ⟨hx, hb, hr0, hts, hown, hlk, hml, hrf, hrl, hbs, hsp, -⟩ := id hc
  obtain ⟨_, t9, rfl, rfl, hs⟩ := hs
  obtain ⟨_, t0, rfl, rfl, hs⟩ := hs
  obtain ⟨_, t1, rfl, ⟨a, hqa, rfl⟩, hs⟩ := hs
  obtain ⟨ws, tys, g1, g2, g3, g4, g5, g6, g7, g8, g9, g10, g11⟩ := id hw
  obtain ⟨j, en, hj, hjw, hce⟩ := wr_cell (D := D) (base := base) (b := b) (U := s) (H := H) g1 g6 g7 g8 (by rw [hq]; show 20 ≠ 99; omega) (by rw [hq]; show 20 ≠ 0; omega) hqa
  obtain ⟨cA, f, rfl, ⟨t0', ht0⟩, hf⟩ := hce.2.1 (by rw [hq])
  rw [hq] at hjw hf
  refine va_iast (s := s.setDrawn d0) (D := D) hx hb g4 g3 g5 hS j t0' hjw ht0 hin hdg (fun H1 locs1 hP1 hD1 hS1 => ?_)
  subst hj
  refine kk p l e R s m args below meth c D base b al0 l0 d0 H1 locs1 cells slots lsM _ hc hd hls hs (wr_set (σ' := σ) (I' := up2 I (j + 1) i.toNatClampNeg x) (F' := F) g1 g2 g4 g6 g7 g8 g9 hbs g11 hjw hP1 hD1 hS hS1 rfl rfl ?_ ?_ ?_ ?_) hS1 hk1 hk2
  · intro q9 h9; rfl
  · intro q9 h9; exact up2_row h9
  · intro q9 h9; rfl
  · refine ⟨fun c h1 _ => by exfalso; (try dsimp only at h1); rw [hq] at h1; (try dsimp only at h1); omega, fun h1 => ?_, fun h1 => ?_, fun h1 => ?_, fun c h1 h2 => ?_⟩
    · rw [hq]; exact ⟨cA, _, rfl, ⟨t0', ht0⟩, fun k hk => by simp only [upd, up2, true_and]; split <;> first | rfl | exact hf k hk⟩
    · exfalso; (try dsimp only at h1); rw [hq] at h1; (try dsimp only at h1); omega
    · exfalso; (try dsimp only at h1); rw [hq] at h1; (try dsimp only at h1); omega
    · exfalso; (try dsimp only at h1); rw [hq] at h1; (try dsimp only at h1); omega


theorem pw_cast {q n : Nat} {i : Int32} {x : Int32} (hdg : decode cc pc = .ok (.castore, 1)) (hq : σ.2.1 q = (21, n)) (hin : vp_in i n) (kk : PW cc Y Z (pc + 1) ls st σ (up2 I q i.toNatClampNeg (vp_nar .char x)) F β) : PW cc Y Z pc ls (.int x :: .int i :: .ref q :: st) σ I F β := by
  intro p l e R s m args below meth c D base b al0 l0 d0 H locs cells slots lsM stM hc hd hls hs hw hS hk1 hk2
  obtain ⟨hx, hb, hr0, hts, hown, hlk, hml, hrf, hrl, hbs, hsp, -⟩ := id hc
  obtain ⟨_, t9, rfl, rfl, hs⟩ := hs
  obtain ⟨_, t0, rfl, rfl, hs⟩ := hs
  obtain ⟨_, t1, rfl, ⟨a, hqa, rfl⟩, hs⟩ := hs
  obtain ⟨ws, tys, g1, g2, g3, g4, g5, g6, g7, g8, g9, g10, g11⟩ := id hw
  obtain ⟨j, en, hj, hjw, hce⟩ := wr_cell (D := D) (base := base) (b := b) (U := s) (H := H) g1 g6 g7 g8 (by rw [hq]; show 21 ≠ 99; omega) (by rw [hq]; show 21 ≠ 0; omega) hqa
  obtain ⟨cA, f, rfl, ⟨t0', ht0⟩, hf⟩ := hce.2.2.1 (by rw [hq])
  rw [hq] at hjw hf
  refine va_cast (s := s.setDrawn d0) (D := D) hx hb g4 g3 g5 hS j t0' hjw ht0 hin hdg (fun H1 locs1 hP1 hD1 hS1 => ?_)
  subst hj
  refine kk p l e R s m args below meth c D base b al0 l0 d0 H1 locs1 cells slots lsM _ hc hd hls hs (wr_set (σ' := σ) (I' := up2 I (j + 1) i.toNatClampNeg (vp_nar .char x)) (F' := F) g1 g2 g4 g6 g7 g8 g9 hbs g11 hjw hP1 hD1 hS hS1 rfl rfl ?_ ?_ ?_ ?_) hS1 hk1 hk2
  · intro q9 h9; rfl
  · intro q9 h9; exact up2_row h9
  · intro q9 h9; rfl
  · refine ⟨fun c h1 _ => by exfalso; (try dsimp only at h1); rw [hq] at h1; (try dsimp only at h1); omega, fun h1 => ?_, fun h1 => ?_, fun h1 => ?_, fun c h1 h2 => ?_⟩
    · exfalso; (try dsimp only at h1); rw [hq] at h1; (try dsimp only at h1); omega
    · rw [hq]; exact ⟨cA, _, rfl, ⟨t0', ht0⟩, fun k hk => by simp only [upd, up2, true_and]; split <;> first | rfl | exact hf k hk⟩
    · exfalso; (try dsimp only at h1); rw [hq] at h1; (try dsimp only at h1); omega
    · exfalso; (try dsimp only at h1); rw [hq] at h1; (try dsimp only at h1); omega


theorem pw_fast {q n : Nat} {i : Int32} {x : UInt32} (hdg : decode cc pc = .ok (.fastore, 1)) (hq : σ.2.1 q = (22, n)) (hin : vp_in i n) (kk : PW cc Y Z (pc + 1) ls st σ I (up2 F q i.toNatClampNeg x) β) : PW cc Y Z pc ls (.float x :: .int i :: .ref q :: st) σ I F β := by
  intro p l e R s m args below meth c D base b al0 l0 d0 H locs cells slots lsM stM hc hd hls hs hw hS hk1 hk2
  obtain ⟨hx, hb, hr0, hts, hown, hlk, hml, hrf, hrl, hbs, hsp, -⟩ := id hc
  obtain ⟨_, t9, rfl, ⟨x', rfl, hx'⟩, hs⟩ := hs
  obtain ⟨_, t0, rfl, rfl, hs⟩ := hs
  obtain ⟨_, t1, rfl, ⟨a, hqa, rfl⟩, hs⟩ := hs
  obtain ⟨ws, tys, g1, g2, g3, g4, g5, g6, g7, g8, g9, g10, g11⟩ := id hw
  obtain ⟨j, en, hj, hjw, hce⟩ := wr_cell (D := D) (base := base) (b := b) (U := s) (H := H) g1 g6 g7 g8 (by rw [hq]; show 22 ≠ 99; omega) (by rw [hq]; show 22 ≠ 0; omega) hqa
  obtain ⟨cA, f, rfl, ⟨t0', ht0⟩, hf⟩ := hce.2.2.2.1 (by rw [hq])
  rw [hq] at hjw hf
  refine va_fast (s := s.setDrawn d0) (D := D) hx hb g4 g3 g5 hS j t0' hjw ht0 hin hdg (fun H1 locs1 hP1 hD1 hS1 => ?_)
  subst hj
  refine kk p l e R s m args below meth c D base b al0 l0 d0 H1 locs1 cells slots lsM _ hc hd hls hs (wr_set (σ' := σ) (I' := I) (F' := up2 F (j + 1) i.toNatClampNeg x) g1 g2 g4 g6 g7 g8 g9 hbs g11 hjw hP1 hD1 hS hS1 rfl rfl ?_ ?_ ?_ ?_) hS1 hk1 hk2
  · intro q9 h9; rfl
  · intro q9 h9; rfl
  · intro q9 h9; exact up2_row h9
  · refine ⟨fun c h1 _ => by exfalso; (try dsimp only at h1); rw [hq] at h1; (try dsimp only at h1); omega, fun h1 => ?_, fun h1 => ?_, fun h1 => ?_, fun c h1 h2 => ?_⟩
    · exfalso; (try dsimp only at h1); rw [hq] at h1; (try dsimp only at h1); omega
    · exfalso; (try dsimp only at h1); rw [hq] at h1; (try dsimp only at h1); omega
    · rw [hq]; exact ⟨cA, _, rfl, ⟨t0', ht0⟩, fun k hk => by simp only [vf_upd, up2, true_and]; split <;> first | exact hx' | exact hf k hk⟩
    · exfalso; (try dsimp only at h1); rw [hq] at h1; (try dsimp only at h1); omega


theorem pw_aast {q n : Nat} {i : Int32} {x : Nat} {ci : Nat} (hdg : decode cc pc = .ok (.aastore, 1)) (hq : σ.2.1 q = (ci + 30, n)) (hin : vp_in i n) (hci : ci < 9) (hxk : (σ.2.1 x).1 = ci + 1) (kk : PW cc Y Z (pc + 1) ls st (σ.1, σ.2.1, up2 σ.2.2 q i.toNatClampNeg (some x)) I F β) : PW cc Y Z pc ls (.ref x :: .int i :: .ref q :: st) σ I F β := by
  intro p l e R s m args below meth c D base b al0 l0 d0 H locs cells slots lsM stM hc hd hls hs hw hS hk1 hk2
  obtain ⟨hx, hb, hr0, hts, hown, hlk, hml, hrf, hrl, hbs, hsp, -⟩ := id hc
  obtain ⟨_, t9, rfl, ⟨xa, hxa, rfl⟩, hs⟩ := hs
  obtain ⟨_, t0, rfl, rfl, hs⟩ := hs
  obtain ⟨_, t1, rfl, ⟨a, hqa, rfl⟩, hs⟩ := hs
  obtain ⟨ws, tys, g1, g2, g3, g4, g5, g6, g7, g8, g9, g10, g11⟩ := id hw
  obtain ⟨j, en, hj, hjw, hce⟩ := wr_cell (D := D) (base := base) (b := b) (U := s) (H := H) g1 g6 g7 g8 (by rw [hq]; show ci + 30 ≠ 99; omega) (by rw [hq]; show ci + 30 ≠ 0; omega) hqa
  obtain ⟨cA, f, rfl, ⟨t0', ht0⟩, hf⟩ := hce.2.2.2.2 ci (by rw [hq]) hci
  rw [hq] at hjw hf
  obtain ⟨jx, enx, hjx, hjwx, hcex⟩ := wr_cell (D := D) (base := base) (b := b) (U := s) (H := H) g1 g6 g7 g8 (by rw [hxk]; omega) (by rw [hxk]; omega) hxa
  obtain ⟨fsx, rfl, -⟩ := hcex.1 ci hxk hci
  obtain ⟨rr, hrr, hrn⟩ : ∃ rr : vw_C, vwCl[ci]? = some rr ∧ rr.1 = cnm ci := vw_at hci
  refine va_astq (s := s.setDrawn d0) (D := D) hx hb g4 g3 g5 hS j t0' jx ci (r := rr) hjw (by rw [hrn]; exact ht0) hjwx hrr hin hdg (fun H1 locs1 hP1 hD1 hS1 => ?_)
  subst hj
  refine kk p l e R s m args below meth c D base b al0 l0 d0 H1 locs1 cells slots lsM _ hc hd hls hs (wr_set (σ' := (σ.1, σ.2.1, up2 σ.2.2 (j + 1) i.toNatClampNeg (some x))) (I' := I) (F' := F) g1 g2 g4 g6 g7 g8 g9 hbs g11 hjw hP1 hD1 hS hS1 rfl rfl ?_ ?_ ?_ ?_) hS1 hk1 hk2
  · intro q9 h9; exact up2_row h9
  · intro q9 h9; rfl
  · intro q9 h9; rfl
  · refine ⟨fun c h1 _ => by exfalso; (try dsimp only at h1); rw [hq] at h1; (try dsimp only at h1); omega, fun h1 => ?_, fun h1 => ?_, fun h1 => ?_, fun c h1 h2 => ?_⟩
    · exfalso; (try dsimp only at h1); rw [hq] at h1; (try dsimp only at h1); omega
    · exfalso; (try dsimp only at h1); rw [hq] at h1; (try dsimp only at h1); omega
    · exfalso; (try dsimp only at h1); rw [hq] at h1; (try dsimp only at h1); omega
    · (try dsimp only at h1); rw [hq] at h1; (try dsimp only at h1)
      have hcc : ci = c := by omega
      subst hcc
      (try dsimp only); rw [hq]
      exact ⟨cA, _, rfl, ⟨t0', ht0⟩, fun k hk => by simp only [va_up, up2, true_and]; split <;> first | exact ⟨xa, hxa, rfl⟩ | exact hf k hk⟩


end PR
end
section
/-! cells that are made -/
def upr {α : Type} (f : Nat → α) (q : Nat) (r : α) : Nat → α := fun j => if j = q then r else f j
theorem upr_s {α : Type} {f : Nat → α} {q : Nat} {r : α} : upr f q r q = r := by simp [upr]
theorem upr_n {α : Type} {f : Nat → α} {q j : Nat} {r : α} (h : j ≠ q) : upr f q r j = f j := by simp [upr, h]
/-- the world with one cell more -/
abbrev σnew (σ : pT) (k n : Nat) : pT := (σ.1 + 1, upr σ.2.1 (σ.1 + 1) (k, n), upr σ.2.2 (σ.1 + 1) (fun _ => none))
abbrev Inew (σ : pT) (I : pI) : pI := upr I (σ.1 + 1) (fun _ => 0)
abbrev Fnew (σ : pT) (F : pF) : pF := upr F (σ.1 + 1) (fun _ => 0)
def dfl (ci : Nat) : List Value := (List.range (fN ci)).map fun k => defaultValue (fty ci k)
theorem dfl_at {ci k : Nat} (h : k < fN ci) : (dfl ci)[k]? = some (defaultValue (fty ci k)) := by
  unfold dfl
  rw [List.getElem?_map, List.getElem?_range h]
  rfl
theorem dfl_V {ci k : Nat} (h : k < fN ci) : defaultValue (fty ci k) = vp_V (dfl ci) k := by
  unfold vp_V
  rw [List.getD_eq_getElem?_getD, dfl_at h]
  rfl
theorem fty_ok (ci k : Nat) : fty ci k ≠ .long ∧ fty ci k ≠ .double := by
  unfold fty
  split <;> first | (unfold tyX0; split <;> exact ⟨by decide, by decide⟩) | (unfold tyX1; split <;> exact ⟨by decide, by decide⟩) | (unfold tyX2; split <;> exact ⟨by decide, by decide⟩) | (unfold tyX3; split <;> exact ⟨by decide, by decide⟩) | (unfold tyX4; split <;> exact ⟨by decide, by decide⟩) | (unfold tyX5; split <;> exact ⟨by decide, by decide⟩) | (unfold tyX6; split <;> exact ⟨by decide, by decide⟩) | (unfold tyX7; split <;> exact ⟨by decide, by decide⟩) | (unfold tyX8; split <;> exact ⟨by decide, by decide⟩)
theorem fv_new {al : List Nat} {σ : pT} {I : pI} {F : pF} {kd n ci k : Nat} : vr al (fv (σnew σ kd n) (Inew σ I) (Fnew σ F) ci (σ.1 + 1) k) (defaultValue (fty ci k)) := by
  have hok := fty_ok ci k
  unfold fv
  generalize fty ci k = t at hok
  cases t <;> simp only [upr_s, σnew, Inew, Fnew, rv, vr, defaultValue]
  · exact absurd rfl hok.2
  · exact ⟨_, rfl, alike32_refl _⟩
  · exact absurd rfl hok.1
section PA
variable {cc : ByteArray} {Y : mB} {Z : pZ} {pc : Nat} {ls st : List Value} {σ : pT} {I : pI} {F : pF} {β : Nat × Nat}

theorem pw_fconst0 (hdg : decode cc pc = .ok (.fconst 0, 1)) (k : PW cc Y Z (pc + 1) ls (.float FP.fconst0 :: st) σ I F β) : PW cc Y Z pc ls st σ I F β := by
  intro p l e R s m args below meth c D base b al0 l0 d0 H locs cells slots lsM stM hc hd hls hs hw hS hk1 hk2
  obtain ⟨hx, hb, hr0, hts, hown, hlk, hml, hrf, hrl, hbs, hsp, -⟩ := id hc
  exact lv_fconst0 hx hb hdg (k p l e R s m args below meth c D base b al0 l0 d0 H locs cells slots lsM _ hc hd hls ⟨_, _, rfl, ⟨_, rfl, alike32_refl _⟩, hs⟩ hw hS hk1 hk2)

theorem pw_fconst1 (hdg : decode cc pc = .ok (.fconst 1, 1)) (k : PW cc Y Z (pc + 1) ls (.float FP.fconst1 :: st) σ I F β) : PW cc Y Z pc ls st σ I F β := by
  intro p l e R s m args below meth c D base b al0 l0 d0 H locs cells slots lsM stM hc hd hls hs hw hS hk1 hk2
  obtain ⟨hx, hb, hr0, hts, hown, hlk, hml, hrf, hrl, hbs, hsp, -⟩ := id hc
  exact lv_fconst1 hx hb hdg (k p l e R s m args below meth c D base b al0 l0 d0 H locs cells slots lsM _ hc hd hls ⟨_, _, rfl, ⟨_, rfl, alike32_refl _⟩, hs⟩ hw hS hk1 hk2)

theorem pw_new {idx ci i9 k9 : Nat} {own9 : String} (hdg : decode cc pc = .ok (.new idx, 3)) (hci : ci < 9) (hf : fdOK own9 i9 ci k9) (hcl : Cond.classLink Y.1 idx (cnm ci) ∈ wsA) (hin : Cond.instantiable (cnm ci) (fN ci) ∈ wsA) (hini : Cond.initialized (cnm ci) ∈ wsA) (hβ : 1 ≤ β.1 ∧ fN ci ≤ β.2) (kk : PW cc Y Z (pc + 3) ls (.ref (σ.1 + 1) :: st) (σnew σ (ci + 1) (fN ci)) (Inew σ I) (Fnew σ F) (β.1 - 1, β.2 - fN ci)) : PW cc Y Z pc ls st σ I F β := by
  intro p l e R s m args below meth c D base b al0 l0 d0 H locs cells slots lsM stM hc hd hls hs hw hS hk1 hk2
  obtain ⟨hx, hb, hr0, hts, hown, hlk, hml, hrf, hrl, hbs, hsp, -⟩ := id hc
  obtain ⟨ws, tys, g1, g2, g3, g4, g5, g6, g7, g8, g9, g10, g11⟩ := id hw
  obtain ⟨C, T, f1, f2, f3, f4, f5, f6⟩ := hf
  obtain ⟨rr, hrr, hrn⟩ := vw_at hci
  rw [f1] at hrr
  cases hrr
  have hrn : C = cnm ci := hrn
  subst hrn
  refine va_new (s := s.setDrawn d0) (D := D) (A := fun q : Nat => base ≤ q) (fs := dfl ci) hx hb (dr_words hts d0) f2 (fty ci) f4 hown (dr_words hts d0 _ hcl) (dr_words hts d0 _ hin) (dr_words hts d0 _ hini) g4 g3 g5 hS (fun q9 h9 => Nat.le_trans hbs h9) f1 (fun j hj => dfl_V hj) (by omega) (by omega) hdg (fun q H1 hP1 hD1 hS1 => ?_)
  have hce : ce ((al0 ++ l0) ++ [q]) (tys ++ []) (σnew σ (ci + 1) (fN ci)) (Inew σ I) (Fnew σ F) (σ.1 + 1) (.inr (ci, dfl ci)) := by
    have hk0 : (σnew σ (ci + 1) (fN ci)).2.1 (σ.1 + 1) = ((ci + 1), (fN ci)) := upr_s
    refine ⟨fun c h1 h2 => ?_, fun h1 => ?_, fun h1 => ?_, fun h1 => ?_, fun c h1 h2 => ?_⟩
    · rw [hk0] at h1; have hcc : ci = c := by (try dsimp only at h1); omega
      subst hcc
      exact ⟨_, rfl, fun k hk => ⟨_, dfl_at hk, fv_new⟩⟩
    · exfalso; rw [hk0] at h1; (try dsimp only at h1); omega
    · exfalso; rw [hk0] at h1; (try dsimp only at h1); omega
    · exfalso; rw [hk0] at h1; (try dsimp only at h1); omega
    · exfalso; rw [hk0] at h1; (try dsimp only at h1); omega
  obtain ⟨hw1, hq1⟩ := wr_push (σ' := σnew σ (ci + 1) (fN ci)) (I' := Inew σ I) (F' := Fnew σ F) (ts := []) g1 g2 g6 g7 g8 g9 hbs g11 (by rw [List.append_nil]; exact g4) hP1 hD1 hS hS1 rfl (fun q9 h9 => upr_n h9) (fun q9 h9 => upr_n h9) (fun q9 h9 => upr_n h9) (fun q9 h9 => upr_n h9) hce
  rw [List.append_assoc] at hw1 hq1
  refine kk p l e R s m args below meth c D base b al0 (l0 ++ [q]) d0 H1 locs _ _ lsM _ hc hd (by rw [← List.append_assoc]; exact lr_app hls) ⟨_, _, rfl, ⟨q, hq1, rfl⟩, by rw [← List.append_assoc]; exact sr_app hs⟩ hw1 hS1 ?_ ?_
  · show cells + 1 + (β.1 - 1) ≤ _; omega
  · show slots + fN ci + (β.2 - fN ci) ≤ _; omega

theorem pw_newI {n : Int32} {N : Nat} (hdg : decode cc pc = .ok (.newarray .int, 2)) (hac : Cond.arrayClass .int ∈ wsA) (hn : ¬ n < 0) (hN : n.toNatClampNeg = N) (hN2 : N ≤ 100000) (hβ : 1 ≤ β.1 ∧ N ≤ β.2) (kk : PW cc Y Z (pc + 2) ls (.ref (σ.1 + 1) :: st) (σnew σ 20 N) (Inew σ I) (Fnew σ F) (β.1 - 1, β.2 - N)) : PW cc Y Z pc ls (.int n :: st) σ I F β := by
  intro p l e R s m args below meth c D base b al0 l0 d0 H locs cells slots lsM stM hc hd hls hs hw hS hk1 hk2
  obtain ⟨hx, hb, hr0, hts, hown, hlk, hml, hrf, hrl, hbs, hsp, -⟩ := id hc
  obtain ⟨_, t0, rfl, rfl, hs⟩ := hs
  obtain ⟨ws, tys, g1, g2, g3, g4, g5, g6, g7, g8, g9, g10, g11⟩ := id hw
  refine va_newa (s := s.setDrawn d0) (D := D) (A := fun q : Nat => base ≤ q) (atype := .int) (a0 := (N, .inl (fun _ => 0))) hx hb (dr_words hts d0 _ hac) rfl g4 g3 g5 hS (fun q9 h9 => Nat.le_trans hbs h9) (fun cA => rfl) hn hN (by show N * 4 ≤ _; omega) (by omega) (by omega) hdg (fun q cA H1 hK1 hP1 hD1 hS1 => ?_)
  have hce : ce ((al0 ++ l0) ++ [q]) (tys ++ [(cA, .int)]) (σnew σ 20 N) (Inew σ I) (Fnew σ F) (σ.1 + 1) (.inl (cA, N, .inl (fun _ => 0))) := by
    have hk0 : (σnew σ 20 N).2.1 (σ.1 + 1) = (20, N) := upr_s
    refine ⟨fun c h1 h2 => ?_, fun h1 => ?_, fun h1 => ?_, fun h1 => ?_, fun c h1 h2 => ?_⟩
    · exfalso; rw [hk0] at h1; (try dsimp only at h1); omega
    · exact ⟨cA, _, by rw [hk0], ⟨tys.length, by simp⟩, fun k hk => by simp [Inew, upr_s]⟩
    · exfalso; rw [hk0] at h1; (try dsimp only at h1); omega
    · exfalso; rw [hk0] at h1; (try dsimp only at h1); omega
    · exfalso; rw [hk0] at h1; (try dsimp only at h1); omega
  obtain ⟨hw1, hq1⟩ := wr_push (σ' := σnew σ 20 N) (I' := Inew σ I) (F' := Fnew σ F) (ts := [(cA, .int)]) g1 g2 g6 g7 g8 g9 hbs g11 hK1 hP1 hD1 hS hS1 rfl (fun q9 h9 => upr_n h9) (fun q9 h9 => upr_n h9) (fun q9 h9 => upr_n h9) (fun q9 h9 => upr_n h9) hce
  rw [List.append_assoc] at hw1 hq1
  refine kk p l e R s m args below meth c D base b al0 (l0 ++ [q]) d0 H1 locs _ _ lsM _ hc hd (by rw [← List.append_assoc]; exact lr_app hls) ⟨_, _, rfl, ⟨q, hq1, rfl⟩, by rw [← List.append_assoc]; exact sr_app hs⟩ hw1 hS1 ?_ ?_
  · show cells + 1 + (β.1 - 1) ≤ _; omega
  · show slots + N + (β.2 - N) ≤ _; omega

theorem pw_newC {n : Int32} {N : Nat} (hdg : decode cc pc = .ok (.newarray .char, 2)) (hac : Cond.arrayClass .char ∈ wsA) (hn : ¬ n < 0) (hN : n.toNatClampNeg = N) (hN2 : N ≤ 100000) (hβ : 1 ≤ β.1 ∧ N ≤ β.2) (kk : PW cc Y Z (pc + 2) ls (.ref (σ.1 + 1) :: st) (σnew σ 21 N) (Inew σ I) (Fnew σ F) (β.1 - 1, β.2 - N)) : PW cc Y Z pc ls (.int n :: st) σ I F β := by
  intro p l e R s m args below meth c D base b al0 l0 d0 H locs cells slots lsM stM hc hd hls hs hw hS hk1 hk2
  obtain ⟨hx, hb, hr0, hts, hown, hlk, hml, hrf, hrl, hbs, hsp, -⟩ := id hc
  obtain ⟨_, t0, rfl, rfl, hs⟩ := hs
  obtain ⟨ws, tys, g1, g2, g3, g4, g5, g6, g7, g8, g9, g10, g11⟩ := id hw
  refine va_newa (s := s.setDrawn d0) (D := D) (A := fun q : Nat => base ≤ q) (atype := .char) (a0 := (N, .inl (fun _ => 0))) hx hb (dr_words hts d0 _ hac) rfl g4 g3 g5 hS (fun q9 h9 => Nat.le_trans hbs h9) (fun cA => rfl) hn hN (by show N * 2 ≤ _; omega) (by omega) (by omega) hdg (fun q cA H1 hK1 hP1 hD1 hS1 => ?_)
  have hce : ce ((al0 ++ l0) ++ [q]) (tys ++ [(cA, .char)]) (σnew σ 21 N) (Inew σ I) (Fnew σ F) (σ.1 + 1) (.inl (cA, N, .inl (fun _ => 0))) := by
    have hk0 : (σnew σ 21 N).2.1 (σ.1 + 1) = (21, N) := upr_s
    refine ⟨fun c h1 h2 => ?_, fun h1 => ?_, fun h1 => ?_, fun h1 => ?_, fun c h1 h2 => ?_⟩
    · exfalso; rw [hk0] at h1; (try dsimp only at h1); omega
    · exfalso; rw [hk0] at h1; (try dsimp only at h1); omega
    · exact ⟨cA, _, by rw [hk0], ⟨tys.length, by simp⟩, fun k hk => by simp [Inew, upr_s]⟩
    · exfalso; rw [hk0] at h1; (try dsimp only at h1); omega
    · exfalso; rw [hk0] at h1; (try dsimp only at h1); omega
  obtain ⟨hw1, hq1⟩ := wr_push (σ' := σnew σ 21 N) (I' := Inew σ I) (F' := Fnew σ F) (ts := [(cA, .char)]) g1 g2 g6 g7 g8 g9 hbs g11 hK1 hP1 hD1 hS hS1 rfl (fun q9 h9 => upr_n h9) (fun q9 h9 => upr_n h9) (fun q9 h9 => upr_n h9) (fun q9 h9 => upr_n h9) hce
  rw [List.append_assoc] at hw1 hq1
  refine kk p l e R s m args below meth c D base b al0 (l0 ++ [q]) d0 H1 locs _ _ lsM _ hc hd (by rw [← List.append_assoc]; exact lr_app hls) ⟨_, _, rfl, ⟨q, hq1, rfl⟩, by rw [← List.append_assoc]; exact sr_app hs⟩ hw1 hS1 ?_ ?_
  · show cells + 1 + (β.1 - 1) ≤ _; omega
  · show slots + N + (β.2 - N) ≤ _; omega

theorem pw_newF {n : Int32} {N : Nat} (hdg : decode cc pc = .ok (.newarray .float, 2)) (hac : Cond.arrayClass .float ∈ wsA) (hn : ¬ n < 0) (hN : n.toNatClampNeg = N) (hN2 : N ≤ 100000) (hβ : 1 ≤ β.1 ∧ N ≤ β.2) (kk : PW cc Y Z (pc + 2) ls (.ref (σ.1 + 1) :: st) (σnew σ 22 N) (Inew σ I) (Fnew σ F) (β.1 - 1, β.2 - N)) : PW cc Y Z pc ls (.int n :: st) σ I F β := by
  intro p l e R s m args below meth c D base b al0 l0 d0 H locs cells slots lsM stM hc hd hls hs hw hS hk1 hk2
  obtain ⟨hx, hb, hr0, hts, hown, hlk, hml, hrf, hrl, hbs, hsp, -⟩ := id hc
  obtain ⟨_, t0, rfl, rfl, hs⟩ := hs
  obtain ⟨ws, tys, g1, g2, g3, g4, g5, g6, g7, g8, g9, g10, g11⟩ := id hw
  refine va_newa (s := s.setDrawn d0) (D := D) (A := fun q : Nat => base ≤ q) (atype := .float) (a0 := (N, .inr (.inr (.inl (fun _ => 0))))) hx hb (dr_words hts d0 _ hac) rfl g4 g3 g5 hS (fun q9 h9 => Nat.le_trans hbs h9) (fun cA => rfl) hn hN (by show N * 4 ≤ _; omega) (by omega) (by omega) hdg (fun q cA H1 hK1 hP1 hD1 hS1 => ?_)
  have hce : ce ((al0 ++ l0) ++ [q]) (tys ++ [(cA, .float)]) (σnew σ 22 N) (Inew σ I) (Fnew σ F) (σ.1 + 1) (.inl (cA, N, .inr (.inr (.inl (fun _ => 0))))) := by
    have hk0 : (σnew σ 22 N).2.1 (σ.1 + 1) = (22, N) := upr_s
    refine ⟨fun c h1 h2 => ?_, fun h1 => ?_, fun h1 => ?_, fun h1 => ?_, fun c h1 h2 => ?_⟩
    · exfalso; rw [hk0] at h1; (try dsimp only at h1); omega
    · exfalso; rw [hk0] at h1; (try dsimp only at h1); omega
    · exfalso; rw [hk0] at h1; (try dsimp only at h1); omega
    · exact ⟨cA, _, by rw [hk0], ⟨tys.length, by simp⟩, fun k hk => by simp [Fnew, upr_s, alike32_refl]⟩
    · exfalso; rw [hk0] at h1; (try dsimp only at h1); omega
  obtain ⟨hw1, hq1⟩ := wr_push (σ' := σnew σ 22 N) (I' := Inew σ I) (F' := Fnew σ F) (ts := [(cA, .float)]) g1 g2 g6 g7 g8 g9 hbs g11 hK1 hP1 hD1 hS hS1 rfl (fun q9 h9 => upr_n h9) (fun q9 h9 => upr_n h9) (fun q9 h9 => upr_n h9) (fun q9 h9 => upr_n h9) hce
  rw [List.append_assoc] at hw1 hq1
  refine kk p l e R s m args below meth c D base b al0 (l0 ++ [q]) d0 H1 locs _ _ lsM _ hc hd (by rw [← List.append_assoc]; exact lr_app hls) ⟨_, _, rfl, ⟨q, hq1, rfl⟩, by rw [← List.append_assoc]; exact sr_app hs⟩ hw1 hS1 ?_ ?_
  · show cells + 1 + (β.1 - 1) ≤ _; omega
  · show slots + N + (β.2 - N) ≤ _; omega

theorem pw_newA {idx ci N : Nat} {n : Int32} (hdg : decode cc pc = .ok (.anewarray idx, 3)) (hci : ci < 9) (hcl : Cond.classLink Y.1 idx (cnm ci) ∈ wsA) (hao : cnm ci ∈ spA) (hn : ¬ n < 0) (hN : n.toNatClampNeg = N) (hN2 : N ≤ 100000) (hβ : 1 ≤ β.1 ∧ N ≤ β.2) (kk : PW cc Y Z (pc + 3) ls (.ref (σ.1 + 1) :: st) (σnew σ (ci + 30) N) (Inew σ I) (Fnew σ F) (β.1 - 1, β.2 - N)) : PW cc Y Z pc ls (.int n :: st) σ I F β := by
  intro p l e R s m args below meth c D base b al0 l0 d0 H locs cells slots lsM stM hc hd hls hs hw hS hk1 hk2
  obtain ⟨hx, hb, hr0, hts, hown, hlk, hml, hrf, hrl, hbs, hsp, -⟩ := id hc
  obtain ⟨_, t0, rfl, rfl, hs⟩ := hs
  obtain ⟨ws, tys, g1, g2, g3, g4, g5, g6, g7, g8, g9, g10, g11⟩ := id hw
  refine va_newq (s := s.setDrawn d0) (D := D) (A := fun q : Nat => base ≤ q) (C := cnm ci) hx hb hown (dr_words hts d0 _ hcl) ((spW_vm (u := s) (U := s.setDrawn d0) rfl hsp).2 _ hao) g4 g3 g5 hS (fun q9 h9 => Nat.le_trans hbs h9) hn hN (by omega) (by omega) (by omega) hdg (fun q cA H1 hK1 hP1 hD1 hS1 => ?_)
  have hce : ce ((al0 ++ l0) ++ [q]) (tys ++ [(cA, .object (cnm ci))]) (σnew σ (ci + 30) N) (Inew σ I) (Fnew σ F) (σ.1 + 1) (.inl (cA, N, .inr (.inr (.inr (.inr (fun _ => none)))))) := by
    have hk0 : (σnew σ (ci + 30) N).2.1 (σ.1 + 1) = ((ci + 30), N) := upr_s
    refine ⟨fun c h1 h2 => ?_, fun h1 => ?_, fun h1 => ?_, fun h1 => ?_, fun c h1 h2 => ?_⟩
    · exfalso; rw [hk0] at h1; (try dsimp only at h1); omega
    · exfalso; rw [hk0] at h1; (try dsimp only at h1); omega
    · exfalso; rw [hk0] at h1; (try dsimp only at h1); omega
    · exfalso; rw [hk0] at h1; (try dsimp only at h1); omega
    · rw [hk0] at h1; have hcc : ci = c := by (try dsimp only at h1); omega
      subst hcc
      refine ⟨cA, _, by rw [hk0], ⟨tys.length, by simp⟩, fun k hk => ?_⟩
      simp only [σnew, upr_s, rv, va_rf, vr]
  obtain ⟨hw1, hq1⟩ := wr_push (σ' := σnew σ (ci + 30) N) (I' := Inew σ I) (F' := Fnew σ F) (ts := [(cA, .object (cnm ci))]) g1 g2 g6 g7 g8 g9 hbs g11 hK1 hP1 hD1 hS hS1 rfl (fun q9 h9 => upr_n h9) (fun q9 h9 => upr_n h9) (fun q9 h9 => upr_n h9) (fun q9 h9 => upr_n h9) hce
  rw [List.append_assoc] at hw1 hq1
  refine kk p l e R s m args below meth c D base b al0 (l0 ++ [q]) d0 H1 locs _ _ lsM _ hc hd (by rw [← List.append_assoc]; exact lr_app hls) ⟨_, _, rfl, ⟨q, hq1, rfl⟩, by rw [← List.append_assoc]; exact sr_app hs⟩ hw1 hS1 ?_ ?_
  · show cells + 1 + (β.1 - 1) ≤ _; omega
  · show slots + N + (β.2 - N) ≤ _; omega

end PA
end
section
abbrev mX0_init : mB := (RX0, 1, none, 1, 12, true)
abbrev mX0_setUp : mB := (RX0, 3, none, 0, 0, false)
abbrev mX0_copyFrom : mB := (RX0, 2, none, 0, 0, false)
abbrev mX0_isLinkedTo : mB := (RX0, 2, (some .boolean), 0, 0, false)
abbrev mX0_runForAnHour : mB := (RX0, 1, none, 1, 22, false)
abbrev mX0_mend : mB := (RX0, 1, none, 0, 0, false)
abbrev mX0_afterAnHour : mB := (RX0, 3, (some .float), 0, 0, false)
abbrev mX0_healthAfter : mB := (RX0, 4, (some .float), 1, 22, false)
abbrev mX0_hoursUntilBelow : mB := (RX0, 4, (some .int), 1, 22, false)
abbrev mX1_init : mB := (RX1, 1, none, 1, 12, true)
abbrev mX1_setUp : mB := (RX1, 3, none, 0, 0, false)
abbrev mX1_copyFrom : mB := (RX1, 2, none, 0, 0, false)
abbrev mX1_has : mB := (RX1, 2, (some .boolean), 0, 0, false)
abbrev mX2_init : mB := (RX2, 2, none, 3, 53, true)
abbrev mX2_add : mB := (RX2, 2, none, 2, 43, false)
abbrev mX2_takeBack : mB := (RX2, 2, (some .int), 2, 43, false)
abbrev mX3_init : mB := (RX3, 1, none, 1, 12, true)
abbrev mX4_init : mB := (RX4, 2, none, 2, 32, true)
abbrev mX4_append : mB := (RX4, 2, (some .int), 0, 0, false)
abbrev mX4_clear : mB := (RX4, 2, (some .int), 0, 0, false)
abbrev mX4_read : mB := (RX4, 2, (some .int), 3, 63, false)
abbrev mX4_readOrder : mB := (RX4, 3, (some .boolean), 2, 41, false)
abbrev mX4_readNumber : mB := (RX4, 2, (some .boolean), 1, 20, false)
abbrev mX4_readAsset : mB := (RX4, 2, (some .boolean), 1, 20, false)
abbrev mX4_readCrew : mB := (RX4, 2, (some .boolean), 1, 20, false)
abbrev mX4_readSign : mB := (RX4, 2, (some .boolean), 0, 0, false)
abbrev mX4_isAtDigit : mB := (RX4, 1, (some .boolean), 0, 0, false)
abbrev mX4_readDigit : mB := (RX4, 1, (some .int), 0, 0, false)
abbrev mX5_init : mB := (RX5, 2, none, 2, 32, true)
abbrev mX5_copyFrom : mB := (RX5, 3, none, 1, 21, false)
abbrev mX5_hasAsset : mB := (RX5, 2, (some .boolean), 0, 0, false)
abbrev mX5_hasCrew : mB := (RX5, 2, (some .boolean), 0, 0, false)
abbrev mX5_hasTask : mB := (RX5, 2, (some .boolean), 0, 0, false)
abbrev mX5_newAsset : mB := (RX5, 3, (some .int), 1, 22, false)
abbrev mX5_setLink : mB := (RX5, 4, (some .int), 1, 21, false)
abbrev mX5_setBar : mB := (RX5, 4, (some .int), 1, 22, false)
abbrev mX5_newCrew : mB := (RX5, 3, (some .int), 1, 22, false)
abbrev mX5_newTask : mB := (RX5, 7, (some .int), 1, 26, false)
abbrev mX5_startAsset : mB := (RX5, 2, (some .int), 3, 68, false)
abbrev mX5_stopAsset : mB := (RX5, 2, (some .int), 1, 22, false)
abbrev mX5_hangTag : mB := (RX5, 4, (some .int), 4, 87, false)
abbrev mX5_beginTask : mB := (RX5, 3, (some .int), 4, 89, false)
abbrev mX5_liftTag : mB := (RX5, 4, (some .int), 4, 93, false)
abbrev mX5_cancelTask : mB := (RX5, 2, (some .int), 1, 21, false)
abbrev mX5_passHours : mB := (RX5, 4, (some .int), 3, 65, false)
abbrev mX5_runAssets : mB := (RX5, 2, none, 2, 42, false)
abbrev mX5_workOnTasks : mB := (RX5, 4, (some .int), 2, 42, false)
abbrev mX5_mendAsset : mB := (RX5, 2, none, 1, 21, false)
abbrev mX5_slipTasks : mB := (RX5, 3, none, 1, 22, false)
abbrev mX5_reasonAgainst : mB := (RX5, 3, (some .int), 3, 67, false)
abbrev mX5_barrierOf : mB := (RX5, 5, (some .int), 2, 43, false)
abbrev mX5_doBar : mB := (RX5, 3, (some .boolean), 0, 0, false)
abbrev mX5_areNear : mB := (RX5, 3, (some .boolean), 1, 21, false)
abbrev mX5_isRunning : mB := (RX5, 2, (some .boolean), 1, 21, false)
abbrev mX5_canServe : mB := (RX5, 3, (some .boolean), 3, 65, false)
abbrev mX5_firstCrewFor : mB := (RX5, 3, (some .int), 4, 87, false)
abbrev mX5_tagsHanging : mB := (RX5, 2, (some .int), 2, 47, false)
abbrev mX5_taskOfTag : mB := (RX5, 6, (some .int), 3, 68, false)
abbrev mX5_tasksOfAsset : mB := (RX5, 6, (some .int), 1, 22, false)
abbrev mX5_tasksOfCrew : mB := (RX5, 6, (some .int), 1, 22, false)
abbrev mX5_tasksIn : mB := (RX5, 5, (some .int), 1, 22, false)
abbrev mX5_busyPeople : mB := (RX5, 4, (some .int), 2, 42, false)
abbrev mX5_allBusyPeople : mB := (RX5, 3, (some .int), 2, 42, false)
abbrev mX5_assetsRunning : mB := (RX5, 3, (some .int), 0, 0, false)
abbrev mX5_slipsSoFar : mB := (RX5, 3, (some .int), 0, 0, false)
abbrev mX6_init : mB := (RX6, 1, none, 1, 12, true)
abbrev mX6_setUp : mB := (RX6, 7, none, 0, 0, false)
abbrev mX6_copyFrom : mB := (RX6, 2, none, 0, 0, false)
abbrev mX6_isIn : mB := (RX6, 3, (some .boolean), 0, 0, false)
abbrev mX6_tagHangs : mB := (RX6, 1, (some .boolean), 1, 22, false)
abbrev mX6_isTooLateAt : mB := (RX6, 2, (some .boolean), 0, 0, false)
abbrev mX6_slip : mB := (RX6, 1, none, 0, 0, false)
abbrev mX7_init : mB := (RX7, 1, none, 4, 74, true)
abbrev mX7_addAsset : mB := (RX7, 3, (some .int), 4, 85, false)
abbrev mX7_link : mB := (RX7, 4, (some .int), 4, 85, false)
abbrev mX7_bar : mB := (RX7, 4, (some .int), 4, 85, false)
abbrev mX7_addCrew : mB := (RX7, 3, (some .int), 4, 85, false)
abbrev mX7_addTask : mB := (RX7, 7, (some .int), 4, 85, false)
abbrev mX7_run : mB := (RX7, 2, (some .int), 4, 89, false)
abbrev mX7_stop : mB := (RX7, 2, (some .int), 4, 85, false)
abbrev mX7_hang : mB := (RX7, 3, (some .int), 5, 110, false)
abbrev mX7_begin : mB := (RX7, 2, (some .int), 5, 111, false)
abbrev mX7_lift : mB := (RX7, 3, (some .int), 5, 116, false)
abbrev mX7_cancel : mB := (RX7, 2, (some .int), 4, 85, false)
abbrev mX7_pass : mB := (RX7, 2, (some .int), 4, 88, false)
abbrev mX7_type : mB := (RX7, 2, (some .int), 1, 21, false)
abbrev mX7_clearText : mB := (RX7, 1, (some .int), 1, 21, false)
abbrev mX7_perform : mB := (RX7, 4, (some .int), 6, 137, false)
abbrev mX7_undo : mB := (RX7, 1, (some .int), 3, 64, false)
abbrev mX7_keep : mB := (RX7, 1, (some .int), 2, 43, false)
abbrev mX7_restore : mB := (RX7, 1, (some .int), 4, 85, false)
abbrev mX7_real : mB := (RX7, 4, (some .float), 1, 21, false)
abbrev mX7_healthIn : mB := (RX7, 3, (some .float), 2, 45, false)
abbrev mX7_hoursTo : mB := (RX7, 3, (some .int), 2, 45, false)
abbrev mX7_asset : mB := (RX7, 4, (some .int), 4, 93, false)
abbrev mX7_tagAt : mB := (RX7, 3, (some .int), 4, 93, false)
abbrev mX7_crew : mB := (RX7, 4, (some .int), 3, 65, false)
abbrev mX7_task : mB := (RX7, 4, (some .int), 4, 89, false)
abbrev mX7_crewFor : mB := (RX7, 2, (some .int), 5, 109, false)
abbrev mX7_count : mB := (RX7, 2, (some .int), 3, 64, false)
abbrev mX7_recorded : mB := (RX7, 2, (some .int), 3, 64, false)
abbrev mX7_follow : mB := (RX7, 2, (some .int), 5, 116, false)
abbrev mX7_within : mB := (RX7, 3, (some .boolean), 0, 0, false)
abbrev mX8_init : mB := (RX8, 1, none, 1, 12, true)
abbrev mX8_isIn : mB := (RX8, 3, (some .boolean), 0, 0, false)
abbrev mX8_of : mB := (RX8, 3, (some .int), 0, 0, false)
abbrev mX8_sets : mB := (RX8, 4, none, 0, 0, false)
abbrev mX8_ofTask : mB := (RX8, 3, (some .int), 0, 0, false)
abbrev mX8_setsTask : mB := (RX8, 4, none, 0, 0, false)
abbrev mX8_isAsset : mB := (RX8, 2, (some .boolean), 1, 22, false)
abbrev mX8_isCrew : mB := (RX8, 2, (some .boolean), 1, 22, false)
abbrev mX8_isTask : mB := (RX8, 2, (some .boolean), 1, 22, false)
abbrev mX8_ones : mB := (RX8, 3, (some .int), 0, 0, false)
abbrev mX8_keeps : mB := (RX8, 3, none, 0, 0, false)
abbrev mX8_brings : mB := (RX8, 3, none, 0, 0, false)
abbrev mX8_copies : mB := (RX8, 4, none, 0, 0, false)
abbrev mX8_recordsTrial : mB := (RX8, 2, none, 1, 23, false)
abbrev mX8_records : mB := (RX8, 1, none, 2, 44, false)
abbrev mX8_undo : mB := (RX8, 1, (some .int), 1, 22, false)
abbrev mX8_keep : mB := (RX8, 1, (some .int), 1, 22, false)
abbrev mX8_restore : mB := (RX8, 1, (some .int), 3, 64, false)
abbrev mX8_addAsset : mB := (RX8, 4, (some .int), 3, 64, false)
abbrev mX8_link : mB := (RX8, 4, (some .int), 3, 64, false)
abbrev mX8_bars : mB := (RX8, 3, (some .boolean), 0, 0, false)
abbrev mX8_bar : mB := (RX8, 4, (some .int), 3, 64, false)
abbrev mX8_addCrew : mB := (RX8, 3, (some .int), 3, 64, false)
abbrev mX8_addTask : mB := (RX8, 9, (some .int), 3, 64, false)
abbrev mX8_stateOf : mB := (RX8, 2, (some .int), 1, 22, false)
abbrev mX8_isBusy : mB := (RX8, 2, (some .boolean), 2, 43, false)
abbrev mX8_busy : mB := (RX8, 6, (some .int), 3, 64, false)
abbrev mX8_canHang : mB := (RX8, 4, (some .boolean), 4, 89, false)
abbrev mX8_endOf : mB := (RX8, 2, (some .int), 1, 22, false)
abbrev mX8_barredBy : mB := (RX8, 6, (some .int), 2, 43, false)
abbrev mX8_isTooLate : mB := (RX8, 2, (some .boolean), 2, 43, false)
abbrev mX8_reasonOf : mB := (RX8, 2, (some .int), 3, 68, false)
abbrev mX8_running : mB := (RX8, 3, (some .int), 1, 22, false)
abbrev mX8_runError : mB := (RX8, 2, (some .int), 2, 43, false)
abbrev mX8_stopError : mB := (RX8, 2, (some .int), 2, 43, false)
abbrev mX8_goes : mB := (RX8, 3, (some .int), 2, 44, false)
abbrev mX8_run : mB := (RX8, 3, (some .int), 3, 66, false)
abbrev mX8_stop : mB := (RX8, 3, (some .int), 3, 66, false)
abbrev mX8_hangError : mB := (RX8, 4, (some .int), 5, 112, false)
abbrev mX8_hangs : mB := (RX8, 5, (some .int), 1, 23, false)
abbrev mX8_hang : mB := (RX8, 4, (some .int), 6, 135, false)
abbrev mX8_beginError : mB := (RX8, 2, (some .int), 4, 89, false)
abbrev mX8_begins : mB := (RX8, 2, (some .int), 1, 23, false)
abbrev mX8_begin : mB := (RX8, 3, (some .int), 5, 110, false)
abbrev mX8_topOf : mB := (RX8, 3, (some .int), 1, 22, false)
abbrev mX8_liftError : mB := (RX8, 4, (some .int), 2, 44, false)
abbrev mX8_lifts : mB := (RX8, 3, (some .int), 2, 43, false)
abbrev mX8_lift : mB := (RX8, 4, (some .int), 3, 67, false)
abbrev mX8_cancel : mB := (RX8, 2, (some .int), 3, 64, false)
abbrev mX8_worn : mB := (RX8, 5, (some .float), 1, 22, false)
abbrev mX8_runsHour : mB := (RX8, 2, none, 2, 46, false)
abbrev mX8_slips : mB := (RX8, 2, none, 2, 43, false)
abbrev mX8_passesHour : mB := (RX8, 4, (some .int), 3, 67, false)
abbrev mX8_passError : mB := (RX8, 2, (some .int), 1, 22, false)
abbrev mX8_passes : mB := (RX8, 4, (some .int), 4, 90, false)
abbrev mX8_pass : mB := (RX8, 3, (some .int), 5, 113, false)
abbrev mX8_type : mB := (RX8, 2, (some .int), 0, 0, false)
abbrev mX8_clearText : mB := (RX8, 2, (some .int), 0, 0, false)
abbrev mX8_isHere : mB := (RX8, 3, (some .boolean), 1, 22, false)
abbrev mX8_passesSign : mB := (RX8, 3, (some .boolean), 2, 44, false)
abbrev mX8_passesNumber : mB := (RX8, 4, (some .boolean), 2, 44, false)
abbrev mX8_passesOrder : mB := (RX8, 1, (some .boolean), 3, 67, false)
abbrev mX8_faultOf : mB := (RX8, 1, (some .int), 4, 87, false)
abbrev mX8_orderError : mB := (RX8, 1, (some .int), 6, 135, false)
abbrev mX8_does : mB := (RX8, 1, (some .int), 5, 113, false)
abbrev mX8_perform : mB := (RX8, 5, (some .int), 7, 155, false)
abbrev mX8_real : mB := (RX8, 3, (some .float), 2, 43, false)
abbrev mX8_healthIn : mB := (RX8, 5, (some .float), 2, 46, false)
abbrev mX8_hoursTo : mB := (RX8, 6, (some .int), 2, 46, false)
abbrev mX8_tasksAt : mB := (RX8, 6, (some .int), 2, 43, false)
abbrev mX8_asset : mB := (RX8, 3, (some .int), 3, 68, false)
abbrev mX8_tagAt : mB := (RX8, 4, (some .int), 2, 43, false)
abbrev mX8_doneBy : mB := (RX8, 4, (some .int), 2, 43, false)
abbrev mX8_crew : mB := (RX8, 3, (some .int), 4, 89, false)
abbrev mX8_task : mB := (RX8, 3, (some .int), 4, 89, false)
abbrev mX8_crewFor : mB := (RX8, 3, (some .int), 5, 112, false)
abbrev mX8_inState : mB := (RX8, 4, (some .int), 2, 43, false)
abbrev mX8_tags : mB := (RX8, 3, (some .int), 1, 22, false)
abbrev mX8_allSlips : mB := (RX8, 3, (some .int), 1, 22, false)
abbrev mX8_allBusy : mB := (RX8, 3, (some .int), 4, 89, false)
abbrev mX8_count : mB := (RX8, 2, (some .int), 5, 111, false)
abbrev mJ6_bitCount_0f7a4 : mB := (RJ6, 1, (some .int), 0, 0, false)
abbrev mL_law : mB := (RL, 8, (some .boolean), 8, 179, false)
theorem oX_X0_init : mOKI yX0_init cX0_init mX0_init 0 := ⟨⟨wsA_at 102 (by decide +kernel) (by decide +kernel), wsA_at 71 (by decide +kernel) (by decide +kernel), by decide, by decide, by decide +kernel⟩, wsA_at 101 (by decide +kernel) (by decide +kernel), rfl, rfl⟩
theorem oX_X0_setUp : mOKV yX0_setUp cX0_setUp mX0_setUp 2 0 := ⟨⟨wsA_at 360 (by decide +kernel) (by decide +kernel), wsA_at 71 (by decide +kernel) (by decide +kernel), by decide, by decide, by decide +kernel⟩, wsA_at 358 (by decide +kernel) (by decide +kernel), wsA_at 359 (by decide +kernel) (by decide +kernel), by decide, ⟨_, rfl, rfl⟩⟩
theorem oX_X0_copyFrom : mOKV yX0_copyFrom cX0_copyFrom mX0_copyFrom 1 0 := ⟨⟨wsA_at 341 (by decide +kernel) (by decide +kernel), wsA_at 71 (by decide +kernel) (by decide +kernel), by decide, by decide, by decide +kernel⟩, wsA_at 339 (by decide +kernel) (by decide +kernel), wsA_at 340 (by decide +kernel) (by decide +kernel), by decide, ⟨_, rfl, rfl⟩⟩
theorem oX_X0_isLinkedTo : mOKV yX0_isLinkedTo cX0_isLinkedTo mX0_isLinkedTo 1 0 := ⟨⟨wsA_at 386 (by decide +kernel) (by decide +kernel), wsA_at 71 (by decide +kernel) (by decide +kernel), by decide, by decide, by decide +kernel⟩, wsA_at 384 (by decide +kernel) (by decide +kernel), wsA_at 385 (by decide +kernel) (by decide +kernel), by decide, ⟨_, rfl, rfl⟩⟩
theorem oX_X0_runForAnHour : mOKV yX0_runForAnHour cX0_runForAnHour mX0_runForAnHour 0 0 := ⟨⟨wsA_at 557 (by decide +kernel) (by decide +kernel), wsA_at 71 (by decide +kernel) (by decide +kernel), by decide, by decide, by decide +kernel⟩, wsA_at 555 (by decide +kernel) (by decide +kernel), wsA_at 556 (by decide +kernel) (by decide +kernel), by decide, ⟨_, rfl, rfl⟩⟩
theorem oX_X0_mend : mOKV yX0_mend cX0_mend mX0_mend 0 0 := ⟨⟨wsA_at 574 (by decide +kernel) (by decide +kernel), wsA_at 71 (by decide +kernel) (by decide +kernel), by decide, by decide, by decide +kernel⟩, wsA_at 572 (by decide +kernel) (by decide +kernel), wsA_at 573 (by decide +kernel) (by decide +kernel), by decide, ⟨_, rfl, rfl⟩⟩
theorem oX_X0_afterAnHour : mOKV yX0_afterAnHour cX0_afterAnHour mX0_afterAnHour 1 0 := ⟨⟨wsA_at 561 (by decide +kernel) (by decide +kernel), wsA_at 71 (by decide +kernel) (by decide +kernel), by decide, by decide, by decide +kernel⟩, wsA_at 559 (by decide +kernel) (by decide +kernel), wsA_at 560 (by decide +kernel) (by decide +kernel), by decide, ⟨_, rfl, rfl⟩⟩
theorem oX_X0_healthAfter : mOKV yX0_healthAfter cX0_healthAfter mX0_healthAfter 1 0 := ⟨⟨wsA_at 670 (by decide +kernel) (by decide +kernel), wsA_at 71 (by decide +kernel) (by decide +kernel), by decide, by decide, by decide +kernel⟩, wsA_at 668 (by decide +kernel) (by decide +kernel), wsA_at 669 (by decide +kernel) (by decide +kernel), by decide, ⟨_, rfl, rfl⟩⟩
theorem oX_X0_hoursUntilBelow : mOKV yX0_hoursUntilBelow cX0_hoursUntilBelow mX0_hoursUntilBelow 1 0 := ⟨⟨wsA_at 679 (by decide +kernel) (by decide +kernel), wsA_at 71 (by decide +kernel) (by decide +kernel), by decide, by decide, by decide +kernel⟩, wsA_at 677 (by decide +kernel) (by decide +kernel), wsA_at 678 (by decide +kernel) (by decide +kernel), by decide, ⟨_, rfl, rfl⟩⟩
theorem oX_X1_init : mOKI yX1_init cX1_init mX1_init 0 := ⟨⟨wsA_at 134 (by decide +kernel) (by decide +kernel), wsA_at 72 (by decide +kernel) (by decide +kernel), by decide, by decide, by decide +kernel⟩, wsA_at 133 (by decide +kernel) (by decide +kernel), rfl, rfl⟩
theorem oX_X1_setUp : mOKV yX1_setUp cX1_setUp mX1_setUp 2 1 := ⟨⟨wsA_at 416 (by decide +kernel) (by decide +kernel), wsA_at 72 (by decide +kernel) (by decide +kernel), by decide, by decide, by decide +kernel⟩, wsA_at 414 (by decide +kernel) (by decide +kernel), wsA_at 415 (by decide +kernel) (by decide +kernel), by decide, ⟨_, rfl, rfl⟩⟩
theorem oX_X1_copyFrom : mOKV yX1_copyFrom cX1_copyFrom mX1_copyFrom 1 1 := ⟨⟨wsA_at 345 (by decide +kernel) (by decide +kernel), wsA_at 72 (by decide +kernel) (by decide +kernel), by decide, by decide, by decide +kernel⟩, wsA_at 343 (by decide +kernel) (by decide +kernel), wsA_at 344 (by decide +kernel) (by decide +kernel), by decide, ⟨_, rfl, rfl⟩⟩
theorem oX_X1_has : mOKV yX1_has cX1_has mX1_has 1 1 := ⟨⟨wsA_at 488 (by decide +kernel) (by decide +kernel), wsA_at 72 (by decide +kernel) (by decide +kernel), by decide, by decide, by decide +kernel⟩, wsA_at 486 (by decide +kernel) (by decide +kernel), wsA_at 487 (by decide +kernel) (by decide +kernel), by decide, ⟨_, rfl, rfl⟩⟩
theorem oX_X2_init : mOKI yX2_init cX2_init mX2_init 0 := ⟨⟨wsA_at 246 (by decide +kernel) (by decide +kernel), wsA_at 74 (by decide +kernel) (by decide +kernel), by decide, by decide, by decide +kernel⟩, wsA_at 245 (by decide +kernel) (by decide +kernel), rfl, rfl⟩
theorem oX_X2_add : mOKV yX2_add cX2_add mX2_add 1 2 := ⟨⟨wsA_at 369 (by decide +kernel) (by decide +kernel), wsA_at 74 (by decide +kernel) (by decide +kernel), by decide, by decide, by decide +kernel⟩, wsA_at 367 (by decide +kernel) (by decide +kernel), wsA_at 368 (by decide +kernel) (by decide +kernel), by decide, ⟨_, rfl, rfl⟩⟩
theorem oX_X2_takeBack : mOKV yX2_takeBack cX2_takeBack mX2_takeBack 1 2 := ⟨⟨wsA_at 647 (by decide +kernel) (by decide +kernel), wsA_at 74 (by decide +kernel) (by decide +kernel), by decide, by decide, by decide +kernel⟩, wsA_at 645 (by decide +kernel) (by decide +kernel), wsA_at 646 (by decide +kernel) (by decide +kernel), by decide, ⟨_, rfl, rfl⟩⟩
theorem oX_X3_init : mOKI yX3_init cX3_init mX3_init 0 := ⟨⟨wsA_at 273 (by decide +kernel) (by decide +kernel), wsA_at 76 (by decide +kernel) (by decide +kernel), by decide, by decide, by decide +kernel⟩, wsA_at 272 (by decide +kernel) (by decide +kernel), rfl, rfl⟩
theorem oX_X4_init : mOKI yX4_init cX4_init mX4_init 0 := ⟨⟨wsA_at 266 (by decide +kernel) (by decide +kernel), wsA_at 75 (by decide +kernel) (by decide +kernel), by decide, by decide, by decide +kernel⟩, wsA_at 265 (by decide +kernel) (by decide +kernel), rfl, rfl⟩
theorem oX_X4_append : mOKV yX4_append cX4_append mX4_append 1 4 := ⟨⟨wsA_at 591 (by decide +kernel) (by decide +kernel), wsA_at 75 (by decide +kernel) (by decide +kernel), by decide, by decide, by decide +kernel⟩, wsA_at 589 (by decide +kernel) (by decide +kernel), wsA_at 590 (by decide +kernel) (by decide +kernel), by decide, ⟨_, rfl, rfl⟩⟩
theorem oX_X4_clear : mOKV yX4_clear cX4_clear mX4_clear 0 4 := ⟨⟨wsA_at 599 (by decide +kernel) (by decide +kernel), wsA_at 75 (by decide +kernel) (by decide +kernel), by decide, by decide, by decide +kernel⟩, wsA_at 597 (by decide +kernel) (by decide +kernel), wsA_at 598 (by decide +kernel) (by decide +kernel), by decide, ⟨_, rfl, rfl⟩⟩
theorem oX_X4_read : mOKV yX4_read cX4_read mX4_read 0 4 := ⟨⟨wsA_at 607 (by decide +kernel) (by decide +kernel), wsA_at 75 (by decide +kernel) (by decide +kernel), by decide, by decide, by decide +kernel⟩, wsA_at 605 (by decide +kernel) (by decide +kernel), wsA_at 606 (by decide +kernel) (by decide +kernel), by decide, ⟨_, rfl, rfl⟩⟩
theorem oX_X4_readOrder : mOKV yX4_readOrder cX4_readOrder mX4_readOrder 1 4 := ⟨⟨wsA_at 611 (by decide +kernel) (by decide +kernel), wsA_at 75 (by decide +kernel) (by decide +kernel), by decide, by decide, by decide +kernel⟩, wsA_at 610 (by decide +kernel) (by decide +kernel), wsA_at 9 (by decide +kernel) (by decide +kernel), by decide, ⟨_, rfl, rfl⟩⟩
theorem oX_X4_readNumber : mOKV yX4_readNumber cX4_readNumber mX4_readNumber 1 4 := ⟨⟨wsA_at 615 (by decide +kernel) (by decide +kernel), wsA_at 75 (by decide +kernel) (by decide +kernel), by decide, by decide, by decide +kernel⟩, wsA_at 614 (by decide +kernel) (by decide +kernel), wsA_at 10 (by decide +kernel) (by decide +kernel), by decide, ⟨_, rfl, rfl⟩⟩
theorem oX_X4_readAsset : mOKV yX4_readAsset cX4_readAsset mX4_readAsset 1 4 := ⟨⟨wsA_at 635 (by decide +kernel) (by decide +kernel), wsA_at 75 (by decide +kernel) (by decide +kernel), by decide, by decide, by decide +kernel⟩, wsA_at 634 (by decide +kernel) (by decide +kernel), wsA_at 15 (by decide +kernel) (by decide +kernel), by decide, ⟨_, rfl, rfl⟩⟩
theorem oX_X4_readCrew : mOKV yX4_readCrew cX4_readCrew mX4_readCrew 1 4 := ⟨⟨wsA_at 631 (by decide +kernel) (by decide +kernel), wsA_at 75 (by decide +kernel) (by decide +kernel), by decide, by decide, by decide +kernel⟩, wsA_at 630 (by decide +kernel) (by decide +kernel), wsA_at 14 (by decide +kernel) (by decide +kernel), by decide, ⟨_, rfl, rfl⟩⟩
theorem oX_X4_readSign : mOKV yX4_readSign cX4_readSign mX4_readSign 1 4 := ⟨⟨wsA_at 627 (by decide +kernel) (by decide +kernel), wsA_at 75 (by decide +kernel) (by decide +kernel), by decide, by decide, by decide +kernel⟩, wsA_at 626 (by decide +kernel) (by decide +kernel), wsA_at 13 (by decide +kernel) (by decide +kernel), by decide, ⟨_, rfl, rfl⟩⟩
theorem oX_X4_isAtDigit : mOKV yX4_isAtDigit cX4_isAtDigit mX4_isAtDigit 0 4 := ⟨⟨wsA_at 619 (by decide +kernel) (by decide +kernel), wsA_at 75 (by decide +kernel) (by decide +kernel), by decide, by decide, by decide +kernel⟩, wsA_at 618 (by decide +kernel) (by decide +kernel), wsA_at 11 (by decide +kernel) (by decide +kernel), by decide, ⟨_, rfl, rfl⟩⟩
theorem oX_X4_readDigit : mOKV yX4_readDigit cX4_readDigit mX4_readDigit 0 4 := ⟨⟨wsA_at 623 (by decide +kernel) (by decide +kernel), wsA_at 75 (by decide +kernel) (by decide +kernel), by decide, by decide, by decide +kernel⟩, wsA_at 622 (by decide +kernel) (by decide +kernel), wsA_at 12 (by decide +kernel) (by decide +kernel), by decide, ⟨_, rfl, rfl⟩⟩
theorem oX_X5_init : mOKI yX5_init cX5_init mX5_init 0 := ⟨⟨wsA_at 91 (by decide +kernel) (by decide +kernel), wsA_at 70 (by decide +kernel) (by decide +kernel), by decide, by decide, by decide +kernel⟩, wsA_at 90 (by decide +kernel) (by decide +kernel), rfl, rfl⟩
theorem oX_X5_copyFrom : mOKV yX5_copyFrom cX5_copyFrom mX5_copyFrom 1 5 := ⟨⟨wsA_at 337 (by decide +kernel) (by decide +kernel), wsA_at 70 (by decide +kernel) (by decide +kernel), by decide, by decide, by decide +kernel⟩, wsA_at 335 (by decide +kernel) (by decide +kernel), wsA_at 336 (by decide +kernel) (by decide +kernel), by decide, ⟨_, rfl, rfl⟩⟩
theorem oX_X5_hasAsset : mOKV yX5_hasAsset cX5_hasAsset mX5_hasAsset 1 5 := ⟨⟨wsA_at 382 (by decide +kernel) (by decide +kernel), wsA_at 70 (by decide +kernel) (by decide +kernel), by decide, by decide, by decide +kernel⟩, wsA_at 380 (by decide +kernel) (by decide +kernel), wsA_at 381 (by decide +kernel) (by decide +kernel), by decide, ⟨_, rfl, rfl⟩⟩
theorem oX_X5_hasCrew : mOKV yX5_hasCrew cX5_hasCrew mX5_hasCrew 1 5 := ⟨⟨wsA_at 476 (by decide +kernel) (by decide +kernel), wsA_at 70 (by decide +kernel) (by decide +kernel), by decide, by decide, by decide +kernel⟩, wsA_at 474 (by decide +kernel) (by decide +kernel), wsA_at 475 (by decide +kernel) (by decide +kernel), by decide, ⟨_, rfl, rfl⟩⟩
theorem oX_X5_hasTask : mOKV yX5_hasTask cX5_hasTask mX5_hasTask 1 5 := ⟨⟨wsA_at 472 (by decide +kernel) (by decide +kernel), wsA_at 70 (by decide +kernel) (by decide +kernel), by decide, by decide, by decide +kernel⟩, wsA_at 470 (by decide +kernel) (by decide +kernel), wsA_at 471 (by decide +kernel) (by decide +kernel), by decide, ⟨_, rfl, rfl⟩⟩
theorem oX_X5_newAsset : mOKV yX5_newAsset cX5_newAsset mX5_newAsset 2 5 := ⟨⟨wsA_at 353 (by decide +kernel) (by decide +kernel), wsA_at 70 (by decide +kernel) (by decide +kernel), by decide, by decide, by decide +kernel⟩, wsA_at 351 (by decide +kernel) (by decide +kernel), wsA_at 352 (by decide +kernel) (by decide +kernel), by decide, ⟨_, rfl, rfl⟩⟩
theorem oX_X5_setLink : mOKV yX5_setLink cX5_setLink mX5_setLink 3 5 := ⟨⟨wsA_at 378 (by decide +kernel) (by decide +kernel), wsA_at 70 (by decide +kernel) (by decide +kernel), by decide, by decide, by decide +kernel⟩, wsA_at 376 (by decide +kernel) (by decide +kernel), wsA_at 377 (by decide +kernel) (by decide +kernel), by decide, ⟨_, rfl, rfl⟩⟩
theorem oX_X5_setBar : mOKV yX5_setBar cX5_setBar mX5_setBar 3 5 := ⟨⟨wsA_at 400 (by decide +kernel) (by decide +kernel), wsA_at 70 (by decide +kernel) (by decide +kernel), by decide, by decide, by decide +kernel⟩, wsA_at 398 (by decide +kernel) (by decide +kernel), wsA_at 399 (by decide +kernel) (by decide +kernel), by decide, ⟨_, rfl, rfl⟩⟩
theorem oX_X5_newCrew : mOKV yX5_newCrew cX5_newCrew mX5_newCrew 2 5 := ⟨⟨wsA_at 412 (by decide +kernel) (by decide +kernel), wsA_at 70 (by decide +kernel) (by decide +kernel), by decide, by decide, by decide +kernel⟩, wsA_at 410 (by decide +kernel) (by decide +kernel), wsA_at 411 (by decide +kernel) (by decide +kernel), by decide, ⟨_, rfl, rfl⟩⟩
theorem oX_X5_newTask : mOKV yX5_newTask cX5_newTask mX5_newTask 6 5 := ⟨⟨wsA_at 424 (by decide +kernel) (by decide +kernel), wsA_at 70 (by decide +kernel) (by decide +kernel), by decide, by decide, by decide +kernel⟩, wsA_at 422 (by decide +kernel) (by decide +kernel), wsA_at 423 (by decide +kernel) (by decide +kernel), by decide, ⟨_, rfl, rfl⟩⟩
theorem oX_X5_startAsset : mOKV yX5_startAsset cX5_startAsset mX5_startAsset 1 5 := ⟨⟨wsA_at 436 (by decide +kernel) (by decide +kernel), wsA_at 70 (by decide +kernel) (by decide +kernel), by decide, by decide, by decide +kernel⟩, wsA_at 434 (by decide +kernel) (by decide +kernel), wsA_at 435 (by decide +kernel) (by decide +kernel), by decide, ⟨_, rfl, rfl⟩⟩
theorem oX_X5_stopAsset : mOKV yX5_stopAsset cX5_stopAsset mX5_stopAsset 1 5 := ⟨⟨wsA_at 460 (by decide +kernel) (by decide +kernel), wsA_at 70 (by decide +kernel) (by decide +kernel), by decide, by decide, by decide +kernel⟩, wsA_at 458 (by decide +kernel) (by decide +kernel), wsA_at 459 (by decide +kernel) (by decide +kernel), by decide, ⟨_, rfl, rfl⟩⟩
theorem oX_X5_hangTag : mOKV yX5_hangTag cX5_hangTag mX5_hangTag 2 5 := ⟨⟨wsA_at 468 (by decide +kernel) (by decide +kernel), wsA_at 70 (by decide +kernel) (by decide +kernel), by decide, by decide, by decide +kernel⟩, wsA_at 466 (by decide +kernel) (by decide +kernel), wsA_at 467 (by decide +kernel) (by decide +kernel), by decide, ⟨_, rfl, rfl⟩⟩
theorem oX_X5_beginTask : mOKV yX5_beginTask cX5_beginTask mX5_beginTask 1 5 := ⟨⟨wsA_at 505 (by decide +kernel) (by decide +kernel), wsA_at 70 (by decide +kernel) (by decide +kernel), by decide, by decide, by decide +kernel⟩, wsA_at 503 (by decide +kernel) (by decide +kernel), wsA_at 504 (by decide +kernel) (by decide +kernel), by decide, ⟨_, rfl, rfl⟩⟩
theorem oX_X5_liftTag : mOKV yX5_liftTag cX5_liftTag mX5_liftTag 2 5 := ⟨⟨wsA_at 529 (by decide +kernel) (by decide +kernel), wsA_at 70 (by decide +kernel) (by decide +kernel), by decide, by decide, by decide +kernel⟩, wsA_at 527 (by decide +kernel) (by decide +kernel), wsA_at 528 (by decide +kernel) (by decide +kernel), by decide, ⟨_, rfl, rfl⟩⟩
theorem oX_X5_cancelTask : mOKV yX5_cancelTask cX5_cancelTask mX5_cancelTask 1 5 := ⟨⟨wsA_at 541 (by decide +kernel) (by decide +kernel), wsA_at 70 (by decide +kernel) (by decide +kernel), by decide, by decide, by decide +kernel⟩, wsA_at 539 (by decide +kernel) (by decide +kernel), wsA_at 540 (by decide +kernel) (by decide +kernel), by decide, ⟨_, rfl, rfl⟩⟩
theorem oX_X5_passHours : mOKV yX5_passHours cX5_passHours mX5_passHours 1 5 := ⟨⟨wsA_at 549 (by decide +kernel) (by decide +kernel), wsA_at 70 (by decide +kernel) (by decide +kernel), by decide, by decide, by decide +kernel⟩, wsA_at 547 (by decide +kernel) (by decide +kernel), wsA_at 548 (by decide +kernel) (by decide +kernel), by decide, ⟨_, rfl, rfl⟩⟩
theorem oX_X5_runAssets : mOKV yX5_runAssets cX5_runAssets mX5_runAssets 0 5 := ⟨⟨wsA_at 553 (by decide +kernel) (by decide +kernel), wsA_at 70 (by decide +kernel) (by decide +kernel), by decide, by decide, by decide +kernel⟩, wsA_at 552 (by decide +kernel) (by decide +kernel), wsA_at 5 (by decide +kernel) (by decide +kernel), by decide, ⟨_, rfl, rfl⟩⟩
theorem oX_X5_workOnTasks : mOKV yX5_workOnTasks cX5_workOnTasks mX5_workOnTasks 0 5 := ⟨⟨wsA_at 566 (by decide +kernel) (by decide +kernel), wsA_at 70 (by decide +kernel) (by decide +kernel), by decide, by decide, by decide +kernel⟩, wsA_at 565 (by decide +kernel) (by decide +kernel), wsA_at 6 (by decide +kernel) (by decide +kernel), by decide, ⟨_, rfl, rfl⟩⟩
theorem oX_X5_mendAsset : mOKV yX5_mendAsset cX5_mendAsset mX5_mendAsset 1 5 := ⟨⟨wsA_at 570 (by decide +kernel) (by decide +kernel), wsA_at 70 (by decide +kernel) (by decide +kernel), by decide, by decide, by decide +kernel⟩, wsA_at 569 (by decide +kernel) (by decide +kernel), wsA_at 7 (by decide +kernel) (by decide +kernel), by decide, ⟨_, rfl, rfl⟩⟩
theorem oX_X5_slipTasks : mOKV yX5_slipTasks cX5_slipTasks mX5_slipTasks 0 5 := ⟨⟨wsA_at 579 (by decide +kernel) (by decide +kernel), wsA_at 70 (by decide +kernel) (by decide +kernel), by decide, by decide, by decide +kernel⟩, wsA_at 578 (by decide +kernel) (by decide +kernel), wsA_at 8 (by decide +kernel) (by decide +kernel), by decide, ⟨_, rfl, rfl⟩⟩
theorem oX_X5_reasonAgainst : mOKV yX5_reasonAgainst cX5_reasonAgainst mX5_reasonAgainst 1 5 := ⟨⟨wsA_at 509 (by decide +kernel) (by decide +kernel), wsA_at 70 (by decide +kernel) (by decide +kernel), by decide, by decide, by decide +kernel⟩, wsA_at 507 (by decide +kernel) (by decide +kernel), wsA_at 508 (by decide +kernel) (by decide +kernel), by decide, ⟨_, rfl, rfl⟩⟩
theorem oX_X5_barrierOf : mOKV yX5_barrierOf cX5_barrierOf mX5_barrierOf 1 5 := ⟨⟨wsA_at 517 (by decide +kernel) (by decide +kernel), wsA_at 70 (by decide +kernel) (by decide +kernel), by decide, by decide, by decide +kernel⟩, wsA_at 515 (by decide +kernel) (by decide +kernel), wsA_at 516 (by decide +kernel) (by decide +kernel), by decide, ⟨_, rfl, rfl⟩⟩
theorem oX_X5_doBar : mOKV yX5_doBar cX5_doBar mX5_doBar 2 5 := ⟨⟨wsA_at 404 (by decide +kernel) (by decide +kernel), wsA_at 70 (by decide +kernel) (by decide +kernel), by decide, by decide, by decide +kernel⟩, wsA_at 403 (by decide +kernel) (by decide +kernel), wsA_at 1 (by decide +kernel) (by decide +kernel), by decide, ⟨_, rfl, rfl⟩⟩
theorem oX_X5_areNear : mOKV yX5_areNear cX5_areNear mX5_areNear 2 5 := ⟨⟨wsA_at 521 (by decide +kernel) (by decide +kernel), wsA_at 70 (by decide +kernel) (by decide +kernel), by decide, by decide, by decide +kernel⟩, wsA_at 520 (by decide +kernel) (by decide +kernel), wsA_at 4 (by decide +kernel) (by decide +kernel), by decide, ⟨_, rfl, rfl⟩⟩
theorem oX_X5_isRunning : mOKV yX5_isRunning cX5_isRunning mX5_isRunning 1 5 := ⟨⟨wsA_at 480 (by decide +kernel) (by decide +kernel), wsA_at 70 (by decide +kernel) (by decide +kernel), by decide, by decide, by decide +kernel⟩, wsA_at 479 (by decide +kernel) (by decide +kernel), wsA_at 2 (by decide +kernel) (by decide +kernel), by decide, ⟨_, rfl, rfl⟩⟩
theorem oX_X5_canServe : mOKV yX5_canServe cX5_canServe mX5_canServe 2 5 := ⟨⟨wsA_at 484 (by decide +kernel) (by decide +kernel), wsA_at 70 (by decide +kernel) (by decide +kernel), by decide, by decide, by decide +kernel⟩, wsA_at 483 (by decide +kernel) (by decide +kernel), wsA_at 3 (by decide +kernel) (by decide +kernel), by decide, ⟨_, rfl, rfl⟩⟩
theorem oX_X5_firstCrewFor : mOKV yX5_firstCrewFor cX5_firstCrewFor mX5_firstCrewFor 1 5 := ⟨⟨wsA_at 716 (by decide +kernel) (by decide +kernel), wsA_at 70 (by decide +kernel) (by decide +kernel), by decide, by decide, by decide +kernel⟩, wsA_at 714 (by decide +kernel) (by decide +kernel), wsA_at 715 (by decide +kernel) (by decide +kernel), by decide, ⟨_, rfl, rfl⟩⟩
theorem oX_X5_tagsHanging : mOKV yX5_tagsHanging cX5_tagsHanging mX5_tagsHanging 1 5 := ⟨⟨wsA_at 440 (by decide +kernel) (by decide +kernel), wsA_at 70 (by decide +kernel) (by decide +kernel), by decide, by decide, by decide +kernel⟩, wsA_at 438 (by decide +kernel) (by decide +kernel), wsA_at 439 (by decide +kernel) (by decide +kernel), by decide, ⟨_, rfl, rfl⟩⟩
theorem oX_X5_taskOfTag : mOKV yX5_taskOfTag cX5_taskOfTag mX5_taskOfTag 2 5 := ⟨⟨wsA_at 533 (by decide +kernel) (by decide +kernel), wsA_at 70 (by decide +kernel) (by decide +kernel), by decide, by decide, by decide +kernel⟩, wsA_at 531 (by decide +kernel) (by decide +kernel), wsA_at 532 (by decide +kernel) (by decide +kernel), by decide, ⟨_, rfl, rfl⟩⟩
theorem oX_X5_tasksOfAsset : mOKV yX5_tasksOfAsset cX5_tasksOfAsset mX5_tasksOfAsset 3 5 := ⟨⟨wsA_at 444 (by decide +kernel) (by decide +kernel), wsA_at 70 (by decide +kernel) (by decide +kernel), by decide, by decide, by decide +kernel⟩, wsA_at 442 (by decide +kernel) (by decide +kernel), wsA_at 443 (by decide +kernel) (by decide +kernel), by decide, ⟨_, rfl, rfl⟩⟩
theorem oX_X5_tasksOfCrew : mOKV yX5_tasksOfCrew cX5_tasksOfCrew mX5_tasksOfCrew 3 5 := ⟨⟨wsA_at 701 (by decide +kernel) (by decide +kernel), wsA_at 70 (by decide +kernel) (by decide +kernel), by decide, by decide, by decide +kernel⟩, wsA_at 699 (by decide +kernel) (by decide +kernel), wsA_at 700 (by decide +kernel) (by decide +kernel), by decide, ⟨_, rfl, rfl⟩⟩
theorem oX_X5_tasksIn : mOKV yX5_tasksIn cX5_tasksIn mX5_tasksIn 2 5 := ⟨⟨wsA_at 725 (by decide +kernel) (by decide +kernel), wsA_at 70 (by decide +kernel) (by decide +kernel), by decide, by decide, by decide +kernel⟩, wsA_at 723 (by decide +kernel) (by decide +kernel), wsA_at 724 (by decide +kernel) (by decide +kernel), by decide, ⟨_, rfl, rfl⟩⟩
theorem oX_X5_busyPeople : mOKV yX5_busyPeople cX5_busyPeople mX5_busyPeople 1 5 := ⟨⟨wsA_at 492 (by decide +kernel) (by decide +kernel), wsA_at 70 (by decide +kernel) (by decide +kernel), by decide, by decide, by decide +kernel⟩, wsA_at 490 (by decide +kernel) (by decide +kernel), wsA_at 491 (by decide +kernel) (by decide +kernel), by decide, ⟨_, rfl, rfl⟩⟩
theorem oX_X5_allBusyPeople : mOKV yX5_allBusyPeople cX5_allBusyPeople mX5_allBusyPeople 0 5 := ⟨⟨wsA_at 733 (by decide +kernel) (by decide +kernel), wsA_at 70 (by decide +kernel) (by decide +kernel), by decide, by decide, by decide +kernel⟩, wsA_at 731 (by decide +kernel) (by decide +kernel), wsA_at 732 (by decide +kernel) (by decide +kernel), by decide, ⟨_, rfl, rfl⟩⟩
theorem oX_X5_assetsRunning : mOKV yX5_assetsRunning cX5_assetsRunning mX5_assetsRunning 0 5 := ⟨⟨wsA_at 452 (by decide +kernel) (by decide +kernel), wsA_at 70 (by decide +kernel) (by decide +kernel), by decide, by decide, by decide +kernel⟩, wsA_at 450 (by decide +kernel) (by decide +kernel), wsA_at 451 (by decide +kernel) (by decide +kernel), by decide, ⟨_, rfl, rfl⟩⟩
theorem oX_X5_slipsSoFar : mOKV yX5_slipsSoFar cX5_slipsSoFar mX5_slipsSoFar 0 5 := ⟨⟨wsA_at 729 (by decide +kernel) (by decide +kernel), wsA_at 70 (by decide +kernel) (by decide +kernel), by decide, by decide, by decide +kernel⟩, wsA_at 727 (by decide +kernel) (by decide +kernel), wsA_at 728 (by decide +kernel) (by decide +kernel), by decide, ⟨_, rfl, rfl⟩⟩
theorem oX_X6_init : mOKI yX6_init cX6_init mX6_init 0 := ⟨⟨wsA_at 149 (by decide +kernel) (by decide +kernel), wsA_at 73 (by decide +kernel) (by decide +kernel), by decide, by decide, by decide +kernel⟩, wsA_at 148 (by decide +kernel) (by decide +kernel), rfl, rfl⟩
theorem oX_X6_setUp : mOKV yX6_setUp cX6_setUp mX6_setUp 6 6 := ⟨⟨wsA_at 428 (by decide +kernel) (by decide +kernel), wsA_at 73 (by decide +kernel) (by decide +kernel), by decide, by decide, by decide +kernel⟩, wsA_at 426 (by decide +kernel) (by decide +kernel), wsA_at 427 (by decide +kernel) (by decide +kernel), by decide, ⟨_, rfl, rfl⟩⟩
theorem oX_X6_copyFrom : mOKV yX6_copyFrom cX6_copyFrom mX6_copyFrom 1 6 := ⟨⟨wsA_at 349 (by decide +kernel) (by decide +kernel), wsA_at 73 (by decide +kernel) (by decide +kernel), by decide, by decide, by decide +kernel⟩, wsA_at 347 (by decide +kernel) (by decide +kernel), wsA_at 348 (by decide +kernel) (by decide +kernel), by decide, ⟨_, rfl, rfl⟩⟩
theorem oX_X6_isIn : mOKV yX6_isIn cX6_isIn mX6_isIn 2 6 := ⟨⟨wsA_at 448 (by decide +kernel) (by decide +kernel), wsA_at 73 (by decide +kernel) (by decide +kernel), by decide, by decide, by decide +kernel⟩, wsA_at 446 (by decide +kernel) (by decide +kernel), wsA_at 447 (by decide +kernel) (by decide +kernel), by decide, ⟨_, rfl, rfl⟩⟩
theorem oX_X6_tagHangs : mOKV yX6_tagHangs cX6_tagHangs mX6_tagHangs 0 6 := ⟨⟨wsA_at 496 (by decide +kernel) (by decide +kernel), wsA_at 73 (by decide +kernel) (by decide +kernel), by decide, by decide, by decide +kernel⟩, wsA_at 494 (by decide +kernel) (by decide +kernel), wsA_at 495 (by decide +kernel) (by decide +kernel), by decide, ⟨_, rfl, rfl⟩⟩
theorem oX_X6_isTooLateAt : mOKV yX6_isTooLateAt cX6_isTooLateAt mX6_isTooLateAt 1 6 := ⟨⟨wsA_at 513 (by decide +kernel) (by decide +kernel), wsA_at 73 (by decide +kernel) (by decide +kernel), by decide, by decide, by decide +kernel⟩, wsA_at 511 (by decide +kernel) (by decide +kernel), wsA_at 512 (by decide +kernel) (by decide +kernel), by decide, ⟨_, rfl, rfl⟩⟩
theorem oX_X6_slip : mOKV yX6_slip cX6_slip mX6_slip 0 6 := ⟨⟨wsA_at 583 (by decide +kernel) (by decide +kernel), wsA_at 73 (by decide +kernel) (by decide +kernel), by decide, by decide, by decide +kernel⟩, wsA_at 581 (by decide +kernel) (by decide +kernel), wsA_at 582 (by decide +kernel) (by decide +kernel), by decide, ⟨_, rfl, rfl⟩⟩
theorem oX_X7_init : mOKI yX7_init cX7_init mX7_init 0 := ⟨⟨wsA_at 83 (by decide +kernel) (by decide +kernel), wsA_at 69 (by decide +kernel) (by decide +kernel), by decide, by decide, by decide +kernel⟩, wsA_at 82 (by decide +kernel) (by decide +kernel), rfl, rfl⟩
theorem oX_X7_addAsset : mOKV yX7_addAsset cX7_addAsset mX7_addAsset 2 7 := ⟨⟨wsA_at 333 (by decide +kernel) (by decide +kernel), wsA_at 69 (by decide +kernel) (by decide +kernel), by decide, by decide, by decide +kernel⟩, wsA_at 331 (by decide +kernel) (by decide +kernel), wsA_at 332 (by decide +kernel) (by decide +kernel), by decide, ⟨_, rfl, rfl⟩⟩
theorem oX_X7_link : mOKV yX7_link cX7_link mX7_link 3 7 := ⟨⟨wsA_at 374 (by decide +kernel) (by decide +kernel), wsA_at 69 (by decide +kernel) (by decide +kernel), by decide, by decide, by decide +kernel⟩, wsA_at 372 (by decide +kernel) (by decide +kernel), wsA_at 373 (by decide +kernel) (by decide +kernel), by decide, ⟨_, rfl, rfl⟩⟩
theorem oX_X7_bar : mOKV yX7_bar cX7_bar mX7_bar 3 7 := ⟨⟨wsA_at 396 (by decide +kernel) (by decide +kernel), wsA_at 69 (by decide +kernel) (by decide +kernel), by decide, by decide, by decide +kernel⟩, wsA_at 394 (by decide +kernel) (by decide +kernel), wsA_at 395 (by decide +kernel) (by decide +kernel), by decide, ⟨_, rfl, rfl⟩⟩
theorem oX_X7_addCrew : mOKV yX7_addCrew cX7_addCrew mX7_addCrew 2 7 := ⟨⟨wsA_at 408 (by decide +kernel) (by decide +kernel), wsA_at 69 (by decide +kernel) (by decide +kernel), by decide, by decide, by decide +kernel⟩, wsA_at 406 (by decide +kernel) (by decide +kernel), wsA_at 407 (by decide +kernel) (by decide +kernel), by decide, ⟨_, rfl, rfl⟩⟩
theorem oX_X7_addTask : mOKV yX7_addTask cX7_addTask mX7_addTask 6 7 := ⟨⟨wsA_at 420 (by decide +kernel) (by decide +kernel), wsA_at 69 (by decide +kernel) (by decide +kernel), by decide, by decide, by decide +kernel⟩, wsA_at 418 (by decide +kernel) (by decide +kernel), wsA_at 419 (by decide +kernel) (by decide +kernel), by decide, ⟨_, rfl, rfl⟩⟩
theorem oX_X7_run : mOKV yX7_run cX7_run mX7_run 1 7 := ⟨⟨wsA_at 432 (by decide +kernel) (by decide +kernel), wsA_at 69 (by decide +kernel) (by decide +kernel), by decide, by decide, by decide +kernel⟩, wsA_at 430 (by decide +kernel) (by decide +kernel), wsA_at 431 (by decide +kernel) (by decide +kernel), by decide, ⟨_, rfl, rfl⟩⟩
theorem oX_X7_stop : mOKV yX7_stop cX7_stop mX7_stop 1 7 := ⟨⟨wsA_at 456 (by decide +kernel) (by decide +kernel), wsA_at 69 (by decide +kernel) (by decide +kernel), by decide, by decide, by decide +kernel⟩, wsA_at 454 (by decide +kernel) (by decide +kernel), wsA_at 455 (by decide +kernel) (by decide +kernel), by decide, ⟨_, rfl, rfl⟩⟩
theorem oX_X7_hang : mOKV yX7_hang cX7_hang mX7_hang 2 7 := ⟨⟨wsA_at 464 (by decide +kernel) (by decide +kernel), wsA_at 69 (by decide +kernel) (by decide +kernel), by decide, by decide, by decide +kernel⟩, wsA_at 462 (by decide +kernel) (by decide +kernel), wsA_at 463 (by decide +kernel) (by decide +kernel), by decide, ⟨_, rfl, rfl⟩⟩
theorem oX_X7_begin : mOKV yX7_begin cX7_begin mX7_begin 1 7 := ⟨⟨wsA_at 501 (by decide +kernel) (by decide +kernel), wsA_at 69 (by decide +kernel) (by decide +kernel), by decide, by decide, by decide +kernel⟩, wsA_at 499 (by decide +kernel) (by decide +kernel), wsA_at 500 (by decide +kernel) (by decide +kernel), by decide, ⟨_, rfl, rfl⟩⟩
theorem oX_X7_lift : mOKV yX7_lift cX7_lift mX7_lift 2 7 := ⟨⟨wsA_at 525 (by decide +kernel) (by decide +kernel), wsA_at 69 (by decide +kernel) (by decide +kernel), by decide, by decide, by decide +kernel⟩, wsA_at 523 (by decide +kernel) (by decide +kernel), wsA_at 524 (by decide +kernel) (by decide +kernel), by decide, ⟨_, rfl, rfl⟩⟩
theorem oX_X7_cancel : mOKV yX7_cancel cX7_cancel mX7_cancel 1 7 := ⟨⟨wsA_at 537 (by decide +kernel) (by decide +kernel), wsA_at 69 (by decide +kernel) (by decide +kernel), by decide, by decide, by decide +kernel⟩, wsA_at 535 (by decide +kernel) (by decide +kernel), wsA_at 536 (by decide +kernel) (by decide +kernel), by decide, ⟨_, rfl, rfl⟩⟩
theorem oX_X7_pass : mOKV yX7_pass cX7_pass mX7_pass 1 7 := ⟨⟨wsA_at 545 (by decide +kernel) (by decide +kernel), wsA_at 69 (by decide +kernel) (by decide +kernel), by decide, by decide, by decide +kernel⟩, wsA_at 543 (by decide +kernel) (by decide +kernel), wsA_at 544 (by decide +kernel) (by decide +kernel), by decide, ⟨_, rfl, rfl⟩⟩
theorem oX_X7_type : mOKV yX7_type cX7_type mX7_type 1 7 := ⟨⟨wsA_at 587 (by decide +kernel) (by decide +kernel), wsA_at 69 (by decide +kernel) (by decide +kernel), by decide, by decide, by decide +kernel⟩, wsA_at 585 (by decide +kernel) (by decide +kernel), wsA_at 586 (by decide +kernel) (by decide +kernel), by decide, ⟨_, rfl, rfl⟩⟩
theorem oX_X7_clearText : mOKV yX7_clearText cX7_clearText mX7_clearText 0 7 := ⟨⟨wsA_at 595 (by decide +kernel) (by decide +kernel), wsA_at 69 (by decide +kernel) (by decide +kernel), by decide, by decide, by decide +kernel⟩, wsA_at 593 (by decide +kernel) (by decide +kernel), wsA_at 594 (by decide +kernel) (by decide +kernel), by decide, ⟨_, rfl, rfl⟩⟩
theorem oX_X7_perform : mOKV yX7_perform cX7_perform mX7_perform 0 7 := ⟨⟨wsA_at 603 (by decide +kernel) (by decide +kernel), wsA_at 69 (by decide +kernel) (by decide +kernel), by decide, by decide, by decide +kernel⟩, wsA_at 601 (by decide +kernel) (by decide +kernel), wsA_at 602 (by decide +kernel) (by decide +kernel), by decide, ⟨_, rfl, rfl⟩⟩
theorem oX_X7_undo : mOKV yX7_undo cX7_undo mX7_undo 0 7 := ⟨⟨wsA_at 643 (by decide +kernel) (by decide +kernel), wsA_at 69 (by decide +kernel) (by decide +kernel), by decide, by decide, by decide +kernel⟩, wsA_at 641 (by decide +kernel) (by decide +kernel), wsA_at 642 (by decide +kernel) (by decide +kernel), by decide, ⟨_, rfl, rfl⟩⟩
theorem oX_X7_keep : mOKV yX7_keep cX7_keep mX7_keep 0 7 := ⟨⟨wsA_at 651 (by decide +kernel) (by decide +kernel), wsA_at 69 (by decide +kernel) (by decide +kernel), by decide, by decide, by decide +kernel⟩, wsA_at 649 (by decide +kernel) (by decide +kernel), wsA_at 650 (by decide +kernel) (by decide +kernel), by decide, ⟨_, rfl, rfl⟩⟩
theorem oX_X7_restore : mOKV yX7_restore cX7_restore mX7_restore 0 7 := ⟨⟨wsA_at 655 (by decide +kernel) (by decide +kernel), wsA_at 69 (by decide +kernel) (by decide +kernel), by decide, by decide, by decide +kernel⟩, wsA_at 653 (by decide +kernel) (by decide +kernel), wsA_at 654 (by decide +kernel) (by decide +kernel), by decide, ⟨_, rfl, rfl⟩⟩
theorem oX_X7_real : mOKV yX7_real cX7_real mX7_real 2 7 := ⟨⟨wsA_at 659 (by decide +kernel) (by decide +kernel), wsA_at 69 (by decide +kernel) (by decide +kernel), by decide, by decide, by decide +kernel⟩, wsA_at 657 (by decide +kernel) (by decide +kernel), wsA_at 658 (by decide +kernel) (by decide +kernel), by decide, ⟨_, rfl, rfl⟩⟩
theorem oX_X7_healthIn : mOKV yX7_healthIn cX7_healthIn mX7_healthIn 2 7 := ⟨⟨wsA_at 665 (by decide +kernel) (by decide +kernel), wsA_at 69 (by decide +kernel) (by decide +kernel), by decide, by decide, by decide +kernel⟩, wsA_at 663 (by decide +kernel) (by decide +kernel), wsA_at 664 (by decide +kernel) (by decide +kernel), by decide, ⟨_, rfl, rfl⟩⟩
theorem oX_X7_hoursTo : mOKV yX7_hoursTo cX7_hoursTo mX7_hoursTo 2 7 := ⟨⟨wsA_at 674 (by decide +kernel) (by decide +kernel), wsA_at 69 (by decide +kernel) (by decide +kernel), by decide, by decide, by decide +kernel⟩, wsA_at 672 (by decide +kernel) (by decide +kernel), wsA_at 673 (by decide +kernel) (by decide +kernel), by decide, ⟨_, rfl, rfl⟩⟩
theorem oX_X7_asset : mOKV yX7_asset cX7_asset mX7_asset 2 7 := ⟨⟨wsA_at 683 (by decide +kernel) (by decide +kernel), wsA_at 69 (by decide +kernel) (by decide +kernel), by decide, by decide, by decide +kernel⟩, wsA_at 681 (by decide +kernel) (by decide +kernel), wsA_at 682 (by decide +kernel) (by decide +kernel), by decide, ⟨_, rfl, rfl⟩⟩
theorem oX_X7_tagAt : mOKV yX7_tagAt cX7_tagAt mX7_tagAt 2 7 := ⟨⟨wsA_at 691 (by decide +kernel) (by decide +kernel), wsA_at 69 (by decide +kernel) (by decide +kernel), by decide, by decide, by decide +kernel⟩, wsA_at 689 (by decide +kernel) (by decide +kernel), wsA_at 690 (by decide +kernel) (by decide +kernel), by decide, ⟨_, rfl, rfl⟩⟩
theorem oX_X7_crew : mOKV yX7_crew cX7_crew mX7_crew 2 7 := ⟨⟨wsA_at 695 (by decide +kernel) (by decide +kernel), wsA_at 69 (by decide +kernel) (by decide +kernel), by decide, by decide, by decide +kernel⟩, wsA_at 693 (by decide +kernel) (by decide +kernel), wsA_at 694 (by decide +kernel) (by decide +kernel), by decide, ⟨_, rfl, rfl⟩⟩
theorem oX_X7_task : mOKV yX7_task cX7_task mX7_task 2 7 := ⟨⟨wsA_at 705 (by decide +kernel) (by decide +kernel), wsA_at 69 (by decide +kernel) (by decide +kernel), by decide, by decide, by decide +kernel⟩, wsA_at 703 (by decide +kernel) (by decide +kernel), wsA_at 704 (by decide +kernel) (by decide +kernel), by decide, ⟨_, rfl, rfl⟩⟩
theorem oX_X7_crewFor : mOKV yX7_crewFor cX7_crewFor mX7_crewFor 1 7 := ⟨⟨wsA_at 712 (by decide +kernel) (by decide +kernel), wsA_at 69 (by decide +kernel) (by decide +kernel), by decide, by decide, by decide +kernel⟩, wsA_at 710 (by decide +kernel) (by decide +kernel), wsA_at 711 (by decide +kernel) (by decide +kernel), by decide, ⟨_, rfl, rfl⟩⟩
theorem oX_X7_count : mOKV yX7_count cX7_count mX7_count 1 7 := ⟨⟨wsA_at 720 (by decide +kernel) (by decide +kernel), wsA_at 69 (by decide +kernel) (by decide +kernel), by decide, by decide, by decide +kernel⟩, wsA_at 718 (by decide +kernel) (by decide +kernel), wsA_at 719 (by decide +kernel) (by decide +kernel), by decide, ⟨_, rfl, rfl⟩⟩
theorem oX_X7_recorded : mOKV yX7_recorded cX7_recorded mX7_recorded 1 7 := ⟨⟨wsA_at 365 (by decide +kernel) (by decide +kernel), wsA_at 69 (by decide +kernel) (by decide +kernel), by decide, by decide, by decide +kernel⟩, wsA_at 364 (by decide +kernel) (by decide +kernel), wsA_at 0 (by decide +kernel) (by decide +kernel), by decide, ⟨_, rfl, rfl⟩⟩
theorem oX_X7_follow : mOKV yX7_follow cX7_follow mX7_follow 1 7 := ⟨⟨wsA_at 639 (by decide +kernel) (by decide +kernel), wsA_at 69 (by decide +kernel) (by decide +kernel), by decide, by decide, by decide +kernel⟩, wsA_at 638 (by decide +kernel) (by decide +kernel), wsA_at 16 (by decide +kernel) (by decide +kernel), by decide, ⟨_, rfl, rfl⟩⟩
theorem oX_X7_within : mOKS yX7_within cX7_within mX7_within 3 := ⟨⟨wsA_at 356 (by decide +kernel) (by decide +kernel), wsA_at 69 (by decide +kernel) (by decide +kernel), by decide, by decide, by decide +kernel⟩, wsA_at 355 (by decide +kernel) (by decide +kernel)⟩
theorem oX_X8_init : mOKI yX8_init cX8_init mX8_init 0 := ⟨⟨wsA_at 738 (by decide +kernel) (by decide +kernel), wsA_at 77 (by decide +kernel) (by decide +kernel), by decide, by decide, by decide +kernel⟩, wsA_at 737 (by decide +kernel) (by decide +kernel), rfl, rfl⟩
theorem oX_X8_isIn : mOKS yX8_isIn cX8_isIn mX8_isIn 3 := ⟨⟨wsA_at 825 (by decide +kernel) (by decide +kernel), wsA_at 77 (by decide +kernel) (by decide +kernel), by decide, by decide, by decide +kernel⟩, wsA_at 824 (by decide +kernel) (by decide +kernel)⟩
theorem oX_X8_of : mOKV yX8_of cX8_of mX8_of 2 8 := ⟨⟨wsA_at 841 (by decide +kernel) (by decide +kernel), wsA_at 77 (by decide +kernel) (by decide +kernel), by decide, by decide, by decide +kernel⟩, wsA_at 840 (by decide +kernel) (by decide +kernel), wsA_at 24 (by decide +kernel) (by decide +kernel), by decide, ⟨_, rfl, rfl⟩⟩
theorem oX_X8_sets : mOKV yX8_sets cX8_sets mX8_sets 3 8 := ⟨⟨wsA_at 829 (by decide +kernel) (by decide +kernel), wsA_at 77 (by decide +kernel) (by decide +kernel), by decide, by decide, by decide +kernel⟩, wsA_at 828 (by decide +kernel) (by decide +kernel), wsA_at 22 (by decide +kernel) (by decide +kernel), by decide, ⟨_, rfl, rfl⟩⟩
theorem oX_X8_ofTask : mOKV yX8_ofTask cX8_ofTask mX8_ofTask 2 8 := ⟨⟨wsA_at 912 (by decide +kernel) (by decide +kernel), wsA_at 77 (by decide +kernel) (by decide +kernel), by decide, by decide, by decide +kernel⟩, wsA_at 911 (by decide +kernel) (by decide +kernel), wsA_at 35 (by decide +kernel) (by decide +kernel), by decide, ⟨_, rfl, rfl⟩⟩
theorem oX_X8_setsTask : mOKV yX8_setsTask cX8_setsTask mX8_setsTask 3 8 := ⟨⟨wsA_at 864 (by decide +kernel) (by decide +kernel), wsA_at 77 (by decide +kernel) (by decide +kernel), by decide, by decide, by decide +kernel⟩, wsA_at 863 (by decide +kernel) (by decide +kernel), wsA_at 26 (by decide +kernel) (by decide +kernel), by decide, ⟨_, rfl, rfl⟩⟩
theorem oX_X8_isAsset : mOKV yX8_isAsset cX8_isAsset mX8_isAsset 1 8 := ⟨⟨wsA_at 837 (by decide +kernel) (by decide +kernel), wsA_at 77 (by decide +kernel) (by decide +kernel), by decide, by decide, by decide +kernel⟩, wsA_at 836 (by decide +kernel) (by decide +kernel), wsA_at 23 (by decide +kernel) (by decide +kernel), by decide, ⟨_, rfl, rfl⟩⟩
theorem oX_X8_isCrew : mOKV yX8_isCrew cX8_isCrew mX8_isCrew 1 8 := ⟨⟨wsA_at 904 (by decide +kernel) (by decide +kernel), wsA_at 77 (by decide +kernel) (by decide +kernel), by decide, by decide, by decide +kernel⟩, wsA_at 903 (by decide +kernel) (by decide +kernel), wsA_at 33 (by decide +kernel) (by decide +kernel), by decide, ⟨_, rfl, rfl⟩⟩
theorem oX_X8_isTask : mOKV yX8_isTask cX8_isTask mX8_isTask 1 8 := ⟨⟨wsA_at 900 (by decide +kernel) (by decide +kernel), wsA_at 77 (by decide +kernel) (by decide +kernel), by decide, by decide, by decide +kernel⟩, wsA_at 899 (by decide +kernel) (by decide +kernel), wsA_at 32 (by decide +kernel) (by decide +kernel), by decide, ⟨_, rfl, rfl⟩⟩
theorem oX_X8_ones : mOKS yX8_ones cX8_ones mX8_ones 1 := ⟨⟨wsA_at 844 (by decide +kernel) (by decide +kernel), wsA_at 77 (by decide +kernel) (by decide +kernel), by decide, by decide, by decide +kernel⟩, wsA_at 843 (by decide +kernel) (by decide +kernel)⟩
theorem oX_X8_keeps : mOKV yX8_keeps cX8_keeps mX8_keeps 1 8 := ⟨⟨wsA_at 802 (by decide +kernel) (by decide +kernel), wsA_at 77 (by decide +kernel) (by decide +kernel), by decide, by decide, by decide +kernel⟩, wsA_at 801 (by decide +kernel) (by decide +kernel), wsA_at 18 (by decide +kernel) (by decide +kernel), by decide, ⟨_, rfl, rfl⟩⟩
theorem oX_X8_brings : mOKV yX8_brings cX8_brings mX8_brings 1 8 := ⟨⟨wsA_at 794 (by decide +kernel) (by decide +kernel), wsA_at 77 (by decide +kernel) (by decide +kernel), by decide, by decide, by decide +kernel⟩, wsA_at 793 (by decide +kernel) (by decide +kernel), wsA_at 17 (by decide +kernel) (by decide +kernel), by decide, ⟨_, rfl, rfl⟩⟩
theorem oX_X8_copies : mOKV yX8_copies cX8_copies mX8_copies 2 8 := ⟨⟨wsA_at 818 (by decide +kernel) (by decide +kernel), wsA_at 77 (by decide +kernel) (by decide +kernel), by decide, by decide, by decide +kernel⟩, wsA_at 817 (by decide +kernel) (by decide +kernel), wsA_at 21 (by decide +kernel) (by decide +kernel), by decide, ⟨_, rfl, rfl⟩⟩
theorem oX_X8_recordsTrial : mOKV yX8_recordsTrial cX8_recordsTrial mX8_recordsTrial 0 8 := ⟨⟨wsA_at 814 (by decide +kernel) (by decide +kernel), wsA_at 77 (by decide +kernel) (by decide +kernel), by decide, by decide, by decide +kernel⟩, wsA_at 813 (by decide +kernel) (by decide +kernel), wsA_at 20 (by decide +kernel) (by decide +kernel), by decide, ⟨_, rfl, rfl⟩⟩
theorem oX_X8_records : mOKV yX8_records cX8_records mX8_records 0 8 := ⟨⟨wsA_at 810 (by decide +kernel) (by decide +kernel), wsA_at 77 (by decide +kernel) (by decide +kernel), by decide, by decide, by decide +kernel⟩, wsA_at 809 (by decide +kernel) (by decide +kernel), wsA_at 19 (by decide +kernel) (by decide +kernel), by decide, ⟨_, rfl, rfl⟩⟩
theorem oX_X8_undo : mOKV yX8_undo cX8_undo mX8_undo 0 8 := ⟨⟨wsA_at 790 (by decide +kernel) (by decide +kernel), wsA_at 77 (by decide +kernel) (by decide +kernel), by decide, by decide, by decide +kernel⟩, wsA_at 788 (by decide +kernel) (by decide +kernel), wsA_at 789 (by decide +kernel) (by decide +kernel), by decide, ⟨_, rfl, rfl⟩⟩
theorem oX_X8_keep : mOKV yX8_keep cX8_keep mX8_keep 0 8 := ⟨⟨wsA_at 798 (by decide +kernel) (by decide +kernel), wsA_at 77 (by decide +kernel) (by decide +kernel), by decide, by decide, by decide +kernel⟩, wsA_at 796 (by decide +kernel) (by decide +kernel), wsA_at 797 (by decide +kernel) (by decide +kernel), by decide, ⟨_, rfl, rfl⟩⟩
theorem oX_X8_restore : mOKV yX8_restore cX8_restore mX8_restore 0 8 := ⟨⟨wsA_at 806 (by decide +kernel) (by decide +kernel), wsA_at 77 (by decide +kernel) (by decide +kernel), by decide, by decide, by decide +kernel⟩, wsA_at 804 (by decide +kernel) (by decide +kernel), wsA_at 805 (by decide +kernel) (by decide +kernel), by decide, ⟨_, rfl, rfl⟩⟩
theorem oX_X8_addAsset : mOKV yX8_addAsset cX8_addAsset mX8_addAsset 2 8 := ⟨⟨wsA_at 822 (by decide +kernel) (by decide +kernel), wsA_at 77 (by decide +kernel) (by decide +kernel), by decide, by decide, by decide +kernel⟩, wsA_at 820 (by decide +kernel) (by decide +kernel), wsA_at 821 (by decide +kernel) (by decide +kernel), by decide, ⟨_, rfl, rfl⟩⟩
theorem oX_X8_link : mOKV yX8_link cX8_link mX8_link 3 8 := ⟨⟨wsA_at 833 (by decide +kernel) (by decide +kernel), wsA_at 77 (by decide +kernel) (by decide +kernel), by decide, by decide, by decide +kernel⟩, wsA_at 831 (by decide +kernel) (by decide +kernel), wsA_at 832 (by decide +kernel) (by decide +kernel), by decide, ⟨_, rfl, rfl⟩⟩
theorem oX_X8_bars : mOKV yX8_bars cX8_bars mX8_bars 2 8 := ⟨⟨wsA_at 852 (by decide +kernel) (by decide +kernel), wsA_at 77 (by decide +kernel) (by decide +kernel), by decide, by decide, by decide +kernel⟩, wsA_at 851 (by decide +kernel) (by decide +kernel), wsA_at 25 (by decide +kernel) (by decide +kernel), by decide, ⟨_, rfl, rfl⟩⟩
theorem oX_X8_bar : mOKV yX8_bar cX8_bar mX8_bar 3 8 := ⟨⟨wsA_at 848 (by decide +kernel) (by decide +kernel), wsA_at 77 (by decide +kernel) (by decide +kernel), by decide, by decide, by decide +kernel⟩, wsA_at 846 (by decide +kernel) (by decide +kernel), wsA_at 847 (by decide +kernel) (by decide +kernel), by decide, ⟨_, rfl, rfl⟩⟩
theorem oX_X8_addCrew : mOKV yX8_addCrew cX8_addCrew mX8_addCrew 2 8 := ⟨⟨wsA_at 856 (by decide +kernel) (by decide +kernel), wsA_at 77 (by decide +kernel) (by decide +kernel), by decide, by decide, by decide +kernel⟩, wsA_at 854 (by decide +kernel) (by decide +kernel), wsA_at 855 (by decide +kernel) (by decide +kernel), by decide, ⟨_, rfl, rfl⟩⟩
theorem oX_X8_addTask : mOKV yX8_addTask cX8_addTask mX8_addTask 6 8 := ⟨⟨wsA_at 860 (by decide +kernel) (by decide +kernel), wsA_at 77 (by decide +kernel) (by decide +kernel), by decide, by decide, by decide +kernel⟩, wsA_at 858 (by decide +kernel) (by decide +kernel), wsA_at 859 (by decide +kernel) (by decide +kernel), by decide, ⟨_, rfl, rfl⟩⟩
theorem oX_X8_stateOf : mOKV yX8_stateOf cX8_stateOf mX8_stateOf 1 8 := ⟨⟨wsA_at 908 (by decide +kernel) (by decide +kernel), wsA_at 77 (by decide +kernel) (by decide +kernel), by decide, by decide, by decide +kernel⟩, wsA_at 907 (by decide +kernel) (by decide +kernel), wsA_at 34 (by decide +kernel) (by decide +kernel), by decide, ⟨_, rfl, rfl⟩⟩
theorem oX_X8_isBusy : mOKV yX8_isBusy cX8_isBusy mX8_isBusy 1 8 := ⟨⟨wsA_at 924 (by decide +kernel) (by decide +kernel), wsA_at 77 (by decide +kernel) (by decide +kernel), by decide, by decide, by decide +kernel⟩, wsA_at 923 (by decide +kernel) (by decide +kernel), wsA_at 38 (by decide +kernel) (by decide +kernel), by decide, ⟨_, rfl, rfl⟩⟩
theorem oX_X8_busy : mOKV yX8_busy cX8_busy mX8_busy 2 8 := ⟨⟨wsA_at 920 (by decide +kernel) (by decide +kernel), wsA_at 77 (by decide +kernel) (by decide +kernel), by decide, by decide, by decide +kernel⟩, wsA_at 919 (by decide +kernel) (by decide +kernel), wsA_at 37 (by decide +kernel) (by decide +kernel), by decide, ⟨_, rfl, rfl⟩⟩
theorem oX_X8_canHang : mOKV yX8_canHang cX8_canHang mX8_canHang 2 8 := ⟨⟨wsA_at 916 (by decide +kernel) (by decide +kernel), wsA_at 77 (by decide +kernel) (by decide +kernel), by decide, by decide, by decide +kernel⟩, wsA_at 915 (by decide +kernel) (by decide +kernel), wsA_at 36 (by decide +kernel) (by decide +kernel), by decide, ⟨_, rfl, rfl⟩⟩
theorem oX_X8_endOf : mOKV yX8_endOf cX8_endOf mX8_endOf 1 8 := ⟨⟨wsA_at 948 (by decide +kernel) (by decide +kernel), wsA_at 77 (by decide +kernel) (by decide +kernel), by decide, by decide, by decide +kernel⟩, wsA_at 947 (by decide +kernel) (by decide +kernel), wsA_at 43 (by decide +kernel) (by decide +kernel), by decide, ⟨_, rfl, rfl⟩⟩
theorem oX_X8_barredBy : mOKV yX8_barredBy cX8_barredBy mX8_barredBy 1 8 := ⟨⟨wsA_at 952 (by decide +kernel) (by decide +kernel), wsA_at 77 (by decide +kernel) (by decide +kernel), by decide, by decide, by decide +kernel⟩, wsA_at 951 (by decide +kernel) (by decide +kernel), wsA_at 44 (by decide +kernel) (by decide +kernel), by decide, ⟨_, rfl, rfl⟩⟩
theorem oX_X8_isTooLate : mOKV yX8_isTooLate cX8_isTooLate mX8_isTooLate 1 8 := ⟨⟨wsA_at 944 (by decide +kernel) (by decide +kernel), wsA_at 77 (by decide +kernel) (by decide +kernel), by decide, by decide, by decide +kernel⟩, wsA_at 943 (by decide +kernel) (by decide +kernel), wsA_at 42 (by decide +kernel) (by decide +kernel), by decide, ⟨_, rfl, rfl⟩⟩
theorem oX_X8_reasonOf : mOKV yX8_reasonOf cX8_reasonOf mX8_reasonOf 1 8 := ⟨⟨wsA_at 940 (by decide +kernel) (by decide +kernel), wsA_at 77 (by decide +kernel) (by decide +kernel), by decide, by decide, by decide +kernel⟩, wsA_at 939 (by decide +kernel) (by decide +kernel), wsA_at 41 (by decide +kernel) (by decide +kernel), by decide, ⟨_, rfl, rfl⟩⟩
theorem oX_X8_running : mOKV yX8_running cX8_running mX8_running 0 8 := ⟨⟨wsA_at 880 (by decide +kernel) (by decide +kernel), wsA_at 77 (by decide +kernel) (by decide +kernel), by decide, by decide, by decide +kernel⟩, wsA_at 879 (by decide +kernel) (by decide +kernel), wsA_at 29 (by decide +kernel) (by decide +kernel), by decide, ⟨_, rfl, rfl⟩⟩
theorem oX_X8_runError : mOKV yX8_runError cX8_runError mX8_runError 1 8 := ⟨⟨wsA_at 872 (by decide +kernel) (by decide +kernel), wsA_at 77 (by decide +kernel) (by decide +kernel), by decide, by decide, by decide +kernel⟩, wsA_at 871 (by decide +kernel) (by decide +kernel), wsA_at 27 (by decide +kernel) (by decide +kernel), by decide, ⟨_, rfl, rfl⟩⟩
theorem oX_X8_stopError : mOKV yX8_stopError cX8_stopError mX8_stopError 1 8 := ⟨⟨wsA_at 888 (by decide +kernel) (by decide +kernel), wsA_at 77 (by decide +kernel) (by decide +kernel), by decide, by decide, by decide +kernel⟩, wsA_at 887 (by decide +kernel) (by decide +kernel), wsA_at 30 (by decide +kernel) (by decide +kernel), by decide, ⟨_, rfl, rfl⟩⟩
theorem oX_X8_goes : mOKV yX8_goes cX8_goes mX8_goes 2 8 := ⟨⟨wsA_at 876 (by decide +kernel) (by decide +kernel), wsA_at 77 (by decide +kernel) (by decide +kernel), by decide, by decide, by decide +kernel⟩, wsA_at 875 (by decide +kernel) (by decide +kernel), wsA_at 28 (by decide +kernel) (by decide +kernel), by decide, ⟨_, rfl, rfl⟩⟩
theorem oX_X8_run : mOKV yX8_run cX8_run mX8_run 1 8 := ⟨⟨wsA_at 868 (by decide +kernel) (by decide +kernel), wsA_at 77 (by decide +kernel) (by decide +kernel), by decide, by decide, by decide +kernel⟩, wsA_at 866 (by decide +kernel) (by decide +kernel), wsA_at 867 (by decide +kernel) (by decide +kernel), by decide, ⟨_, rfl, rfl⟩⟩
theorem oX_X8_stop : mOKV yX8_stop cX8_stop mX8_stop 1 8 := ⟨⟨wsA_at 884 (by decide +kernel) (by decide +kernel), wsA_at 77 (by decide +kernel) (by decide +kernel), by decide, by decide, by decide +kernel⟩, wsA_at 882 (by decide +kernel) (by decide +kernel), wsA_at 883 (by decide +kernel) (by decide +kernel), by decide, ⟨_, rfl, rfl⟩⟩
theorem oX_X8_hangError : mOKV yX8_hangError cX8_hangError mX8_hangError 2 8 := ⟨⟨wsA_at 896 (by decide +kernel) (by decide +kernel), wsA_at 77 (by decide +kernel) (by decide +kernel), by decide, by decide, by decide +kernel⟩, wsA_at 895 (by decide +kernel) (by decide +kernel), wsA_at 31 (by decide +kernel) (by decide +kernel), by decide, ⟨_, rfl, rfl⟩⟩
theorem oX_X8_hangs : mOKV yX8_hangs cX8_hangs mX8_hangs 2 8 := ⟨⟨wsA_at 928 (by decide +kernel) (by decide +kernel), wsA_at 77 (by decide +kernel) (by decide +kernel), by decide, by decide, by decide +kernel⟩, wsA_at 927 (by decide +kernel) (by decide +kernel), wsA_at 39 (by decide +kernel) (by decide +kernel), by decide, ⟨_, rfl, rfl⟩⟩
theorem oX_X8_hang : mOKV yX8_hang cX8_hang mX8_hang 2 8 := ⟨⟨wsA_at 892 (by decide +kernel) (by decide +kernel), wsA_at 77 (by decide +kernel) (by decide +kernel), by decide, by decide, by decide +kernel⟩, wsA_at 890 (by decide +kernel) (by decide +kernel), wsA_at 891 (by decide +kernel) (by decide +kernel), by decide, ⟨_, rfl, rfl⟩⟩
theorem oX_X8_beginError : mOKV yX8_beginError cX8_beginError mX8_beginError 1 8 := ⟨⟨wsA_at 936 (by decide +kernel) (by decide +kernel), wsA_at 77 (by decide +kernel) (by decide +kernel), by decide, by decide, by decide +kernel⟩, wsA_at 935 (by decide +kernel) (by decide +kernel), wsA_at 40 (by decide +kernel) (by decide +kernel), by decide, ⟨_, rfl, rfl⟩⟩
theorem oX_X8_begins : mOKV yX8_begins cX8_begins mX8_begins 1 8 := ⟨⟨wsA_at 956 (by decide +kernel) (by decide +kernel), wsA_at 77 (by decide +kernel) (by decide +kernel), by decide, by decide, by decide +kernel⟩, wsA_at 955 (by decide +kernel) (by decide +kernel), wsA_at 45 (by decide +kernel) (by decide +kernel), by decide, ⟨_, rfl, rfl⟩⟩
theorem oX_X8_begin : mOKV yX8_begin cX8_begin mX8_begin 1 8 := ⟨⟨wsA_at 932 (by decide +kernel) (by decide +kernel), wsA_at 77 (by decide +kernel) (by decide +kernel), by decide, by decide, by decide +kernel⟩, wsA_at 930 (by decide +kernel) (by decide +kernel), wsA_at 931 (by decide +kernel) (by decide +kernel), by decide, ⟨_, rfl, rfl⟩⟩
theorem oX_X8_topOf : mOKV yX8_topOf cX8_topOf mX8_topOf 1 8 := ⟨⟨wsA_at 968 (by decide +kernel) (by decide +kernel), wsA_at 77 (by decide +kernel) (by decide +kernel), by decide, by decide, by decide +kernel⟩, wsA_at 967 (by decide +kernel) (by decide +kernel), wsA_at 47 (by decide +kernel) (by decide +kernel), by decide, ⟨_, rfl, rfl⟩⟩
theorem oX_X8_liftError : mOKV yX8_liftError cX8_liftError mX8_liftError 2 8 := ⟨⟨wsA_at 964 (by decide +kernel) (by decide +kernel), wsA_at 77 (by decide +kernel) (by decide +kernel), by decide, by decide, by decide +kernel⟩, wsA_at 963 (by decide +kernel) (by decide +kernel), wsA_at 46 (by decide +kernel) (by decide +kernel), by decide, ⟨_, rfl, rfl⟩⟩
theorem oX_X8_lifts : mOKV yX8_lifts cX8_lifts mX8_lifts 1 8 := ⟨⟨wsA_at 972 (by decide +kernel) (by decide +kernel), wsA_at 77 (by decide +kernel) (by decide +kernel), by decide, by decide, by decide +kernel⟩, wsA_at 971 (by decide +kernel) (by decide +kernel), wsA_at 48 (by decide +kernel) (by decide +kernel), by decide, ⟨_, rfl, rfl⟩⟩
theorem oX_X8_lift : mOKV yX8_lift cX8_lift mX8_lift 2 8 := ⟨⟨wsA_at 960 (by decide +kernel) (by decide +kernel), wsA_at 77 (by decide +kernel) (by decide +kernel), by decide, by decide, by decide +kernel⟩, wsA_at 958 (by decide +kernel) (by decide +kernel), wsA_at 959 (by decide +kernel) (by decide +kernel), by decide, ⟨_, rfl, rfl⟩⟩
theorem oX_X8_cancel : mOKV yX8_cancel cX8_cancel mX8_cancel 1 8 := ⟨⟨wsA_at 976 (by decide +kernel) (by decide +kernel), wsA_at 77 (by decide +kernel) (by decide +kernel), by decide, by decide, by decide +kernel⟩, wsA_at 974 (by decide +kernel) (by decide +kernel), wsA_at 975 (by decide +kernel) (by decide +kernel), by decide, ⟨_, rfl, rfl⟩⟩
theorem oX_X8_worn : mOKV yX8_worn cX8_worn mX8_worn 2 8 := ⟨⟨wsA_at 1000 (by decide +kernel) (by decide +kernel), wsA_at 77 (by decide +kernel) (by decide +kernel), by decide, by decide, by decide +kernel⟩, wsA_at 999 (by decide +kernel) (by decide +kernel), wsA_at 53 (by decide +kernel) (by decide +kernel), by decide, ⟨_, rfl, rfl⟩⟩
theorem oX_X8_runsHour : mOKV yX8_runsHour cX8_runsHour mX8_runsHour 1 8 := ⟨⟨wsA_at 996 (by decide +kernel) (by decide +kernel), wsA_at 77 (by decide +kernel) (by decide +kernel), by decide, by decide, by decide +kernel⟩, wsA_at 995 (by decide +kernel) (by decide +kernel), wsA_at 52 (by decide +kernel) (by decide +kernel), by decide, ⟨_, rfl, rfl⟩⟩
theorem oX_X8_slips : mOKV yX8_slips cX8_slips mX8_slips 1 8 := ⟨⟨wsA_at 1007 (by decide +kernel) (by decide +kernel), wsA_at 77 (by decide +kernel) (by decide +kernel), by decide, by decide, by decide +kernel⟩, wsA_at 1006 (by decide +kernel) (by decide +kernel), wsA_at 54 (by decide +kernel) (by decide +kernel), by decide, ⟨_, rfl, rfl⟩⟩
theorem oX_X8_passesHour : mOKV yX8_passesHour cX8_passesHour mX8_passesHour 0 8 := ⟨⟨wsA_at 992 (by decide +kernel) (by decide +kernel), wsA_at 77 (by decide +kernel) (by decide +kernel), by decide, by decide, by decide +kernel⟩, wsA_at 991 (by decide +kernel) (by decide +kernel), wsA_at 51 (by decide +kernel) (by decide +kernel), by decide, ⟨_, rfl, rfl⟩⟩
theorem oX_X8_passError : mOKV yX8_passError cX8_passError mX8_passError 1 8 := ⟨⟨wsA_at 984 (by decide +kernel) (by decide +kernel), wsA_at 77 (by decide +kernel) (by decide +kernel), by decide, by decide, by decide +kernel⟩, wsA_at 983 (by decide +kernel) (by decide +kernel), wsA_at 49 (by decide +kernel) (by decide +kernel), by decide, ⟨_, rfl, rfl⟩⟩
theorem oX_X8_passes : mOKV yX8_passes cX8_passes mX8_passes 1 8 := ⟨⟨wsA_at 988 (by decide +kernel) (by decide +kernel), wsA_at 77 (by decide +kernel) (by decide +kernel), by decide, by decide, by decide +kernel⟩, wsA_at 987 (by decide +kernel) (by decide +kernel), wsA_at 50 (by decide +kernel) (by decide +kernel), by decide, ⟨_, rfl, rfl⟩⟩
theorem oX_X8_pass : mOKV yX8_pass cX8_pass mX8_pass 1 8 := ⟨⟨wsA_at 980 (by decide +kernel) (by decide +kernel), wsA_at 77 (by decide +kernel) (by decide +kernel), by decide, by decide, by decide +kernel⟩, wsA_at 978 (by decide +kernel) (by decide +kernel), wsA_at 979 (by decide +kernel) (by decide +kernel), by decide, ⟨_, rfl, rfl⟩⟩
theorem oX_X8_type : mOKV yX8_type cX8_type mX8_type 1 8 := ⟨⟨wsA_at 1011 (by decide +kernel) (by decide +kernel), wsA_at 77 (by decide +kernel) (by decide +kernel), by decide, by decide, by decide +kernel⟩, wsA_at 1009 (by decide +kernel) (by decide +kernel), wsA_at 1010 (by decide +kernel) (by decide +kernel), by decide, ⟨_, rfl, rfl⟩⟩
theorem oX_X8_clearText : mOKV yX8_clearText cX8_clearText mX8_clearText 0 8 := ⟨⟨wsA_at 1015 (by decide +kernel) (by decide +kernel), wsA_at 77 (by decide +kernel) (by decide +kernel), by decide, by decide, by decide +kernel⟩, wsA_at 1013 (by decide +kernel) (by decide +kernel), wsA_at 1014 (by decide +kernel) (by decide +kernel), by decide, ⟨_, rfl, rfl⟩⟩
theorem oX_X8_isHere : mOKV yX8_isHere cX8_isHere mX8_isHere 2 8 := ⟨⟨wsA_at 1035 (by decide +kernel) (by decide +kernel), wsA_at 77 (by decide +kernel) (by decide +kernel), by decide, by decide, by decide +kernel⟩, wsA_at 1034 (by decide +kernel) (by decide +kernel), wsA_at 58 (by decide +kernel) (by decide +kernel), by decide, ⟨_, rfl, rfl⟩⟩
theorem oX_X8_passesSign : mOKV yX8_passesSign cX8_passesSign mX8_passesSign 1 8 := ⟨⟨wsA_at 1039 (by decide +kernel) (by decide +kernel), wsA_at 77 (by decide +kernel) (by decide +kernel), by decide, by decide, by decide +kernel⟩, wsA_at 1038 (by decide +kernel) (by decide +kernel), wsA_at 59 (by decide +kernel) (by decide +kernel), by decide, ⟨_, rfl, rfl⟩⟩
theorem oX_X8_passesNumber : mOKV yX8_passesNumber cX8_passesNumber mX8_passesNumber 1 8 := ⟨⟨wsA_at 1031 (by decide +kernel) (by decide +kernel), wsA_at 77 (by decide +kernel) (by decide +kernel), by decide, by decide, by decide +kernel⟩, wsA_at 1030 (by decide +kernel) (by decide +kernel), wsA_at 57 (by decide +kernel) (by decide +kernel), by decide, ⟨_, rfl, rfl⟩⟩
theorem oX_X8_passesOrder : mOKV yX8_passesOrder cX8_passesOrder mX8_passesOrder 0 8 := ⟨⟨wsA_at 1027 (by decide +kernel) (by decide +kernel), wsA_at 77 (by decide +kernel) (by decide +kernel), by decide, by decide, by decide +kernel⟩, wsA_at 1026 (by decide +kernel) (by decide +kernel), wsA_at 56 (by decide +kernel) (by decide +kernel), by decide, ⟨_, rfl, rfl⟩⟩
theorem oX_X8_faultOf : mOKV yX8_faultOf cX8_faultOf mX8_faultOf 0 8 := ⟨⟨wsA_at 1023 (by decide +kernel) (by decide +kernel), wsA_at 77 (by decide +kernel) (by decide +kernel), by decide, by decide, by decide +kernel⟩, wsA_at 1022 (by decide +kernel) (by decide +kernel), wsA_at 55 (by decide +kernel) (by decide +kernel), by decide, ⟨_, rfl, rfl⟩⟩
theorem oX_X8_orderError : mOKV yX8_orderError cX8_orderError mX8_orderError 0 8 := ⟨⟨wsA_at 1043 (by decide +kernel) (by decide +kernel), wsA_at 77 (by decide +kernel) (by decide +kernel), by decide, by decide, by decide +kernel⟩, wsA_at 1042 (by decide +kernel) (by decide +kernel), wsA_at 60 (by decide +kernel) (by decide +kernel), by decide, ⟨_, rfl, rfl⟩⟩
theorem oX_X8_does : mOKV yX8_does cX8_does mX8_does 0 8 := ⟨⟨wsA_at 1047 (by decide +kernel) (by decide +kernel), wsA_at 77 (by decide +kernel) (by decide +kernel), by decide, by decide, by decide +kernel⟩, wsA_at 1046 (by decide +kernel) (by decide +kernel), wsA_at 61 (by decide +kernel) (by decide +kernel), by decide, ⟨_, rfl, rfl⟩⟩
theorem oX_X8_perform : mOKV yX8_perform cX8_perform mX8_perform 0 8 := ⟨⟨wsA_at 1019 (by decide +kernel) (by decide +kernel), wsA_at 77 (by decide +kernel) (by decide +kernel), by decide, by decide, by decide +kernel⟩, wsA_at 1017 (by decide +kernel) (by decide +kernel), wsA_at 1018 (by decide +kernel) (by decide +kernel), by decide, ⟨_, rfl, rfl⟩⟩
theorem oX_X8_real : mOKV yX8_real cX8_real mX8_real 2 8 := ⟨⟨wsA_at 1051 (by decide +kernel) (by decide +kernel), wsA_at 77 (by decide +kernel) (by decide +kernel), by decide, by decide, by decide +kernel⟩, wsA_at 1049 (by decide +kernel) (by decide +kernel), wsA_at 1050 (by decide +kernel) (by decide +kernel), by decide, ⟨_, rfl, rfl⟩⟩
theorem oX_X8_healthIn : mOKV yX8_healthIn cX8_healthIn mX8_healthIn 2 8 := ⟨⟨wsA_at 1056 (by decide +kernel) (by decide +kernel), wsA_at 77 (by decide +kernel) (by decide +kernel), by decide, by decide, by decide +kernel⟩, wsA_at 1054 (by decide +kernel) (by decide +kernel), wsA_at 1055 (by decide +kernel) (by decide +kernel), by decide, ⟨_, rfl, rfl⟩⟩
theorem oX_X8_hoursTo : mOKV yX8_hoursTo cX8_hoursTo mX8_hoursTo 2 8 := ⟨⟨wsA_at 1060 (by decide +kernel) (by decide +kernel), wsA_at 77 (by decide +kernel) (by decide +kernel), by decide, by decide, by decide +kernel⟩, wsA_at 1058 (by decide +kernel) (by decide +kernel), wsA_at 1059 (by decide +kernel) (by decide +kernel), by decide, ⟨_, rfl, rfl⟩⟩
theorem oX_X8_tasksAt : mOKV yX8_tasksAt cX8_tasksAt mX8_tasksAt 3 8 := ⟨⟨wsA_at 1069 (by decide +kernel) (by decide +kernel), wsA_at 77 (by decide +kernel) (by decide +kernel), by decide, by decide, by decide +kernel⟩, wsA_at 1068 (by decide +kernel) (by decide +kernel), wsA_at 62 (by decide +kernel) (by decide +kernel), by decide, ⟨_, rfl, rfl⟩⟩
theorem oX_X8_asset : mOKV yX8_asset cX8_asset mX8_asset 2 8 := ⟨⟨wsA_at 1065 (by decide +kernel) (by decide +kernel), wsA_at 77 (by decide +kernel) (by decide +kernel), by decide, by decide, by decide +kernel⟩, wsA_at 1063 (by decide +kernel) (by decide +kernel), wsA_at 1064 (by decide +kernel) (by decide +kernel), by decide, ⟨_, rfl, rfl⟩⟩
theorem oX_X8_tagAt : mOKV yX8_tagAt cX8_tagAt mX8_tagAt 2 8 := ⟨⟨wsA_at 1073 (by decide +kernel) (by decide +kernel), wsA_at 77 (by decide +kernel) (by decide +kernel), by decide, by decide, by decide +kernel⟩, wsA_at 1071 (by decide +kernel) (by decide +kernel), wsA_at 1072 (by decide +kernel) (by decide +kernel), by decide, ⟨_, rfl, rfl⟩⟩
theorem oX_X8_doneBy : mOKV yX8_doneBy cX8_doneBy mX8_doneBy 1 8 := ⟨⟨wsA_at 1081 (by decide +kernel) (by decide +kernel), wsA_at 77 (by decide +kernel) (by decide +kernel), by decide, by decide, by decide +kernel⟩, wsA_at 1080 (by decide +kernel) (by decide +kernel), wsA_at 63 (by decide +kernel) (by decide +kernel), by decide, ⟨_, rfl, rfl⟩⟩
theorem oX_X8_crew : mOKV yX8_crew cX8_crew mX8_crew 2 8 := ⟨⟨wsA_at 1077 (by decide +kernel) (by decide +kernel), wsA_at 77 (by decide +kernel) (by decide +kernel), by decide, by decide, by decide +kernel⟩, wsA_at 1075 (by decide +kernel) (by decide +kernel), wsA_at 1076 (by decide +kernel) (by decide +kernel), by decide, ⟨_, rfl, rfl⟩⟩
theorem oX_X8_task : mOKV yX8_task cX8_task mX8_task 2 8 := ⟨⟨wsA_at 1085 (by decide +kernel) (by decide +kernel), wsA_at 77 (by decide +kernel) (by decide +kernel), by decide, by decide, by decide +kernel⟩, wsA_at 1083 (by decide +kernel) (by decide +kernel), wsA_at 1084 (by decide +kernel) (by decide +kernel), by decide, ⟨_, rfl, rfl⟩⟩
theorem oX_X8_crewFor : mOKV yX8_crewFor cX8_crewFor mX8_crewFor 1 8 := ⟨⟨wsA_at 1089 (by decide +kernel) (by decide +kernel), wsA_at 77 (by decide +kernel) (by decide +kernel), by decide, by decide, by decide +kernel⟩, wsA_at 1087 (by decide +kernel) (by decide +kernel), wsA_at 1088 (by decide +kernel) (by decide +kernel), by decide, ⟨_, rfl, rfl⟩⟩
theorem oX_X8_inState : mOKV yX8_inState cX8_inState mX8_inState 1 8 := ⟨⟨wsA_at 1097 (by decide +kernel) (by decide +kernel), wsA_at 77 (by decide +kernel) (by decide +kernel), by decide, by decide, by decide +kernel⟩, wsA_at 1096 (by decide +kernel) (by decide +kernel), wsA_at 64 (by decide +kernel) (by decide +kernel), by decide, ⟨_, rfl, rfl⟩⟩
theorem oX_X8_tags : mOKV yX8_tags cX8_tags mX8_tags 0 8 := ⟨⟨wsA_at 1101 (by decide +kernel) (by decide +kernel), wsA_at 77 (by decide +kernel) (by decide +kernel), by decide, by decide, by decide +kernel⟩, wsA_at 1100 (by decide +kernel) (by decide +kernel), wsA_at 65 (by decide +kernel) (by decide +kernel), by decide, ⟨_, rfl, rfl⟩⟩
theorem oX_X8_allSlips : mOKV yX8_allSlips cX8_allSlips mX8_allSlips 0 8 := ⟨⟨wsA_at 1105 (by decide +kernel) (by decide +kernel), wsA_at 77 (by decide +kernel) (by decide +kernel), by decide, by decide, by decide +kernel⟩, wsA_at 1104 (by decide +kernel) (by decide +kernel), wsA_at 66 (by decide +kernel) (by decide +kernel), by decide, ⟨_, rfl, rfl⟩⟩
theorem oX_X8_allBusy : mOKV yX8_allBusy cX8_allBusy mX8_allBusy 0 8 := ⟨⟨wsA_at 1109 (by decide +kernel) (by decide +kernel), wsA_at 77 (by decide +kernel) (by decide +kernel), by decide, by decide, by decide +kernel⟩, wsA_at 1108 (by decide +kernel) (by decide +kernel), wsA_at 67 (by decide +kernel) (by decide +kernel), by decide, ⟨_, rfl, rfl⟩⟩
theorem oX_X8_count : mOKV yX8_count cX8_count mX8_count 1 8 := ⟨⟨wsA_at 1093 (by decide +kernel) (by decide +kernel), wsA_at 77 (by decide +kernel) (by decide +kernel), by decide, by decide, by decide +kernel⟩, wsA_at 1091 (by decide +kernel) (by decide +kernel), wsA_at 1092 (by decide +kernel) (by decide +kernel), by decide, ⟨_, rfl, rfl⟩⟩
theorem oX_J6_bitCount_0f7a4 : mOKS yJ6_bitCount_0f7a4 cJ6_bitCount_0f7a4 mJ6_bitCount_0f7a4 1 := ⟨⟨wsA_at 389 (by decide +kernel) (by decide +kernel), wsA_at 78 (by decide +kernel) (by decide +kernel), by decide, by decide, by decide +kernel⟩, wsA_at 388 (by decide +kernel) (by decide +kernel)⟩
theorem lk_RL_9 : Cond.methodLink RL 9 yX7_init ∈ wsA := wsA_at 81 (by decide +kernel) (by decide +kernel)
theorem lk_RX7_1 : Cond.methodLink RX7 1 objectInit ∈ wsA := wsA_at 84 (by decide +kernel) (by decide +kernel)
theorem lk_RX7_9 : Cond.methodLink RX7 9 yX5_init ∈ wsA := wsA_at 89 (by decide +kernel) (by decide +kernel)
theorem lk_RX5_3 : Cond.methodLink RX5 3 objectInit ∈ wsA := wsA_at 92 (by decide +kernel) (by decide +kernel)
theorem lk_RX0_3 : Cond.methodLink RX0 3 objectInit ∈ wsA := wsA_at 103 (by decide +kernel) (by decide +kernel)
theorem lk_RX1_1 : Cond.methodLink RX1 1 objectInit ∈ wsA := wsA_at 135 (by decide +kernel) (by decide +kernel)
theorem lk_RX6_3 : Cond.methodLink RX6 3 objectInit ∈ wsA := wsA_at 150 (by decide +kernel) (by decide +kernel)
theorem lk_RX7_28 : Cond.methodLink RX7 28 yX2_init ∈ wsA := wsA_at 244 (by decide +kernel) (by decide +kernel)
theorem lk_RX2_3 : Cond.methodLink RX2 3 objectInit ∈ wsA := wsA_at 247 (by decide +kernel) (by decide +kernel)
theorem lk_RX2_24 : Cond.methodLink RX2 24 yX5_init ∈ wsA := wsA_at 250 (by decide +kernel) (by decide +kernel)
theorem lk_RX7_35 : Cond.methodLink RX7 35 yX4_init ∈ wsA := wsA_at 264 (by decide +kernel) (by decide +kernel)
theorem lk_RX4_3 : Cond.methodLink RX4 3 objectInit ∈ wsA := wsA_at 267 (by decide +kernel) (by decide +kernel)
theorem lk_RX3_1 : Cond.methodLink RX3 1 objectInit ∈ wsA := wsA_at 274 (by decide +kernel) (by decide +kernel)
theorem lk_RL_13 : Cond.methodLink RL 13 yX7_addAsset ∈ wsA := wsA_at 330 (by decide +kernel) (by decide +kernel)
theorem lk_RX7_40 : Cond.methodLink RX7 40 yX5_copyFrom ∈ wsA := wsA_at 334 (by decide +kernel) (by decide +kernel)
theorem lk_RX5_49 : Cond.methodLink RX5 49 yX0_copyFrom ∈ wsA := wsA_at 338 (by decide +kernel) (by decide +kernel)
theorem lk_RX5_53 : Cond.methodLink RX5 53 yX1_copyFrom ∈ wsA := wsA_at 342 (by decide +kernel) (by decide +kernel)
theorem lk_RX5_56 : Cond.methodLink RX5 56 yX6_copyFrom ∈ wsA := wsA_at 346 (by decide +kernel) (by decide +kernel)
theorem lk_RX7_44 : Cond.methodLink RX7 44 yX5_newAsset ∈ wsA := wsA_at 350 (by decide +kernel) (by decide +kernel)
theorem lk_RX5_63 : Cond.methodLink RX5 63 yX0_setUp ∈ wsA := wsA_at 357 (by decide +kernel) (by decide +kernel)
theorem lk_RX7_48 : Cond.methodLink RX7 48 yX7_recorded ∈ wsA := wsA_at 362 (by decide +kernel) (by decide +kernel)
theorem lk_RX7_265 : Cond.methodLink RX7 265 yX2_add ∈ wsA := wsA_at 366 (by decide +kernel) (by decide +kernel)
theorem lk_RX2_25 : Cond.methodLink RX2 25 yX5_copyFrom ∈ wsA := wsA_at 370 (by decide +kernel) (by decide +kernel)
theorem lk_RL_18 : Cond.methodLink RL 18 yX7_link ∈ wsA := wsA_at 371 (by decide +kernel) (by decide +kernel)
theorem lk_RX7_52 : Cond.methodLink RX7 52 yX5_setLink ∈ wsA := wsA_at 375 (by decide +kernel) (by decide +kernel)
theorem lk_RX5_67 : Cond.methodLink RX5 67 yX5_hasAsset ∈ wsA := wsA_at 379 (by decide +kernel) (by decide +kernel)
theorem lk_RX5_71 : Cond.methodLink RX5 71 yX0_isLinkedTo ∈ wsA := wsA_at 383 (by decide +kernel) (by decide +kernel)
theorem lk_RX5_77 : Cond.methodLink RX5 77 yJ6_bitCount_0f7a4 ∈ wsA := wsA_at 387 (by decide +kernel) (by decide +kernel)
theorem lk_RL_23 : Cond.methodLink RL 23 yX7_bar ∈ wsA := wsA_at 393 (by decide +kernel) (by decide +kernel)
theorem lk_RX7_56 : Cond.methodLink RX7 56 yX5_setBar ∈ wsA := wsA_at 397 (by decide +kernel) (by decide +kernel)
theorem lk_RX5_83 : Cond.methodLink RX5 83 yX5_doBar ∈ wsA := wsA_at 401 (by decide +kernel) (by decide +kernel)
theorem lk_RL_27 : Cond.methodLink RL 27 yX7_addCrew ∈ wsA := wsA_at 405 (by decide +kernel) (by decide +kernel)
theorem lk_RX7_59 : Cond.methodLink RX7 59 yX5_newCrew ∈ wsA := wsA_at 409 (by decide +kernel) (by decide +kernel)
theorem lk_RX5_87 : Cond.methodLink RX5 87 yX1_setUp ∈ wsA := wsA_at 413 (by decide +kernel) (by decide +kernel)
theorem lk_RL_31 : Cond.methodLink RL 31 yX7_addTask ∈ wsA := wsA_at 417 (by decide +kernel) (by decide +kernel)
theorem lk_RX7_62 : Cond.methodLink RX7 62 yX5_newTask ∈ wsA := wsA_at 421 (by decide +kernel) (by decide +kernel)
theorem lk_RX5_88 : Cond.methodLink RX5 88 yX6_setUp ∈ wsA := wsA_at 425 (by decide +kernel) (by decide +kernel)
theorem lk_RL_36 : Cond.methodLink RL 36 yX7_run ∈ wsA := wsA_at 429 (by decide +kernel) (by decide +kernel)
theorem lk_RX7_66 : Cond.methodLink RX7 66 yX5_startAsset ∈ wsA := wsA_at 433 (by decide +kernel) (by decide +kernel)
theorem lk_RX5_91 : Cond.methodLink RX5 91 yX5_tagsHanging ∈ wsA := wsA_at 437 (by decide +kernel) (by decide +kernel)
theorem lk_RX5_196 : Cond.methodLink RX5 196 yX5_tasksOfAsset ∈ wsA := wsA_at 441 (by decide +kernel) (by decide +kernel)
theorem lk_RX5_162 : Cond.methodLink RX5 162 yX6_isIn ∈ wsA := wsA_at 445 (by decide +kernel) (by decide +kernel)
theorem lk_RX5_98 : Cond.methodLink RX5 98 yX5_assetsRunning ∈ wsA := wsA_at 449 (by decide +kernel) (by decide +kernel)
theorem lk_RL_41 : Cond.methodLink RL 41 yX7_stop ∈ wsA := wsA_at 453 (by decide +kernel) (by decide +kernel)
theorem lk_RX7_69 : Cond.methodLink RX7 69 yX5_stopAsset ∈ wsA := wsA_at 457 (by decide +kernel) (by decide +kernel)
theorem lk_RL_45 : Cond.methodLink RL 45 yX7_hang ∈ wsA := wsA_at 461 (by decide +kernel) (by decide +kernel)
theorem lk_RX7_72 : Cond.methodLink RX7 72 yX5_hangTag ∈ wsA := wsA_at 465 (by decide +kernel) (by decide +kernel)
theorem lk_RX5_102 : Cond.methodLink RX5 102 yX5_hasTask ∈ wsA := wsA_at 469 (by decide +kernel) (by decide +kernel)
theorem lk_RX5_105 : Cond.methodLink RX5 105 yX5_hasCrew ∈ wsA := wsA_at 473 (by decide +kernel) (by decide +kernel)
theorem lk_RX5_114 : Cond.methodLink RX5 114 yX5_isRunning ∈ wsA := wsA_at 477 (by decide +kernel) (by decide +kernel)
theorem lk_RX5_117 : Cond.methodLink RX5 117 yX5_canServe ∈ wsA := wsA_at 481 (by decide +kernel) (by decide +kernel)
theorem lk_RX5_186 : Cond.methodLink RX5 186 yX1_has ∈ wsA := wsA_at 485 (by decide +kernel) (by decide +kernel)
theorem lk_RX5_192 : Cond.methodLink RX5 192 yX5_busyPeople ∈ wsA := wsA_at 489 (by decide +kernel) (by decide +kernel)
theorem lk_RX5_200 : Cond.methodLink RX5 200 yX6_tagHangs ∈ wsA := wsA_at 493 (by decide +kernel) (by decide +kernel)
theorem lk_RX6_48 : Cond.methodLink RX6 48 yX6_isIn ∈ wsA := wsA_at 497 (by decide +kernel) (by decide +kernel)
theorem lk_RL_49 : Cond.methodLink RL 49 yX7_begin ∈ wsA := wsA_at 498 (by decide +kernel) (by decide +kernel)
theorem lk_RX7_75 : Cond.methodLink RX7 75 yX5_beginTask ∈ wsA := wsA_at 502 (by decide +kernel) (by decide +kernel)
theorem lk_RX5_127 : Cond.methodLink RX5 127 yX5_reasonAgainst ∈ wsA := wsA_at 506 (by decide +kernel) (by decide +kernel)
theorem lk_RX5_165 : Cond.methodLink RX5 165 yX6_isTooLateAt ∈ wsA := wsA_at 510 (by decide +kernel) (by decide +kernel)
theorem lk_RX5_174 : Cond.methodLink RX5 174 yX5_barrierOf ∈ wsA := wsA_at 514 (by decide +kernel) (by decide +kernel)
theorem lk_RX5_180 : Cond.methodLink RX5 180 yX5_areNear ∈ wsA := wsA_at 518 (by decide +kernel) (by decide +kernel)
theorem lk_RL_53 : Cond.methodLink RL 53 yX7_lift ∈ wsA := wsA_at 522 (by decide +kernel) (by decide +kernel)
theorem lk_RX7_78 : Cond.methodLink RX7 78 yX5_liftTag ∈ wsA := wsA_at 526 (by decide +kernel) (by decide +kernel)
theorem lk_RX5_136 : Cond.methodLink RX5 136 yX5_taskOfTag ∈ wsA := wsA_at 530 (by decide +kernel) (by decide +kernel)
theorem lk_RL_57 : Cond.methodLink RL 57 yX7_cancel ∈ wsA := wsA_at 534 (by decide +kernel) (by decide +kernel)
theorem lk_RX7_81 : Cond.methodLink RX7 81 yX5_cancelTask ∈ wsA := wsA_at 538 (by decide +kernel) (by decide +kernel)
theorem lk_RL_61 : Cond.methodLink RL 61 yX7_pass ∈ wsA := wsA_at 542 (by decide +kernel) (by decide +kernel)
theorem lk_RX7_84 : Cond.methodLink RX7 84 yX5_passHours ∈ wsA := wsA_at 546 (by decide +kernel) (by decide +kernel)
theorem lk_RX5_143 : Cond.methodLink RX5 143 yX5_runAssets ∈ wsA := wsA_at 550 (by decide +kernel) (by decide +kernel)
theorem lk_RX5_152 : Cond.methodLink RX5 152 yX0_runForAnHour ∈ wsA := wsA_at 554 (by decide +kernel) (by decide +kernel)
theorem lk_RX0_33 : Cond.methodLink RX0 33 yX0_afterAnHour ∈ wsA := wsA_at 558 (by decide +kernel) (by decide +kernel)
theorem lk_RX5_146 : Cond.methodLink RX5 146 yX5_workOnTasks ∈ wsA := wsA_at 563 (by decide +kernel) (by decide +kernel)
theorem lk_RX5_155 : Cond.methodLink RX5 155 yX5_mendAsset ∈ wsA := wsA_at 567 (by decide +kernel) (by decide +kernel)
theorem lk_RX5_159 : Cond.methodLink RX5 159 yX0_mend ∈ wsA := wsA_at 571 (by decide +kernel) (by decide +kernel)
theorem lk_RX5_149 : Cond.methodLink RX5 149 yX5_slipTasks ∈ wsA := wsA_at 576 (by decide +kernel) (by decide +kernel)
theorem lk_RX5_168 : Cond.methodLink RX5 168 yX6_slip ∈ wsA := wsA_at 580 (by decide +kernel) (by decide +kernel)
theorem lk_RL_65 : Cond.methodLink RL 65 yX7_type ∈ wsA := wsA_at 584 (by decide +kernel) (by decide +kernel)
theorem lk_RX7_87 : Cond.methodLink RX7 87 yX4_append ∈ wsA := wsA_at 588 (by decide +kernel) (by decide +kernel)
theorem lk_RL_70 : Cond.methodLink RL 70 yX7_clearText ∈ wsA := wsA_at 592 (by decide +kernel) (by decide +kernel)
theorem lk_RX7_91 : Cond.methodLink RX7 91 yX4_clear ∈ wsA := wsA_at 596 (by decide +kernel) (by decide +kernel)
theorem lk_RL_75 : Cond.methodLink RL 75 yX7_perform ∈ wsA := wsA_at 600 (by decide +kernel) (by decide +kernel)
theorem lk_RX7_95 : Cond.methodLink RX7 95 yX4_read ∈ wsA := wsA_at 604 (by decide +kernel) (by decide +kernel)
theorem lk_RX4_32 : Cond.methodLink RX4 32 yX4_readOrder ∈ wsA := wsA_at 608 (by decide +kernel) (by decide +kernel)
theorem lk_RX4_44 : Cond.methodLink RX4 44 yX4_readNumber ∈ wsA := wsA_at 612 (by decide +kernel) (by decide +kernel)
theorem lk_RX4_53 : Cond.methodLink RX4 53 yX4_isAtDigit ∈ wsA := wsA_at 616 (by decide +kernel) (by decide +kernel)
theorem lk_RX4_57 : Cond.methodLink RX4 57 yX4_readDigit ∈ wsA := wsA_at 620 (by decide +kernel) (by decide +kernel)
theorem lk_RX4_36 : Cond.methodLink RX4 36 yX4_readSign ∈ wsA := wsA_at 624 (by decide +kernel) (by decide +kernel)
theorem lk_RX4_47 : Cond.methodLink RX4 47 yX4_readCrew ∈ wsA := wsA_at 628 (by decide +kernel) (by decide +kernel)
theorem lk_RX4_50 : Cond.methodLink RX4 50 yX4_readAsset ∈ wsA := wsA_at 632 (by decide +kernel) (by decide +kernel)
theorem lk_RX7_106 : Cond.methodLink RX7 106 yX7_follow ∈ wsA := wsA_at 636 (by decide +kernel) (by decide +kernel)
theorem lk_RL_79 : Cond.methodLink RL 79 yX7_undo ∈ wsA := wsA_at 640 (by decide +kernel) (by decide +kernel)
theorem lk_RX7_110 : Cond.methodLink RX7 110 yX2_takeBack ∈ wsA := wsA_at 644 (by decide +kernel) (by decide +kernel)
theorem lk_RL_83 : Cond.methodLink RL 83 yX7_keep ∈ wsA := wsA_at 648 (by decide +kernel) (by decide +kernel)
theorem lk_RL_87 : Cond.methodLink RL 87 yX7_restore ∈ wsA := wsA_at 652 (by decide +kernel) (by decide +kernel)
theorem lk_RL_91 : Cond.methodLink RL 91 yX7_real ∈ wsA := wsA_at 656 (by decide +kernel) (by decide +kernel)
theorem lk_RX7_117 : Cond.methodLink RX7 117 yX5_hasAsset ∈ wsA := wsA_at 660 (by decide +kernel) (by decide +kernel)
theorem lk_RL_96 : Cond.methodLink RL 96 yX7_healthIn ∈ wsA := wsA_at 662 (by decide +kernel) (by decide +kernel)
theorem lk_RX7_138 : Cond.methodLink RX7 138 yX7_within ∈ wsA := wsA_at 666 (by decide +kernel) (by decide +kernel)
theorem lk_RX7_142 : Cond.methodLink RX7 142 yX0_healthAfter ∈ wsA := wsA_at 667 (by decide +kernel) (by decide +kernel)
theorem lk_RL_100 : Cond.methodLink RL 100 yX7_hoursTo ∈ wsA := wsA_at 671 (by decide +kernel) (by decide +kernel)
theorem lk_RX7_147 : Cond.methodLink RX7 147 yX0_hoursUntilBelow ∈ wsA := wsA_at 676 (by decide +kernel) (by decide +kernel)
theorem lk_RL_104 : Cond.methodLink RL 104 yX7_asset ∈ wsA := wsA_at 680 (by decide +kernel) (by decide +kernel)
theorem lk_RX7_154 : Cond.methodLink RX7 154 yX5_tagsHanging ∈ wsA := wsA_at 684 (by decide +kernel) (by decide +kernel)
theorem lk_RX7_157 : Cond.methodLink RX7 157 yX5_taskOfTag ∈ wsA := wsA_at 685 (by decide +kernel) (by decide +kernel)
theorem lk_RX7_163 : Cond.methodLink RX7 163 yX5_tasksOfAsset ∈ wsA := wsA_at 686 (by decide +kernel) (by decide +kernel)
theorem lk_RL_108 : Cond.methodLink RL 108 yX7_tagAt ∈ wsA := wsA_at 688 (by decide +kernel) (by decide +kernel)
theorem lk_RL_112 : Cond.methodLink RL 112 yX7_crew ∈ wsA := wsA_at 692 (by decide +kernel) (by decide +kernel)
theorem lk_RX7_168 : Cond.methodLink RX7 168 yX5_hasCrew ∈ wsA := wsA_at 696 (by decide +kernel) (by decide +kernel)
theorem lk_RX7_183 : Cond.methodLink RX7 183 yX5_busyPeople ∈ wsA := wsA_at 697 (by decide +kernel) (by decide +kernel)
theorem lk_RX7_186 : Cond.methodLink RX7 186 yX5_tasksOfCrew ∈ wsA := wsA_at 698 (by decide +kernel) (by decide +kernel)
theorem lk_RL_116 : Cond.methodLink RL 116 yX7_task ∈ wsA := wsA_at 702 (by decide +kernel) (by decide +kernel)
theorem lk_RX7_189 : Cond.methodLink RX7 189 yX5_hasTask ∈ wsA := wsA_at 706 (by decide +kernel) (by decide +kernel)
theorem lk_RX7_229 : Cond.methodLink RX7 229 yX5_reasonAgainst ∈ wsA := wsA_at 707 (by decide +kernel) (by decide +kernel)
theorem lk_RX7_232 : Cond.methodLink RX7 232 yX5_barrierOf ∈ wsA := wsA_at 708 (by decide +kernel) (by decide +kernel)
theorem lk_RL_120 : Cond.methodLink RL 120 yX7_crewFor ∈ wsA := wsA_at 709 (by decide +kernel) (by decide +kernel)
theorem lk_RX7_235 : Cond.methodLink RX7 235 yX5_firstCrewFor ∈ wsA := wsA_at 713 (by decide +kernel) (by decide +kernel)
theorem lk_RL_124 : Cond.methodLink RL 124 yX7_count ∈ wsA := wsA_at 717 (by decide +kernel) (by decide +kernel)
theorem lk_RX7_241 : Cond.methodLink RX7 241 yX5_assetsRunning ∈ wsA := wsA_at 721 (by decide +kernel) (by decide +kernel)
theorem lk_RX7_250 : Cond.methodLink RX7 250 yX5_tasksIn ∈ wsA := wsA_at 722 (by decide +kernel) (by decide +kernel)
theorem lk_RX7_253 : Cond.methodLink RX7 253 yX5_slipsSoFar ∈ wsA := wsA_at 726 (by decide +kernel) (by decide +kernel)
theorem lk_RX7_256 : Cond.methodLink RX7 256 yX5_allBusyPeople ∈ wsA := wsA_at 730 (by decide +kernel) (by decide +kernel)
theorem lk_RL_12 : Cond.methodLink RL 12 yX8_init ∈ wsA := wsA_at 736 (by decide +kernel) (by decide +kernel)
theorem lk_RX8_1 : Cond.methodLink RX8 1 objectInit ∈ wsA := wsA_at 739 (by decide +kernel) (by decide +kernel)
theorem lk_RL_82 : Cond.methodLink RL 82 yX8_undo ∈ wsA := wsA_at 787 (by decide +kernel) (by decide +kernel)
theorem lk_RX8_51 : Cond.methodLink RX8 51 yX8_brings ∈ wsA := wsA_at 791 (by decide +kernel) (by decide +kernel)
theorem lk_RL_86 : Cond.methodLink RL 86 yX8_keep ∈ wsA := wsA_at 795 (by decide +kernel) (by decide +kernel)
theorem lk_RX8_44 : Cond.methodLink RX8 44 yX8_keeps ∈ wsA := wsA_at 799 (by decide +kernel) (by decide +kernel)
theorem lk_RL_90 : Cond.methodLink RL 90 yX8_restore ∈ wsA := wsA_at 803 (by decide +kernel) (by decide +kernel)
theorem lk_RX8_58 : Cond.methodLink RX8 58 yX8_records ∈ wsA := wsA_at 807 (by decide +kernel) (by decide +kernel)
theorem lk_RX8_48 : Cond.methodLink RX8 48 yX8_recordsTrial ∈ wsA := wsA_at 811 (by decide +kernel) (by decide +kernel)
theorem lk_RX8_40 : Cond.methodLink RX8 40 yX8_copies ∈ wsA := wsA_at 815 (by decide +kernel) (by decide +kernel)
theorem lk_RL_17 : Cond.methodLink RL 17 yX8_addAsset ∈ wsA := wsA_at 819 (by decide +kernel) (by decide +kernel)
theorem lk_RX8_32 : Cond.methodLink RX8 32 yX8_isIn ∈ wsA := wsA_at 823 (by decide +kernel) (by decide +kernel)
theorem lk_RX8_61 : Cond.methodLink RX8 61 yX8_sets ∈ wsA := wsA_at 826 (by decide +kernel) (by decide +kernel)
theorem lk_RL_22 : Cond.methodLink RL 22 yX8_link ∈ wsA := wsA_at 830 (by decide +kernel) (by decide +kernel)
theorem lk_RX8_65 : Cond.methodLink RX8 65 yX8_isAsset ∈ wsA := wsA_at 834 (by decide +kernel) (by decide +kernel)
theorem lk_RX8_69 : Cond.methodLink RX8 69 yX8_of ∈ wsA := wsA_at 838 (by decide +kernel) (by decide +kernel)
theorem lk_RX8_73 : Cond.methodLink RX8 73 yX8_ones ∈ wsA := wsA_at 842 (by decide +kernel) (by decide +kernel)
theorem lk_RL_26 : Cond.methodLink RL 26 yX8_bar ∈ wsA := wsA_at 845 (by decide +kernel) (by decide +kernel)
theorem lk_RX8_77 : Cond.methodLink RX8 77 yX8_bars ∈ wsA := wsA_at 849 (by decide +kernel) (by decide +kernel)
theorem lk_RL_30 : Cond.methodLink RL 30 yX8_addCrew ∈ wsA := wsA_at 853 (by decide +kernel) (by decide +kernel)
theorem lk_RL_35 : Cond.methodLink RL 35 yX8_addTask ∈ wsA := wsA_at 857 (by decide +kernel) (by decide +kernel)
theorem lk_RX8_81 : Cond.methodLink RX8 81 yX8_setsTask ∈ wsA := wsA_at 861 (by decide +kernel) (by decide +kernel)
theorem lk_RL_40 : Cond.methodLink RL 40 yX8_run ∈ wsA := wsA_at 865 (by decide +kernel) (by decide +kernel)
theorem lk_RX8_110 : Cond.methodLink RX8 110 yX8_runError ∈ wsA := wsA_at 869 (by decide +kernel) (by decide +kernel)
theorem lk_RX8_113 : Cond.methodLink RX8 113 yX8_goes ∈ wsA := wsA_at 873 (by decide +kernel) (by decide +kernel)
theorem lk_RX8_106 : Cond.methodLink RX8 106 yX8_running ∈ wsA := wsA_at 877 (by decide +kernel) (by decide +kernel)
theorem lk_RL_44 : Cond.methodLink RL 44 yX8_stop ∈ wsA := wsA_at 881 (by decide +kernel) (by decide +kernel)
theorem lk_RX8_116 : Cond.methodLink RX8 116 yX8_stopError ∈ wsA := wsA_at 885 (by decide +kernel) (by decide +kernel)
theorem lk_RL_48 : Cond.methodLink RL 48 yX8_hang ∈ wsA := wsA_at 889 (by decide +kernel) (by decide +kernel)
theorem lk_RX8_128 : Cond.methodLink RX8 128 yX8_hangError ∈ wsA := wsA_at 893 (by decide +kernel) (by decide +kernel)
theorem lk_RX8_119 : Cond.methodLink RX8 119 yX8_isTask ∈ wsA := wsA_at 897 (by decide +kernel) (by decide +kernel)
theorem lk_RX8_122 : Cond.methodLink RX8 122 yX8_isCrew ∈ wsA := wsA_at 901 (by decide +kernel) (by decide +kernel)
theorem lk_RX8_87 : Cond.methodLink RX8 87 yX8_stateOf ∈ wsA := wsA_at 905 (by decide +kernel) (by decide +kernel)
theorem lk_RX8_84 : Cond.methodLink RX8 84 yX8_ofTask ∈ wsA := wsA_at 909 (by decide +kernel) (by decide +kernel)
theorem lk_RX8_125 : Cond.methodLink RX8 125 yX8_canHang ∈ wsA := wsA_at 913 (by decide +kernel) (by decide +kernel)
theorem lk_RX8_93 : Cond.methodLink RX8 93 yX8_busy ∈ wsA := wsA_at 917 (by decide +kernel) (by decide +kernel)
theorem lk_RX8_90 : Cond.methodLink RX8 90 yX8_isBusy ∈ wsA := wsA_at 921 (by decide +kernel) (by decide +kernel)
theorem lk_RX8_131 : Cond.methodLink RX8 131 yX8_hangs ∈ wsA := wsA_at 925 (by decide +kernel) (by decide +kernel)
theorem lk_RL_52 : Cond.methodLink RL 52 yX8_begin ∈ wsA := wsA_at 929 (by decide +kernel) (by decide +kernel)
theorem lk_RX8_137 : Cond.methodLink RX8 137 yX8_beginError ∈ wsA := wsA_at 933 (by decide +kernel) (by decide +kernel)
theorem lk_RX8_134 : Cond.methodLink RX8 134 yX8_reasonOf ∈ wsA := wsA_at 937 (by decide +kernel) (by decide +kernel)
theorem lk_RX8_100 : Cond.methodLink RX8 100 yX8_isTooLate ∈ wsA := wsA_at 941 (by decide +kernel) (by decide +kernel)
theorem lk_RX8_97 : Cond.methodLink RX8 97 yX8_endOf ∈ wsA := wsA_at 945 (by decide +kernel) (by decide +kernel)
theorem lk_RX8_103 : Cond.methodLink RX8 103 yX8_barredBy ∈ wsA := wsA_at 949 (by decide +kernel) (by decide +kernel)
theorem lk_RX8_140 : Cond.methodLink RX8 140 yX8_begins ∈ wsA := wsA_at 953 (by decide +kernel) (by decide +kernel)
theorem lk_RL_56 : Cond.methodLink RL 56 yX8_lift ∈ wsA := wsA_at 957 (by decide +kernel) (by decide +kernel)
theorem lk_RX8_146 : Cond.methodLink RX8 146 yX8_liftError ∈ wsA := wsA_at 961 (by decide +kernel) (by decide +kernel)
theorem lk_RX8_143 : Cond.methodLink RX8 143 yX8_topOf ∈ wsA := wsA_at 965 (by decide +kernel) (by decide +kernel)
theorem lk_RX8_149 : Cond.methodLink RX8 149 yX8_lifts ∈ wsA := wsA_at 969 (by decide +kernel) (by decide +kernel)
theorem lk_RL_60 : Cond.methodLink RL 60 yX8_cancel ∈ wsA := wsA_at 973 (by decide +kernel) (by decide +kernel)
theorem lk_RL_64 : Cond.methodLink RL 64 yX8_pass ∈ wsA := wsA_at 977 (by decide +kernel) (by decide +kernel)
theorem lk_RX8_168 : Cond.methodLink RX8 168 yX8_passError ∈ wsA := wsA_at 981 (by decide +kernel) (by decide +kernel)
theorem lk_RX8_171 : Cond.methodLink RX8 171 yX8_passes ∈ wsA := wsA_at 985 (by decide +kernel) (by decide +kernel)
theorem lk_RX8_165 : Cond.methodLink RX8 165 yX8_passesHour ∈ wsA := wsA_at 989 (by decide +kernel) (by decide +kernel)
theorem lk_RX8_158 : Cond.methodLink RX8 158 yX8_runsHour ∈ wsA := wsA_at 993 (by decide +kernel) (by decide +kernel)
theorem lk_RX8_154 : Cond.methodLink RX8 154 yX8_worn ∈ wsA := wsA_at 997 (by decide +kernel) (by decide +kernel)
theorem lk_RX8_162 : Cond.methodLink RX8 162 yX8_slips ∈ wsA := wsA_at 1004 (by decide +kernel) (by decide +kernel)
theorem lk_RL_69 : Cond.methodLink RL 69 yX8_type ∈ wsA := wsA_at 1008 (by decide +kernel) (by decide +kernel)
theorem lk_RL_74 : Cond.methodLink RL 74 yX8_clearText ∈ wsA := wsA_at 1012 (by decide +kernel) (by decide +kernel)
theorem lk_RL_78 : Cond.methodLink RL 78 yX8_perform ∈ wsA := wsA_at 1016 (by decide +kernel) (by decide +kernel)
theorem lk_RX8_205 : Cond.methodLink RX8 205 yX8_faultOf ∈ wsA := wsA_at 1020 (by decide +kernel) (by decide +kernel)
theorem lk_RX8_201 : Cond.methodLink RX8 201 yX8_passesOrder ∈ wsA := wsA_at 1024 (by decide +kernel) (by decide +kernel)
theorem lk_RX8_189 : Cond.methodLink RX8 189 yX8_passesNumber ∈ wsA := wsA_at 1028 (by decide +kernel) (by decide +kernel)
theorem lk_RX8_180 : Cond.methodLink RX8 180 yX8_isHere ∈ wsA := wsA_at 1032 (by decide +kernel) (by decide +kernel)
theorem lk_RX8_195 : Cond.methodLink RX8 195 yX8_passesSign ∈ wsA := wsA_at 1036 (by decide +kernel) (by decide +kernel)
theorem lk_RX8_208 : Cond.methodLink RX8 208 yX8_orderError ∈ wsA := wsA_at 1040 (by decide +kernel) (by decide +kernel)
theorem lk_RX8_211 : Cond.methodLink RX8 211 yX8_does ∈ wsA := wsA_at 1044 (by decide +kernel) (by decide +kernel)
theorem lk_RL_95 : Cond.methodLink RL 95 yX8_real ∈ wsA := wsA_at 1048 (by decide +kernel) (by decide +kernel)
theorem lk_RL_99 : Cond.methodLink RL 99 yX8_healthIn ∈ wsA := wsA_at 1053 (by decide +kernel) (by decide +kernel)
theorem lk_RL_103 : Cond.methodLink RL 103 yX8_hoursTo ∈ wsA := wsA_at 1057 (by decide +kernel) (by decide +kernel)
theorem lk_RL_107 : Cond.methodLink RL 107 yX8_asset ∈ wsA := wsA_at 1062 (by decide +kernel) (by decide +kernel)
theorem lk_RX8_216 : Cond.methodLink RX8 216 yX8_tasksAt ∈ wsA := wsA_at 1066 (by decide +kernel) (by decide +kernel)
theorem lk_RL_111 : Cond.methodLink RL 111 yX8_tagAt ∈ wsA := wsA_at 1070 (by decide +kernel) (by decide +kernel)
theorem lk_RL_115 : Cond.methodLink RL 115 yX8_crew ∈ wsA := wsA_at 1074 (by decide +kernel) (by decide +kernel)
theorem lk_RX8_220 : Cond.methodLink RX8 220 yX8_doneBy ∈ wsA := wsA_at 1078 (by decide +kernel) (by decide +kernel)
theorem lk_RL_119 : Cond.methodLink RL 119 yX8_task ∈ wsA := wsA_at 1082 (by decide +kernel) (by decide +kernel)
theorem lk_RL_123 : Cond.methodLink RL 123 yX8_crewFor ∈ wsA := wsA_at 1086 (by decide +kernel) (by decide +kernel)
theorem lk_RL_127 : Cond.methodLink RL 127 yX8_count ∈ wsA := wsA_at 1090 (by decide +kernel) (by decide +kernel)
theorem lk_RX8_223 : Cond.methodLink RX8 223 yX8_inState ∈ wsA := wsA_at 1094 (by decide +kernel) (by decide +kernel)
theorem lk_RX8_226 : Cond.methodLink RX8 226 yX8_tags ∈ wsA := wsA_at 1098 (by decide +kernel) (by decide +kernel)
theorem lk_RX8_229 : Cond.methodLink RX8 229 yX8_allSlips ∈ wsA := wsA_at 1102 (by decide +kernel) (by decide +kernel)
theorem lk_RX8_232 : Cond.methodLink RX8 232 yX8_allBusy ∈ wsA := wsA_at 1106 (by decide +kernel) (by decide +kernel)
theorem oi_inst : Cond.instanceMethod objectInit ∈ wsA := wsA_at 85 (by decide +kernel) (by decide +kernel)
theorem oi_code : Cond.code objectInit ⟨#[0xb1]⟩ 1 none ∈ wsA := wsA_at 86 (by decide +kernel) (by decide +kernel)
theorem fd_RX0_9 : fdOK RX0 9 0 0 := ⟨RX0, TX0, rfl, iAX0, by decide, tyX0_ok, nmX0, wsA_at 104 (by decide +kernel) (by decide +kernel)⟩
theorem fd_RX0_15 : fdOK RX0 15 0 1 := ⟨RX0, TX0, rfl, iAX0, by decide, tyX0_ok, nmX0, wsA_at 105 (by decide +kernel) (by decide +kernel)⟩
theorem fd_RX7_135 : fdOK RX7 135 0 1 := ⟨RX0, TX0, rfl, iAX0, by decide, tyX0_ok, nmX0, wsA_at 106 (by decide +kernel) (by decide +kernel)⟩
theorem fd_RX0_19 : fdOK RX0 19 0 2 := ⟨RX0, TX0, rfl, iAX0, by decide, tyX0_ok, nmX0, wsA_at 107 (by decide +kernel) (by decide +kernel)⟩
theorem fd_RX7_126 : fdOK RX7 126 0 2 := ⟨RX0, TX0, rfl, iAX0, by decide, tyX0_ok, nmX0, wsA_at 108 (by decide +kernel) (by decide +kernel)⟩
theorem fd_RX0_22 : fdOK RX0 22 0 3 := ⟨RX0, TX0, rfl, iAX0, by decide, tyX0_ok, nmX0, wsA_at 109 (by decide +kernel) (by decide +kernel)⟩
theorem fd_RX7_132 : fdOK RX7 132 0 3 := ⟨RX0, TX0, rfl, iAX0, by decide, tyX0_ok, nmX0, wsA_at 110 (by decide +kernel) (by decide +kernel)⟩
theorem fd_RX0_25 : fdOK RX0 25 0 4 := ⟨RX0, TX0, rfl, iAX0, by decide, tyX0_ok, nmX0, wsA_at 111 (by decide +kernel) (by decide +kernel)⟩
theorem fd_RX5_94 : fdOK RX5 94 0 4 := ⟨RX0, TX0, rfl, iAX0, by decide, tyX0_ok, nmX0, wsA_at 112 (by decide +kernel) (by decide +kernel)⟩
theorem fd_RX7_151 : fdOK RX7 151 0 4 := ⟨RX0, TX0, rfl, iAX0, by decide, tyX0_ok, nmX0, wsA_at 113 (by decide +kernel) (by decide +kernel)⟩
theorem fd_RX0_29 : fdOK RX0 29 0 5 := ⟨RX0, TX0, rfl, iAX0, by decide, tyX0_ok, nmX0, wsA_at 114 (by decide +kernel) (by decide +kernel)⟩
theorem fd_RX5_74 : fdOK RX5 74 0 5 := ⟨RX0, TX0, rfl, iAX0, by decide, tyX0_ok, nmX0, wsA_at 115 (by decide +kernel) (by decide +kernel)⟩
theorem fd_RX7_160 : fdOK RX7 160 0 5 := ⟨RX0, TX0, rfl, iAX0, by decide, tyX0_ok, nmX0, wsA_at 116 (by decide +kernel) (by decide +kernel)⟩
theorem fd_RX1_7 : fdOK RX1 7 1 0 := ⟨RX1, TX1, rfl, iAX1, by decide, tyX1_ok, nmX1, wsA_at 136 (by decide +kernel) (by decide +kernel)⟩
theorem fd_RX7_175 : fdOK RX7 175 1 0 := ⟨RX1, TX1, rfl, iAX1, by decide, tyX1_ok, nmX1, wsA_at 137 (by decide +kernel) (by decide +kernel)⟩
theorem fd_RX5_189 : fdOK RX5 189 1 0 := ⟨RX1, TX1, rfl, iAX1, by decide, tyX1_ok, nmX1, wsA_at 138 (by decide +kernel) (by decide +kernel)⟩
theorem fd_RX1_13 : fdOK RX1 13 1 1 := ⟨RX1, TX1, rfl, iAX1, by decide, tyX1_ok, nmX1, wsA_at 139 (by decide +kernel) (by decide +kernel)⟩
theorem fd_RX7_180 : fdOK RX7 180 1 1 := ⟨RX1, TX1, rfl, iAX1, by decide, tyX1_ok, nmX1, wsA_at 140 (by decide +kernel) (by decide +kernel)⟩
theorem fd_RX6_9 : fdOK RX6 9 6 0 := ⟨RX6, TX6, rfl, iAX6, by decide, tyX6_ok, nmX6, wsA_at 151 (by decide +kernel) (by decide +kernel)⟩
theorem fd_RX5_111 : fdOK RX5 111 6 0 := ⟨RX6, TX6, rfl, iAX6, by decide, tyX6_ok, nmX6, wsA_at 152 (by decide +kernel) (by decide +kernel)⟩
theorem fd_RX7_196 : fdOK RX7 196 6 0 := ⟨RX6, TX6, rfl, iAX6, by decide, tyX6_ok, nmX6, wsA_at 153 (by decide +kernel) (by decide +kernel)⟩
theorem fd_RX6_15 : fdOK RX6 15 6 1 := ⟨RX6, TX6, rfl, iAX6, by decide, tyX6_ok, nmX6, wsA_at 154 (by decide +kernel) (by decide +kernel)⟩
theorem fd_RX7_204 : fdOK RX7 204 6 1 := ⟨RX6, TX6, rfl, iAX6, by decide, tyX6_ok, nmX6, wsA_at 155 (by decide +kernel) (by decide +kernel)⟩
theorem fd_RX5_183 : fdOK RX5 183 6 1 := ⟨RX6, TX6, rfl, iAX6, by decide, tyX6_ok, nmX6, wsA_at 156 (by decide +kernel) (by decide +kernel)⟩
theorem fd_RX6_18 : fdOK RX6 18 6 2 := ⟨RX6, TX6, rfl, iAX6, by decide, tyX6_ok, nmX6, wsA_at 157 (by decide +kernel) (by decide +kernel)⟩
theorem fd_RX7_207 : fdOK RX7 207 6 2 := ⟨RX6, TX6, rfl, iAX6, by decide, tyX6_ok, nmX6, wsA_at 158 (by decide +kernel) (by decide +kernel)⟩
theorem fd_RX5_195 : fdOK RX5 195 6 2 := ⟨RX6, TX6, rfl, iAX6, by decide, tyX6_ok, nmX6, wsA_at 159 (by decide +kernel) (by decide +kernel)⟩
theorem fd_RX6_21 : fdOK RX6 21 6 3 := ⟨RX6, TX6, rfl, iAX6, by decide, tyX6_ok, nmX6, wsA_at 160 (by decide +kernel) (by decide +kernel)⟩
theorem fd_RX5_177 : fdOK RX5 177 6 3 := ⟨RX6, TX6, rfl, iAX6, by decide, tyX6_ok, nmX6, wsA_at 161 (by decide +kernel) (by decide +kernel)⟩
theorem fd_RX7_208 : fdOK RX7 208 6 3 := ⟨RX6, TX6, rfl, iAX6, by decide, tyX6_ok, nmX6, wsA_at 162 (by decide +kernel) (by decide +kernel)⟩
theorem fd_RX6_24 : fdOK RX6 24 6 4 := ⟨RX6, TX6, rfl, iAX6, by decide, tyX6_ok, nmX6, wsA_at 163 (by decide +kernel) (by decide +kernel)⟩
theorem fd_RX5_130 : fdOK RX5 130 6 4 := ⟨RX6, TX6, rfl, iAX6, by decide, tyX6_ok, nmX6, wsA_at 164 (by decide +kernel) (by decide +kernel)⟩
theorem fd_RX7_211 : fdOK RX7 211 6 4 := ⟨RX6, TX6, rfl, iAX6, by decide, tyX6_ok, nmX6, wsA_at 165 (by decide +kernel) (by decide +kernel)⟩
theorem fd_RX6_27 : fdOK RX6 27 6 5 := ⟨RX6, TX6, rfl, iAX6, by decide, tyX6_ok, nmX6, wsA_at 166 (by decide +kernel) (by decide +kernel)⟩
theorem fd_RX5_171 : fdOK RX5 171 6 5 := ⟨RX6, TX6, rfl, iAX6, by decide, tyX6_ok, nmX6, wsA_at 167 (by decide +kernel) (by decide +kernel)⟩
theorem fd_RX7_214 : fdOK RX7 214 6 5 := ⟨RX6, TX6, rfl, iAX6, by decide, tyX6_ok, nmX6, wsA_at 168 (by decide +kernel) (by decide +kernel)⟩
theorem fd_RX6_30 : fdOK RX6 30 6 6 := ⟨RX6, TX6, rfl, iAX6, by decide, tyX6_ok, nmX6, wsA_at 169 (by decide +kernel) (by decide +kernel)⟩
theorem fd_RX7_217 : fdOK RX7 217 6 6 := ⟨RX6, TX6, rfl, iAX6, by decide, tyX6_ok, nmX6, wsA_at 170 (by decide +kernel) (by decide +kernel)⟩
theorem fd_RX6_33 : fdOK RX6 33 6 7 := ⟨RX6, TX6, rfl, iAX6, by decide, tyX6_ok, nmX6, wsA_at 171 (by decide +kernel) (by decide +kernel)⟩
theorem fd_RX5_108 : fdOK RX5 108 6 7 := ⟨RX6, TX6, rfl, iAX6, by decide, tyX6_ok, nmX6, wsA_at 172 (by decide +kernel) (by decide +kernel)⟩
theorem fd_RX7_201 : fdOK RX7 201 6 7 := ⟨RX6, TX6, rfl, iAX6, by decide, tyX6_ok, nmX6, wsA_at 173 (by decide +kernel) (by decide +kernel)⟩
theorem fd_RX6_36 : fdOK RX6 36 6 8 := ⟨RX6, TX6, rfl, iAX6, by decide, tyX6_ok, nmX6, wsA_at 174 (by decide +kernel) (by decide +kernel)⟩
theorem fd_RX5_124 : fdOK RX5 124 6 8 := ⟨RX6, TX6, rfl, iAX6, by decide, tyX6_ok, nmX6, wsA_at 175 (by decide +kernel) (by decide +kernel)⟩
theorem fd_RX7_220 : fdOK RX7 220 6 8 := ⟨RX6, TX6, rfl, iAX6, by decide, tyX6_ok, nmX6, wsA_at 176 (by decide +kernel) (by decide +kernel)⟩
theorem fd_RX6_39 : fdOK RX6 39 6 9 := ⟨RX6, TX6, rfl, iAX6, by decide, tyX6_ok, nmX6, wsA_at 177 (by decide +kernel) (by decide +kernel)⟩
theorem fd_RX5_133 : fdOK RX5 133 6 9 := ⟨RX6, TX6, rfl, iAX6, by decide, tyX6_ok, nmX6, wsA_at 178 (by decide +kernel) (by decide +kernel)⟩
theorem fd_RX7_223 : fdOK RX7 223 6 9 := ⟨RX6, TX6, rfl, iAX6, by decide, tyX6_ok, nmX6, wsA_at 179 (by decide +kernel) (by decide +kernel)⟩
theorem fd_RX6_42 : fdOK RX6 42 6 10 := ⟨RX6, TX6, rfl, iAX6, by decide, tyX6_ok, nmX6, wsA_at 180 (by decide +kernel) (by decide +kernel)⟩
theorem fd_RX5_140 : fdOK RX5 140 6 10 := ⟨RX6, TX6, rfl, iAX6, by decide, tyX6_ok, nmX6, wsA_at 181 (by decide +kernel) (by decide +kernel)⟩
theorem fd_RX7_226 : fdOK RX7 226 6 10 := ⟨RX6, TX6, rfl, iAX6, by decide, tyX6_ok, nmX6, wsA_at 182 (by decide +kernel) (by decide +kernel)⟩
theorem fd_RX6_45 : fdOK RX6 45 6 11 := ⟨RX6, TX6, rfl, iAX6, by decide, tyX6_ok, nmX6, wsA_at 183 (by decide +kernel) (by decide +kernel)⟩
theorem fd_RX5_121 : fdOK RX5 121 6 11 := ⟨RX6, TX6, rfl, iAX6, by decide, tyX6_ok, nmX6, wsA_at 184 (by decide +kernel) (by decide +kernel)⟩
theorem fd_RX5_11 : fdOK RX5 11 5 0 := ⟨RX5, TX5, rfl, iAX5, by decide, tyX5_ok, nmX5, wsA_at 210 (by decide +kernel) (by decide +kernel)⟩
theorem fd_RX7_122 : fdOK RX7 122 5 0 := ⟨RX5, TX5, rfl, iAX5, by decide, tyX5_ok, nmX5, wsA_at 211 (by decide +kernel) (by decide +kernel)⟩
theorem fd_RX5_19 : fdOK RX5 19 5 1 := ⟨RX5, TX5, rfl, iAX5, by decide, tyX5_ok, nmX5, wsA_at 212 (by decide +kernel) (by decide +kernel)⟩
theorem fd_RX7_171 : fdOK RX7 171 5 1 := ⟨RX5, TX5, rfl, iAX5, by decide, tyX5_ok, nmX5, wsA_at 213 (by decide +kernel) (by decide +kernel)⟩
theorem fd_RX5_25 : fdOK RX5 25 5 2 := ⟨RX5, TX5, rfl, iAX5, by decide, tyX5_ok, nmX5, wsA_at 214 (by decide +kernel) (by decide +kernel)⟩
theorem fd_RX7_192 : fdOK RX7 192 5 2 := ⟨RX5, TX5, rfl, iAX5, by decide, tyX5_ok, nmX5, wsA_at 215 (by decide +kernel) (by decide +kernel)⟩
theorem fd_RX5_29 : fdOK RX5 29 5 3 := ⟨RX5, TX5, rfl, iAX5, by decide, tyX5_ok, nmX5, wsA_at 216 (by decide +kernel) (by decide +kernel)⟩
theorem fd_RX5_33 : fdOK RX5 33 5 4 := ⟨RX5, TX5, rfl, iAX5, by decide, tyX5_ok, nmX5, wsA_at 217 (by decide +kernel) (by decide +kernel)⟩
theorem fd_RX7_238 : fdOK RX7 238 5 4 := ⟨RX5, TX5, rfl, iAX5, by decide, tyX5_ok, nmX5, wsA_at 218 (by decide +kernel) (by decide +kernel)⟩
theorem fd_RX5_37 : fdOK RX5 37 5 5 := ⟨RX5, TX5, rfl, iAX5, by decide, tyX5_ok, nmX5, wsA_at 219 (by decide +kernel) (by decide +kernel)⟩
theorem fd_RX7_244 : fdOK RX7 244 5 5 := ⟨RX5, TX5, rfl, iAX5, by decide, tyX5_ok, nmX5, wsA_at 220 (by decide +kernel) (by decide +kernel)⟩
theorem fd_RX5_40 : fdOK RX5 40 5 6 := ⟨RX5, TX5, rfl, iAX5, by decide, tyX5_ok, nmX5, wsA_at 221 (by decide +kernel) (by decide +kernel)⟩
theorem fd_RX7_247 : fdOK RX7 247 5 6 := ⟨RX5, TX5, rfl, iAX5, by decide, tyX5_ok, nmX5, wsA_at 222 (by decide +kernel) (by decide +kernel)⟩
theorem fd_RX5_43 : fdOK RX5 43 5 7 := ⟨RX5, TX5, rfl, iAX5, by decide, tyX5_ok, nmX5, wsA_at 223 (by decide +kernel) (by decide +kernel)⟩
theorem fd_RX7_114 : fdOK RX7 114 5 7 := ⟨RX5, TX5, rfl, iAX5, by decide, tyX5_ok, nmX5, wsA_at 224 (by decide +kernel) (by decide +kernel)⟩
theorem fd_RX2_11 : fdOK RX2 11 2 0 := ⟨RX2, TX2, rfl, iAX2, by decide, tyX2_ok, nmX2, wsA_at 251 (by decide +kernel) (by decide +kernel)⟩
theorem fd_RX2_17 : fdOK RX2 17 2 1 := ⟨RX2, TX2, rfl, iAX2, by decide, tyX2_ok, nmX2, wsA_at 252 (by decide +kernel) (by decide +kernel)⟩
theorem fd_RX2_21 : fdOK RX2 21 2 2 := ⟨RX2, TX2, rfl, iAX2, by decide, tyX2_ok, nmX2, wsA_at 253 (by decide +kernel) (by decide +kernel)⟩
theorem fd_RX7_259 : fdOK RX7 259 2 2 := ⟨RX2, TX2, rfl, iAX2, by decide, tyX2_ok, nmX2, wsA_at 254 (by decide +kernel) (by decide +kernel)⟩
theorem fd_RX3_7 : fdOK RX3 7 3 0 := ⟨RX3, TX3, rfl, iAX3, by decide, tyX3_ok, nmX3, wsA_at 275 (by decide +kernel) (by decide +kernel)⟩
theorem fd_RX4_40 : fdOK RX4 40 3 0 := ⟨RX3, TX3, rfl, iAX3, by decide, tyX3_ok, nmX3, wsA_at 276 (by decide +kernel) (by decide +kernel)⟩
theorem fd_RX7_268 : fdOK RX7 268 3 0 := ⟨RX3, TX3, rfl, iAX3, by decide, tyX3_ok, nmX3, wsA_at 277 (by decide +kernel) (by decide +kernel)⟩
theorem fd_RX3_13 : fdOK RX3 13 3 1 := ⟨RX3, TX3, rfl, iAX3, by decide, tyX3_ok, nmX3, wsA_at 278 (by decide +kernel) (by decide +kernel)⟩
theorem fd_RX4_61 : fdOK RX4 61 3 1 := ⟨RX3, TX3, rfl, iAX3, by decide, tyX3_ok, nmX3, wsA_at 279 (by decide +kernel) (by decide +kernel)⟩
theorem fd_RX7_274 : fdOK RX7 274 3 1 := ⟨RX3, TX3, rfl, iAX3, by decide, tyX3_ok, nmX3, wsA_at 280 (by decide +kernel) (by decide +kernel)⟩
theorem fd_RX3_17 : fdOK RX3 17 3 2 := ⟨RX3, TX3, rfl, iAX3, by decide, tyX3_ok, nmX3, wsA_at 281 (by decide +kernel) (by decide +kernel)⟩
theorem fd_RX4_64 : fdOK RX4 64 3 2 := ⟨RX3, TX3, rfl, iAX3, by decide, tyX3_ok, nmX3, wsA_at 282 (by decide +kernel) (by decide +kernel)⟩
theorem fd_RX7_277 : fdOK RX7 277 3 2 := ⟨RX3, TX3, rfl, iAX3, by decide, tyX3_ok, nmX3, wsA_at 283 (by decide +kernel) (by decide +kernel)⟩
theorem fd_RX4_9 : fdOK RX4 9 4 0 := ⟨RX4, TX4, rfl, iAX4, by decide, tyX4_ok, nmX4, wsA_at 292 (by decide +kernel) (by decide +kernel)⟩
theorem fd_RX4_15 : fdOK RX4 15 4 1 := ⟨RX4, TX4, rfl, iAX4, by decide, tyX4_ok, nmX4, wsA_at 293 (by decide +kernel) (by decide +kernel)⟩
theorem fd_RX7_262 : fdOK RX7 262 4 1 := ⟨RX4, TX4, rfl, iAX4, by decide, tyX4_ok, nmX4, wsA_at 294 (by decide +kernel) (by decide +kernel)⟩
theorem fd_RX4_21 : fdOK RX4 21 4 2 := ⟨RX4, TX4, rfl, iAX4, by decide, tyX4_ok, nmX4, wsA_at 295 (by decide +kernel) (by decide +kernel)⟩
theorem fd_RX7_102 : fdOK RX7 102 4 2 := ⟨RX4, TX4, rfl, iAX4, by decide, tyX4_ok, nmX4, wsA_at 296 (by decide +kernel) (by decide +kernel)⟩
theorem fd_RX4_25 : fdOK RX4 25 4 3 := ⟨RX4, TX4, rfl, iAX4, by decide, tyX4_ok, nmX4, wsA_at 297 (by decide +kernel) (by decide +kernel)⟩
theorem fd_RX7_98 : fdOK RX7 98 4 3 := ⟨RX4, TX4, rfl, iAX4, by decide, tyX4_ok, nmX4, wsA_at 298 (by decide +kernel) (by decide +kernel)⟩
theorem fd_RX4_28 : fdOK RX4 28 4 4 := ⟨RX4, TX4, rfl, iAX4, by decide, tyX4_ok, nmX4, wsA_at 299 (by decide +kernel) (by decide +kernel)⟩
theorem fd_RX7_10 : fdOK RX7 10 7 0 := ⟨RX7, TX7, rfl, iAX7, by decide, tyX7_ok, nmX7, wsA_at 311 (by decide +kernel) (by decide +kernel)⟩
theorem fd_RX7_16 : fdOK RX7 16 7 1 := ⟨RX7, TX7, rfl, iAX7, by decide, tyX7_ok, nmX7, wsA_at 312 (by decide +kernel) (by decide +kernel)⟩
theorem fd_RX7_19 : fdOK RX7 19 7 2 := ⟨RX7, TX7, rfl, iAX7, by decide, tyX7_ok, nmX7, wsA_at 313 (by decide +kernel) (by decide +kernel)⟩
theorem fd_RX7_22 : fdOK RX7 22 7 3 := ⟨RX7, TX7, rfl, iAX7, by decide, tyX7_ok, nmX7, wsA_at 314 (by decide +kernel) (by decide +kernel)⟩
theorem fd_RX7_29 : fdOK RX7 29 7 4 := ⟨RX7, TX7, rfl, iAX7, by decide, tyX7_ok, nmX7, wsA_at 315 (by decide +kernel) (by decide +kernel)⟩
theorem fd_RX7_36 : fdOK RX7 36 7 5 := ⟨RX7, TX7, rfl, iAX7, by decide, tyX7_ok, nmX7, wsA_at 316 (by decide +kernel) (by decide +kernel)⟩
theorem fd_RX8_7 : fdOK RX8 7 8 0 := ⟨RX8, TX8, rfl, iAX8, by decide, tyX8_ok, nmX8, wsA_at 740 (by decide +kernel) (by decide +kernel)⟩
theorem fd_RX8_13 : fdOK RX8 13 8 1 := ⟨RX8, TX8, rfl, iAX8, by decide, tyX8_ok, nmX8, wsA_at 741 (by decide +kernel) (by decide +kernel)⟩
theorem fd_RX8_17 : fdOK RX8 17 8 2 := ⟨RX8, TX8, rfl, iAX8, by decide, tyX8_ok, nmX8, wsA_at 742 (by decide +kernel) (by decide +kernel)⟩
theorem fd_RX8_20 : fdOK RX8 20 8 3 := ⟨RX8, TX8, rfl, iAX8, by decide, tyX8_ok, nmX8, wsA_at 743 (by decide +kernel) (by decide +kernel)⟩
theorem fd_RX8_23 : fdOK RX8 23 8 4 := ⟨RX8, TX8, rfl, iAX8, by decide, tyX8_ok, nmX8, wsA_at 744 (by decide +kernel) (by decide +kernel)⟩
theorem fd_RX8_26 : fdOK RX8 26 8 5 := ⟨RX8, TX8, rfl, iAX8, by decide, tyX8_ok, nmX8, wsA_at 745 (by decide +kernel) (by decide +kernel)⟩
theorem fd_RX8_36 : fdOK RX8 36 8 6 := ⟨RX8, TX8, rfl, iAX8, by decide, tyX8_ok, nmX8, wsA_at 746 (by decide +kernel) (by decide +kernel)⟩
theorem fd_RX8_54 : fdOK RX8 54 8 7 := ⟨RX8, TX8, rfl, iAX8, by decide, tyX8_ok, nmX8, wsA_at 747 (by decide +kernel) (by decide +kernel)⟩
theorem fd_RX8_29 : fdOK RX8 29 8 8 := ⟨RX8, TX8, rfl, iAX8, by decide, tyX8_ok, nmX8, wsA_at 748 (by decide +kernel) (by decide +kernel)⟩
theorem fd_RX8_174 : fdOK RX8 174 8 9 := ⟨RX8, TX8, rfl, iAX8, by decide, tyX8_ok, nmX8, wsA_at 749 (by decide +kernel) (by decide +kernel)⟩
theorem fd_RX8_177 : fdOK RX8 177 8 10 := ⟨RX8, TX8, rfl, iAX8, by decide, tyX8_ok, nmX8, wsA_at 750 (by decide +kernel) (by decide +kernel)⟩
theorem fd_RX8_183 : fdOK RX8 183 8 11 := ⟨RX8, TX8, rfl, iAX8, by decide, tyX8_ok, nmX8, wsA_at 751 (by decide +kernel) (by decide +kernel)⟩
theorem fd_RX8_186 : fdOK RX8 186 8 12 := ⟨RX8, TX8, rfl, iAX8, by decide, tyX8_ok, nmX8, wsA_at 752 (by decide +kernel) (by decide +kernel)⟩
theorem fd_RX8_192 : fdOK RX8 192 8 13 := ⟨RX8, TX8, rfl, iAX8, by decide, tyX8_ok, nmX8, wsA_at 753 (by decide +kernel) (by decide +kernel)⟩
theorem fd_RX8_198 : fdOK RX8 198 8 14 := ⟨RX8, TX8, rfl, iAX8, by decide, tyX8_ok, nmX8, wsA_at 754 (by decide +kernel) (by decide +kernel)⟩
theorem ii_RL : Cond.initialized RL ∈ wsA := wsA_at 68 (by decide +kernel) (by decide +kernel)
theorem ii_RX7 : Cond.initialized RX7 ∈ wsA := wsA_at 69 (by decide +kernel) (by decide +kernel)
theorem ii_RX5 : Cond.initialized RX5 ∈ wsA := wsA_at 70 (by decide +kernel) (by decide +kernel)
theorem ii_RX0 : Cond.initialized RX0 ∈ wsA := wsA_at 71 (by decide +kernel) (by decide +kernel)
theorem ii_RX1 : Cond.initialized RX1 ∈ wsA := wsA_at 72 (by decide +kernel) (by decide +kernel)
theorem ii_RX6 : Cond.initialized RX6 ∈ wsA := wsA_at 73 (by decide +kernel) (by decide +kernel)
theorem ii_RX2 : Cond.initialized RX2 ∈ wsA := wsA_at 74 (by decide +kernel) (by decide +kernel)
theorem ii_RX4 : Cond.initialized RX4 ∈ wsA := wsA_at 75 (by decide +kernel) (by decide +kernel)
theorem ii_RX3 : Cond.initialized RX3 ∈ wsA := wsA_at 76 (by decide +kernel) (by decide +kernel)
theorem ii_RX8 : Cond.initialized RX8 ∈ wsA := wsA_at 77 (by decide +kernel) (by decide +kernel)
theorem ii_RJ6 : Cond.initialized RJ6 ∈ wsA := wsA_at 78 (by decide +kernel) (by decide +kernel)
theorem cl_RL_7 : Cond.classLink RL 7 RX7 ∈ wsA := wsA_at 79 (by decide +kernel) (by decide +kernel)
theorem in_RX7 : Cond.instantiable RX7 6 ∈ wsA := wsA_at 80 (by decide +kernel) (by decide +kernel)
theorem cl_RX7_7 : Cond.classLink RX7 7 RX5 ∈ wsA := wsA_at 87 (by decide +kernel) (by decide +kernel)
theorem in_RX5 : Cond.instantiable RX5 8 ∈ wsA := wsA_at 88 (by decide +kernel) (by decide +kernel)
theorem cl_RX5_9 : Cond.classLink RX5 9 RX0 ∈ wsA := wsA_at 93 (by decide +kernel) (by decide +kernel)
theorem cl_RX5_17 : Cond.classLink RX5 17 RX1 ∈ wsA := wsA_at 95 (by decide +kernel) (by decide +kernel)
theorem cl_RX5_23 : Cond.classLink RX5 23 RX6 ∈ wsA := wsA_at 97 (by decide +kernel) (by decide +kernel)
theorem in_RX0 : Cond.instantiable RX0 6 ∈ wsA := wsA_at 99 (by decide +kernel) (by decide +kernel)
theorem ac_int : Cond.arrayClass .int ∈ wsA := wsA_at 130 (by decide +kernel) (by decide +kernel)
theorem in_RX1 : Cond.instantiable RX1 2 ∈ wsA := wsA_at 131 (by decide +kernel) (by decide +kernel)
theorem in_RX6 : Cond.instantiable RX6 12 ∈ wsA := wsA_at 146 (by decide +kernel) (by decide +kernel)
theorem cl_RX7_26 : Cond.classLink RX7 26 RX2 ∈ wsA := wsA_at 242 (by decide +kernel) (by decide +kernel)
theorem in_RX2 : Cond.instantiable RX2 3 ∈ wsA := wsA_at 243 (by decide +kernel) (by decide +kernel)
theorem cl_RX2_9 : Cond.classLink RX2 9 RX5 ∈ wsA := wsA_at 248 (by decide +kernel) (by decide +kernel)
theorem cl_RX7_33 : Cond.classLink RX7 33 RX4 ∈ wsA := wsA_at 262 (by decide +kernel) (by decide +kernel)
theorem in_RX4 : Cond.instantiable RX4 5 ∈ wsA := wsA_at 263 (by decide +kernel) (by decide +kernel)
theorem cl_RX4_19 : Cond.classLink RX4 19 RX3 ∈ wsA := wsA_at 268 (by decide +kernel) (by decide +kernel)
theorem in_RX3 : Cond.instantiable RX3 3 ∈ wsA := wsA_at 270 (by decide +kernel) (by decide +kernel)
theorem ac_char : Cond.arrayClass .char ∈ wsA := wsA_at 291 (by decide +kernel) (by decide +kernel)
theorem kc_RX0_32 : Cond.constantFloat RX0 32 (1148846080) ∈ wsA := wsA_at 361 (by decide +kernel) (by decide +kernel)
theorem kc_RJ6_265 : Cond.constant RJ6 265 (1431655765) ∈ wsA := wsA_at 390 (by decide +kernel) (by decide +kernel)
theorem kc_RJ6_266 : Cond.constant RJ6 266 (858993459) ∈ wsA := wsA_at 391 (by decide +kernel) (by decide +kernel)
theorem kc_RJ6_267 : Cond.constant RJ6 267 (252645135) ∈ wsA := wsA_at 392 (by decide +kernel) (by decide +kernel)
theorem kc_RX0_38 : Cond.constantFloat RX0 38 (1008981770) ∈ wsA := wsA_at 562 (by decide +kernel) (by decide +kernel)
theorem kc_RX0_37 : Cond.constantFloat RX0 37 (1061158912) ∈ wsA := wsA_at 575 (by decide +kernel) (by decide +kernel)
theorem kc_RX7_121 : Cond.constantFloat RX7 121 (2143289344) ∈ wsA := wsA_at 661 (by decide +kernel) (by decide +kernel)
theorem kc_RX7_146 : Cond.constantFloat RX7 146 (1120403456) ∈ wsA := wsA_at 675 (by decide +kernel) (by decide +kernel)
theorem kc_RX7_167 : Cond.constantFloat RX7 167 (1148846080) ∈ wsA := wsA_at 687 (by decide +kernel) (by decide +kernel)
theorem cl_RL_10 : Cond.classLink RL 10 RX8 ∈ wsA := wsA_at 734 (by decide +kernel) (by decide +kernel)
theorem in_RX8 : Cond.instantiable RX8 15 ∈ wsA := wsA_at 735 (by decide +kernel) (by decide +kernel)
theorem ac_float : Cond.arrayClass .float ∈ wsA := wsA_at 786 (by decide +kernel) (by decide +kernel)
theorem kc_RX8_152 : Cond.constantFloat RX8 152 (1148846080) ∈ wsA := wsA_at 1001 (by decide +kernel) (by decide +kernel)
theorem kc_RX8_153 : Cond.constantFloat RX8 153 (1008981770) ∈ wsA := wsA_at 1002 (by decide +kernel) (by decide +kernel)
theorem kc_RX8_161 : Cond.constantFloat RX8 161 (1061158912) ∈ wsA := wsA_at 1003 (by decide +kernel) (by decide +kernel)
theorem kc_RX8_214 : Cond.constantFloat RX8 214 (2143289344) ∈ wsA := wsA_at 1052 (by decide +kernel) (by decide +kernel)
theorem kc_RX8_215 : Cond.constantFloat RX8 215 (1120403456) ∈ wsA := wsA_at 1061 (by decide +kernel) (by decide +kernel)
end
section
/-! a method without making: its answer and the world behind it, told outright -/
def PE (y : MethodName) (cc : ByteArray) (Y : mB) (as : List Value) (σ : pT) (I : pI) (F : pF) (v : Option Value) (I' : pI) (F' : pF) : Prop := PM y cc Y (0, 0) as σ I F (fun v' σ' I2 F2 => v' = v ∧ σ' = σ ∧ I2 = I' ∧ F2 = F')
/-- where the world behind it is told by a relation -/
def PR (y : MethodName) (cc : ByteArray) (Y : mB) (as : List Value) (σ : pT) (I : pI) (F : pF) (Q : Option Value → pI → pF → Prop) : Prop := PM y cc Y (0, 0) as σ I F (fun v' σ' I2 F2 => σ' = σ ∧ Q v' I2 F2)
abbrev qE (v : Option Value) (σ : pT) (I' : pI) (F' : pF) : pQ := fun v' σ' I2 F2 => v' = v ∧ σ' = σ ∧ I2 = I' ∧ F2 = F'
abbrev qR (σ : pT) (Q : Option Value → pI → pF → Prop) : pQ := fun v' σ' I2 F2 => σ' = σ ∧ Q v' I2 F2
def bI (b : Bool) : Int32 := if b then 1 else 0
theorem bI_t : bI true = 1 := rfl
theorem bI_f : bI false = 0 := rfl
theorem bI_0 {b : Bool} (h : bI b = 0) : b = false := by cases b <;> first | rfl | exact absurd h (by decide)
theorem bI_n0 {b : Bool} (h : ¬ bI b = 0) : b = true := by cases b <;> first | rfl | exact absurd rfl h
theorem nI_inc (k : Nat) : nI k + Int32.ofInt 1 = nI (k + 1) := nI_1 k
theorem dn (G : Nat → Prop) (N : Nat) (h0 : G N) (hs : ∀ k, k < N → G (k + 1) → G k) : ∀ k, k ≤ N → G k := by
  intro k hk
  obtain ⟨d, hd⟩ : ∃ d, k + d = N := ⟨N - k, by omega⟩
  induction d generalizing k with
  | zero => rw [show k = N by omega]; exact h0
  | succ d ih => exact hs k (by omega) (ih (k + 1) (by omega) (by omega))
section PB
variable {cc : ByteArray} {Y : mB} {Z : pZ} {pc : Nat} {ls st : List Value} {σ : pT} {I : pI} {F : pF} {β : Nat × Nat}
theorem PE.of {y : MethodName} {as : List Value} {v : Option Value} {I' : pI} {F' : pF} (hy : plainName y.cls = true ∧ y.cls = Y.1 ∧ (Y.2.2.2.2.2 = true → y.name = "<init>")) (hcat : ∀ v ∈ as, v.category = 1) (hn : as.length ≤ Y.2.1) (k : PW cc Y (fM (qE v σ I' F')) 0 (as ++ List.replicate (Y.2.1 - as.length) pJ) [] σ I F (0, 0)) : PE y cc Y as σ I F v I' F' := PM.of hy hcat hn k
theorem PR.of {y : MethodName} {as : List Value} {Q : Option Value → pI → pF → Prop} (hy : plainName y.cls = true ∧ y.cls = Y.1 ∧ (Y.2.2.2.2.2 = true → y.name = "<init>")) (hcat : ∀ v ∈ as, v.category = 1) (hn : as.length ≤ Y.2.1) (k : PW cc Y (fM (qR σ Q)) 0 (as ++ List.replicate (Y.2.1 - as.length) pJ) [] σ I F (0, 0)) : PR y cc Y as σ I F Q := PM.of hy hcat hn k
theorem pw_getI {idx ci k q : Nat} (hdg : decode cc pc = .ok (.getfield idx, 3)) (hf : fdOK Y.1 idx ci k) (hci : ci < 9) (hq : (σ.2.1 q).1 = ci + 1) (ht : isIt (fty ci k) = true) (kk : PW cc Y Z (pc + 3) ls (.int (I q k) :: st) σ I F β) : PW cc Y Z pc ls (.ref q :: st) σ I F β := pw_get hdg hf hci hq (fv_I ht) kk
theorem pw_getF {idx ci k q : Nat} (hdg : decode cc pc = .ok (.getfield idx, 3)) (hf : fdOK Y.1 idx ci k) (hci : ci < 9) (hq : (σ.2.1 q).1 = ci + 1) (ht : fty ci k = .float) (kk : PW cc Y Z (pc + 3) ls (.float (F q k) :: st) σ I F β) : PW cc Y Z pc ls (.ref q :: st) σ I F β := pw_get hdg hf hci hq (fv_F ht) kk
theorem pw_getR {idx ci k q x : Nat} (hdg : decode cc pc = .ok (.getfield idx, 3)) (hf : fdOK Y.1 idx ci k) (hci : ci < 9) (hq : (σ.2.1 q).1 = ci + 1) (ht : isRt (fty ci k) = true) (hx : σ.2.2 q k = some x) (kk : PW cc Y Z (pc + 3) ls (.ref x :: st) σ I F β) : PW cc Y Z pc ls (.ref q :: st) σ I F β := pw_get hdg hf hci hq ((fv_R ht).trans (by rw [hx]; rfl)) kk
theorem pw_aaldN {q n j ci x : Nat} (hdg : decode cc pc = .ok (.aaload, 1)) (hq : σ.2.1 q = (ci + 30, n)) (hj : j < n) (hn : n < 2 ^ 31) (hci : ci < 9) (hx : σ.2.2 q j = some x) (kk : PW cc Y Z (pc + 1) ls (.ref x :: st) σ I F β) : PW cc Y Z pc ls (.int (nI j) :: .ref q :: st) σ I F β := pw_aald hdg hq (vp_in_nI hj hn) hci (by rw [nI_clamp (by omega)]; exact hx) kk
theorem pw_ialdN {q n j : Nat} (hdg : decode cc pc = .ok (.iaload, 1)) (hq : σ.2.1 q = (20, n)) (hj : j < n) (hn : n < 2 ^ 31) (kk : PW cc Y Z (pc + 1) ls (.int (I q j) :: st) σ I F β) : PW cc Y Z pc ls (.int (nI j) :: .ref q :: st) σ I F β := pw_iald hdg hq (vp_in_nI hj hn) (by rw [nI_clamp (by omega)]; exact kk)
theorem pw_caldN {q n j : Nat} (hdg : decode cc pc = .ok (.caload, 1)) (hq : σ.2.1 q = (21, n)) (hj : j < n) (hn : n < 2 ^ 31) (kk : PW cc Y Z (pc + 1) ls (.int (I q j) :: st) σ I F β) : PW cc Y Z pc ls (.int (nI j) :: .ref q :: st) σ I F β := pw_cald hdg hq (vp_in_nI hj hn) (by rw [nI_clamp (by omega)]; exact kk)
theorem pw_faldN {q n j : Nat} (hdg : decode cc pc = .ok (.faload, 1)) (hq : σ.2.1 q = (22, n)) (hj : j < n) (hn : n < 2 ^ 31) (kk : PW cc Y Z (pc + 1) ls (.float (F q j) :: st) σ I F β) : PW cc Y Z pc ls (.int (nI j) :: .ref q :: st) σ I F β := pw_fald hdg hq (vp_in_nI hj hn) (by rw [nI_clamp (by omega)]; exact kk)
theorem pw_iastN {q n j : Nat} {x : Int32} (hdg : decode cc pc = .ok (.iastore, 1)) (hq : σ.2.1 q = (20, n)) (hj : j < n) (hn : n < 2 ^ 31) (kk : PW cc Y Z (pc + 1) ls st σ (up2 I q j x) F β) : PW cc Y Z pc ls (.int x :: .int (nI j) :: .ref q :: st) σ I F β := pw_iast hdg hq (vp_in_nI hj hn) (by rw [nI_clamp (by omega)]; exact kk)
theorem pw_castN {q n j : Nat} {x : Int32} (hdg : decode cc pc = .ok (.castore, 1)) (hq : σ.2.1 q = (21, n)) (hj : j < n) (hn : n < 2 ^ 31) (kk : PW cc Y Z (pc + 1) ls st σ (up2 I q j (vp_nar .char x)) F β) : PW cc Y Z pc ls (.int x :: .int (nI j) :: .ref q :: st) σ I F β := pw_cast hdg hq (vp_in_nI hj hn) (by rw [nI_clamp (by omega)]; exact kk)
theorem pw_fastN {q n j : Nat} {x : UInt32} (hdg : decode cc pc = .ok (.fastore, 1)) (hq : σ.2.1 q = (22, n)) (hj : j < n) (hn : n < 2 ^ 31) (kk : PW cc Y Z (pc + 1) ls st σ I (up2 F q j x) β) : PW cc Y Z pc ls (.float x :: .int (nI j) :: .ref q :: st) σ I F β := pw_fast hdg hq (vp_in_nI hj hn) (by rw [nI_clamp (by omega)]; exact kk)
theorem pw_aastN {q n j ci x : Nat} (hdg : decode cc pc = .ok (.aastore, 1)) (hq : σ.2.1 q = (ci + 30, n)) (hj : j < n) (hn : n < 2 ^ 31) (hci : ci < 9) (hxk : (σ.2.1 x).1 = ci + 1) (kk : PW cc Y Z (pc + 1) ls st (σ.1, σ.2.1, up2 σ.2.2 q j (some x)) I F β) : PW cc Y Z pc ls (.ref x :: .int (nI j) :: .ref q :: st) σ I F β := pw_aast hdg hq (vp_in_nI hj hn) hci hxk (by rw [nI_clamp (by omega)]; exact kk)
theorem pw_saldN {n j : Nat} (hdg : decode cc pc = .ok (.iaload, 1)) (hq : (σ.2.1 0).2 = n) (hj : j < n) (hn : n < 2 ^ 31) (kk : PW cc Y Z (pc + 1) ls (.int (I 0 j) :: st) σ I F β) : PW cc Y Z pc ls (.int (nI j) :: .ref 0 :: st) σ I F β := pw_sald hdg hq (vp_in_nI hj hn) (by rw [nI_clamp (by omega)]; exact kk)
theorem pw_ifB_eq {b : Bool} {off : Int} {tgt : Nat} (hdg : decode cc pc = .ok (.ifCond .eq off, 3)) (ht : (pc : Int) + off = (tgt : Int)) (kt : b = false → PW cc Y Z tgt ls st σ I F β) (kf : b = true → PW cc Y Z (pc + 3) ls st σ I F β) : PW cc Y Z pc ls (.int (bI b) :: st) σ I F β := pw_if_eq hdg ht (fun h => kt (bI_0 h)) (fun h => kf (bI_n0 h))
theorem pw_ifB_ne {b : Bool} {off : Int} {tgt : Nat} (hdg : decode cc pc = .ok (.ifCond .ne off, 3)) (ht : (pc : Int) + off = (tgt : Int)) (kt : b = true → PW cc Y Z tgt ls st σ I F β) (kf : b = false → PW cc Y Z (pc + 3) ls st σ I F β) : PW cc Y Z pc ls (.int (bI b) :: st) σ I F β := pw_if_ne hdg ht (fun h => kt (bI_n0 h)) (fun h => kf (bI_0 h))
theorem pw_bret {Post : pQ} {b : Bool} (hdg : decode cc pc = .ok (.ireturn, 1)) (hr : Y.2.2.1 = some .boolean) (h : Post (some (.int (bI b))) σ I F) : PW cc Y (fM Post) pc ls [.int (bI b)] σ I F β := pw_zret hdg hr (by cases b <;> rfl) h
theorem pw_retE {v : Option Value} {σ' : pT} {I' : pI} {F' : pF} {x : Int32} (hdg : decode cc pc = .ok (.ireturn, 1)) (hr : Y.2.2.1 = some .int) (h : some (.int x) = v ∧ σ = σ' ∧ I = I' ∧ F = F') : PW cc Y (fM (qE v σ' I' F')) pc ls [.int x] σ I F β := pw_iret hdg hr h

theorem pe_callVi {y : MethodName} {cy : ByteArray} {Yy : mB} {n ci idx q : Nat} {as : List Value} {r : Int32} {I' : pI} {F' : pF} {stk : List Value} (hdg : decode cc pc = .ok (.invokevirtual idx, 3)) (hy : mOKV y cy Yy n ci) (hl : Cond.methodLink Y.1 idx y ∈ wsA) (hM : PE y cy Yy (.ref q :: as) σ I F (some (.int r)) I' F') (hq : (σ.2.1 q).1 = ci + 1) (hn : as.length = n) (hst : stk = as.reverse ++ .ref q :: st) (hcat : (st.map fun v => v.category).sum ≤ 8) (hR : Yy.2.2.2.1 + 1 ≤ Y.2.2.2.1 ∧ 8 + (Yy.2.1 + 11) + Yy.2.2.2.2.1 ≤ Y.2.2.2.2.1) (k : PW cc Y Z (pc + 3) ls (.int r :: st) σ I' F' β) : PW cc Y Z pc ls stk σ I F β :=
  pw_callV hdg hy hl hM hq hn hst hcat hR ⟨Nat.zero_le _, Nat.zero_le _⟩ (by rintro _ _ _ _ ⟨rfl, rfl, rfl, rfl⟩; exact k)
theorem pe_callVf {y : MethodName} {cy : ByteArray} {Yy : mB} {n ci idx q : Nat} {as : List Value} {r : UInt32} {I' : pI} {F' : pF} {stk : List Value} (hdg : decode cc pc = .ok (.invokevirtual idx, 3)) (hy : mOKV y cy Yy n ci) (hl : Cond.methodLink Y.1 idx y ∈ wsA) (hM : PE y cy Yy (.ref q :: as) σ I F (some (.float r)) I' F') (hq : (σ.2.1 q).1 = ci + 1) (hn : as.length = n) (hst : stk = as.reverse ++ .ref q :: st) (hcat : (st.map fun v => v.category).sum ≤ 8) (hR : Yy.2.2.2.1 + 1 ≤ Y.2.2.2.1 ∧ 8 + (Yy.2.1 + 11) + Yy.2.2.2.2.1 ≤ Y.2.2.2.2.1) (k : PW cc Y Z (pc + 3) ls (.float r :: st) σ I' F' β) : PW cc Y Z pc ls stk σ I F β :=
  pw_callV hdg hy hl hM hq hn hst hcat hR ⟨Nat.zero_le _, Nat.zero_le _⟩ (by rintro _ _ _ _ ⟨rfl, rfl, rfl, rfl⟩; exact k)
theorem pe_callVv {y : MethodName} {cy : ByteArray} {Yy : mB} {n ci idx q : Nat} {as : List Value} {I' : pI} {F' : pF} {stk : List Value} (hdg : decode cc pc = .ok (.invokevirtual idx, 3)) (hy : mOKV y cy Yy n ci) (hl : Cond.methodLink Y.1 idx y ∈ wsA) (hM : PE y cy Yy (.ref q :: as) σ I F none I' F') (hq : (σ.2.1 q).1 = ci + 1) (hn : as.length = n) (hst : stk = as.reverse ++ .ref q :: st) (hcat : (st.map fun v => v.category).sum ≤ 8) (hR : Yy.2.2.2.1 + 1 ≤ Y.2.2.2.1 ∧ 8 + (Yy.2.1 + 11) + Yy.2.2.2.2.1 ≤ Y.2.2.2.2.1) (k : PW cc Y Z (pc + 3) ls st σ I' F' β) : PW cc Y Z pc ls stk σ I F β :=
  pw_callV hdg hy hl hM hq hn hst hcat hR ⟨Nat.zero_le _, Nat.zero_le _⟩ (by rintro _ _ _ _ ⟨rfl, rfl, rfl, rfl⟩; exact k)
theorem pr_callV {y : MethodName} {cy : ByteArray} {Yy : mB} {n ci idx q : Nat} {as : List Value} {Q : Option Value → pI → pF → Prop} {stk : List Value} (hdg : decode cc pc = .ok (.invokevirtual idx, 3)) (hy : mOKV y cy Yy n ci) (hl : Cond.methodLink Y.1 idx y ∈ wsA) (hM : PR y cy Yy (.ref q :: as) σ I F Q) (hq : (σ.2.1 q).1 = ci + 1) (hn : as.length = n) (hst : stk = as.reverse ++ .ref q :: st) (hcat : (st.map fun v => v.category).sum ≤ 8) (hR : Yy.2.2.2.1 + 1 ≤ Y.2.2.2.1 ∧ 8 + (Yy.2.1 + 11) + Yy.2.2.2.2.1 ≤ Y.2.2.2.2.1) (k : ∀ v I' F', Q v I' F' → PW cc Y Z (pc + 3) ls (v.toList ++ st) σ I' F' β) : PW cc Y Z pc ls stk σ I F β :=
  pw_callV hdg hy hl hM hq hn hst hcat hR ⟨Nat.zero_le _, Nat.zero_le _⟩ (by rintro v _ I' F' ⟨rfl, h⟩; exact k v I' F' h)
theorem pe_callSi {y : MethodName} {cy : ByteArray} {Yy : mB} {n idx : Nat} {as : List Value} {r : Int32} {I' : pI} {F' : pF} {stk : List Value} (hdg : decode cc pc = .ok (.invokestatic idx, 3)) (hy : mOKS y cy Yy n) (hl : Cond.methodLink Y.1 idx y ∈ wsA) (hM : PE y cy Yy as σ I F (some (.int r)) I' F') (hn : as.length = n) (hst : stk = as.reverse ++ st) (hcat : (st.map fun v => v.category).sum ≤ 8) (hR : Yy.2.2.2.1 + 1 ≤ Y.2.2.2.1 ∧ 8 + (Yy.2.1 + 11) + Yy.2.2.2.2.1 ≤ Y.2.2.2.2.1) (k : PW cc Y Z (pc + 3) ls (.int r :: st) σ I' F' β) : PW cc Y Z pc ls stk σ I F β :=
  pw_callS hdg hy hl hM hn hst hcat hR ⟨Nat.zero_le _, Nat.zero_le _⟩ (by rintro _ _ _ _ ⟨rfl, rfl, rfl, rfl⟩; exact k)
theorem pe_callSNi {y : MethodName} {cy : ByteArray} {Yy : mB} {n idx : Nat} {as : List Value} {r : Int32} {I' : pI} {F' : pF} {stk : List Value} (hdg : decode cc pc = .ok (.invokestatic idx, 3)) (hy : mOKS y cy Yy n) {host : String} (hl : (Y.1, idx, y, host) ∈ spN) (hM : PE y cy Yy as σ I F (some (.int r)) I' F') (hn : as.length = n) (hst : stk = as.reverse ++ st) (hcat : (st.map fun v => v.category).sum ≤ 8) (hR : Yy.2.2.2.1 + 1 ≤ Y.2.2.2.1 ∧ 8 + (Yy.2.1 + 11) + Yy.2.2.2.2.1 ≤ Y.2.2.2.2.1) (k : PW cc Y Z (pc + 3) ls (.int r :: st) σ I' F' β) : PW cc Y Z pc ls stk σ I F β :=
  pw_callSN hdg hy hl hM hn hst hcat hR ⟨Nat.zero_le _, Nat.zero_le _⟩ (by rintro _ _ _ _ ⟨rfl, rfl, rfl, rfl⟩; exact k)
theorem pe_callSf {y : MethodName} {cy : ByteArray} {Yy : mB} {n idx : Nat} {as : List Value} {r : UInt32} {I' : pI} {F' : pF} {stk : List Value} (hdg : decode cc pc = .ok (.invokestatic idx, 3)) (hy : mOKS y cy Yy n) (hl : Cond.methodLink Y.1 idx y ∈ wsA) (hM : PE y cy Yy as σ I F (some (.float r)) I' F') (hn : as.length = n) (hst : stk = as.reverse ++ st) (hcat : (st.map fun v => v.category).sum ≤ 8) (hR : Yy.2.2.2.1 + 1 ≤ Y.2.2.2.1 ∧ 8 + (Yy.2.1 + 11) + Yy.2.2.2.2.1 ≤ Y.2.2.2.2.1) (k : PW cc Y Z (pc + 3) ls (.float r :: st) σ I' F' β) : PW cc Y Z pc ls stk σ I F β :=
  pw_callS hdg hy hl hM hn hst hcat hR ⟨Nat.zero_le _, Nat.zero_le _⟩ (by rintro _ _ _ _ ⟨rfl, rfl, rfl, rfl⟩; exact k)
theorem pe_callSNf {y : MethodName} {cy : ByteArray} {Yy : mB} {n idx : Nat} {as : List Value} {r : UInt32} {I' : pI} {F' : pF} {stk : List Value} (hdg : decode cc pc = .ok (.invokestatic idx, 3)) (hy : mOKS y cy Yy n) {host : String} (hl : (Y.1, idx, y, host) ∈ spN) (hM : PE y cy Yy as σ I F (some (.float r)) I' F') (hn : as.length = n) (hst : stk = as.reverse ++ st) (hcat : (st.map fun v => v.category).sum ≤ 8) (hR : Yy.2.2.2.1 + 1 ≤ Y.2.2.2.1 ∧ 8 + (Yy.2.1 + 11) + Yy.2.2.2.2.1 ≤ Y.2.2.2.2.1) (k : PW cc Y Z (pc + 3) ls (.float r :: st) σ I' F' β) : PW cc Y Z pc ls stk σ I F β :=
  pw_callSN hdg hy hl hM hn hst hcat hR ⟨Nat.zero_le _, Nat.zero_le _⟩ (by rintro _ _ _ _ ⟨rfl, rfl, rfl, rfl⟩; exact k)
theorem pe_callSv {y : MethodName} {cy : ByteArray} {Yy : mB} {n idx : Nat} {as : List Value} {I' : pI} {F' : pF} {stk : List Value} (hdg : decode cc pc = .ok (.invokestatic idx, 3)) (hy : mOKS y cy Yy n) (hl : Cond.methodLink Y.1 idx y ∈ wsA) (hM : PE y cy Yy as σ I F none I' F') (hn : as.length = n) (hst : stk = as.reverse ++ st) (hcat : (st.map fun v => v.category).sum ≤ 8) (hR : Yy.2.2.2.1 + 1 ≤ Y.2.2.2.1 ∧ 8 + (Yy.2.1 + 11) + Yy.2.2.2.2.1 ≤ Y.2.2.2.2.1) (k : PW cc Y Z (pc + 3) ls st σ I' F' β) : PW cc Y Z pc ls stk σ I F β :=
  pw_callS hdg hy hl hM hn hst hcat hR ⟨Nat.zero_le _, Nat.zero_le _⟩ (by rintro _ _ _ _ ⟨rfl, rfl, rfl, rfl⟩; exact k)
theorem pe_callSNv {y : MethodName} {cy : ByteArray} {Yy : mB} {n idx : Nat} {as : List Value} {I' : pI} {F' : pF} {stk : List Value} (hdg : decode cc pc = .ok (.invokestatic idx, 3)) (hy : mOKS y cy Yy n) {host : String} (hl : (Y.1, idx, y, host) ∈ spN) (hM : PE y cy Yy as σ I F none I' F') (hn : as.length = n) (hst : stk = as.reverse ++ st) (hcat : (st.map fun v => v.category).sum ≤ 8) (hR : Yy.2.2.2.1 + 1 ≤ Y.2.2.2.1 ∧ 8 + (Yy.2.1 + 11) + Yy.2.2.2.2.1 ≤ Y.2.2.2.2.1) (k : PW cc Y Z (pc + 3) ls st σ I' F' β) : PW cc Y Z pc ls stk σ I F β :=
  pw_callSN hdg hy hl hM hn hst hcat hR ⟨Nat.zero_le _, Nat.zero_le _⟩ (by rintro _ _ _ _ ⟨rfl, rfl, rfl, rfl⟩; exact k)
theorem pr_callS {y : MethodName} {cy : ByteArray} {Yy : mB} {n idx : Nat} {as : List Value} {Q : Option Value → pI → pF → Prop} {stk : List Value} (hdg : decode cc pc = .ok (.invokestatic idx, 3)) (hy : mOKS y cy Yy n) (hl : Cond.methodLink Y.1 idx y ∈ wsA) (hM : PR y cy Yy as σ I F Q) (hn : as.length = n) (hst : stk = as.reverse ++ st) (hcat : (st.map fun v => v.category).sum ≤ 8) (hR : Yy.2.2.2.1 + 1 ≤ Y.2.2.2.1 ∧ 8 + (Yy.2.1 + 11) + Yy.2.2.2.2.1 ≤ Y.2.2.2.2.1) (k : ∀ v I' F', Q v I' F' → PW cc Y Z (pc + 3) ls (v.toList ++ st) σ I' F' β) : PW cc Y Z pc ls stk σ I F β :=
  pw_callS hdg hy hl hM hn hst hcat hR ⟨Nat.zero_le _, Nat.zero_le _⟩ (by rintro v _ I' F' ⟨rfl, h⟩; exact k v I' F' h)
end PB
end
section
/-! names as the contracts ask for them -/
theorem catOK {as : List Value} (h : (as.all fun v => v.category == 1) = true) : ∀ v ∈ as, v.category = 1 := fun v hv => by simpa using List.all_eq_true.mp h v hv
theorem pn_RX0 : plainName RX0 = true := by decide +kernel
theorem pn_RX1 : plainName RX1 = true := by decide +kernel
theorem pn_RX2 : plainName RX2 = true := by decide +kernel
theorem pn_RX3 : plainName RX3 = true := by decide +kernel
theorem pn_RX4 : plainName RX4 = true := by decide +kernel
theorem pn_RX5 : plainName RX5 = true := by decide +kernel
theorem pn_RX6 : plainName RX6 = true := by decide +kernel
theorem pn_RX7 : plainName RX7 = true := by decide +kernel
theorem pn_RX8 : plainName RX8 = true := by decide +kernel
theorem pn_RJ6 : plainName RJ6 = true := by decide +kernel
theorem oP_X0_init : plainName yX0_init.cls = true ∧ yX0_init.cls = mX0_init.1 ∧ (mX0_init.2.2.2.2.2 = true → yX0_init.name = "<init>") := ⟨pn_RX0, rfl, fun _ => rfl⟩
theorem oP_X0_setUp : plainName yX0_setUp.cls = true ∧ yX0_setUp.cls = mX0_setUp.1 ∧ (mX0_setUp.2.2.2.2.2 = true → yX0_setUp.name = "<init>") := ⟨pn_RX0, rfl, (fun h => by cases h)⟩
theorem oP_X0_copyFrom : plainName yX0_copyFrom.cls = true ∧ yX0_copyFrom.cls = mX0_copyFrom.1 ∧ (mX0_copyFrom.2.2.2.2.2 = true → yX0_copyFrom.name = "<init>") := ⟨pn_RX0, rfl, (fun h => by cases h)⟩
theorem oP_X0_isLinkedTo : plainName yX0_isLinkedTo.cls = true ∧ yX0_isLinkedTo.cls = mX0_isLinkedTo.1 ∧ (mX0_isLinkedTo.2.2.2.2.2 = true → yX0_isLinkedTo.name = "<init>") := ⟨pn_RX0, rfl, (fun h => by cases h)⟩
theorem oP_X0_runForAnHour : plainName yX0_runForAnHour.cls = true ∧ yX0_runForAnHour.cls = mX0_runForAnHour.1 ∧ (mX0_runForAnHour.2.2.2.2.2 = true → yX0_runForAnHour.name = "<init>") := ⟨pn_RX0, rfl, (fun h => by cases h)⟩
theorem oP_X0_mend : plainName yX0_mend.cls = true ∧ yX0_mend.cls = mX0_mend.1 ∧ (mX0_mend.2.2.2.2.2 = true → yX0_mend.name = "<init>") := ⟨pn_RX0, rfl, (fun h => by cases h)⟩
theorem oP_X0_afterAnHour : plainName yX0_afterAnHour.cls = true ∧ yX0_afterAnHour.cls = mX0_afterAnHour.1 ∧ (mX0_afterAnHour.2.2.2.2.2 = true → yX0_afterAnHour.name = "<init>") := ⟨pn_RX0, rfl, (fun h => by cases h)⟩
theorem oP_X0_healthAfter : plainName yX0_healthAfter.cls = true ∧ yX0_healthAfter.cls = mX0_healthAfter.1 ∧ (mX0_healthAfter.2.2.2.2.2 = true → yX0_healthAfter.name = "<init>") := ⟨pn_RX0, rfl, (fun h => by cases h)⟩
theorem oP_X0_hoursUntilBelow : plainName yX0_hoursUntilBelow.cls = true ∧ yX0_hoursUntilBelow.cls = mX0_hoursUntilBelow.1 ∧ (mX0_hoursUntilBelow.2.2.2.2.2 = true → yX0_hoursUntilBelow.name = "<init>") := ⟨pn_RX0, rfl, (fun h => by cases h)⟩
theorem oP_X1_init : plainName yX1_init.cls = true ∧ yX1_init.cls = mX1_init.1 ∧ (mX1_init.2.2.2.2.2 = true → yX1_init.name = "<init>") := ⟨pn_RX1, rfl, fun _ => rfl⟩
theorem oP_X1_setUp : plainName yX1_setUp.cls = true ∧ yX1_setUp.cls = mX1_setUp.1 ∧ (mX1_setUp.2.2.2.2.2 = true → yX1_setUp.name = "<init>") := ⟨pn_RX1, rfl, (fun h => by cases h)⟩
theorem oP_X1_copyFrom : plainName yX1_copyFrom.cls = true ∧ yX1_copyFrom.cls = mX1_copyFrom.1 ∧ (mX1_copyFrom.2.2.2.2.2 = true → yX1_copyFrom.name = "<init>") := ⟨pn_RX1, rfl, (fun h => by cases h)⟩
theorem oP_X1_has : plainName yX1_has.cls = true ∧ yX1_has.cls = mX1_has.1 ∧ (mX1_has.2.2.2.2.2 = true → yX1_has.name = "<init>") := ⟨pn_RX1, rfl, (fun h => by cases h)⟩
theorem oP_X2_init : plainName yX2_init.cls = true ∧ yX2_init.cls = mX2_init.1 ∧ (mX2_init.2.2.2.2.2 = true → yX2_init.name = "<init>") := ⟨pn_RX2, rfl, fun _ => rfl⟩
theorem oP_X2_add : plainName yX2_add.cls = true ∧ yX2_add.cls = mX2_add.1 ∧ (mX2_add.2.2.2.2.2 = true → yX2_add.name = "<init>") := ⟨pn_RX2, rfl, (fun h => by cases h)⟩
theorem oP_X2_takeBack : plainName yX2_takeBack.cls = true ∧ yX2_takeBack.cls = mX2_takeBack.1 ∧ (mX2_takeBack.2.2.2.2.2 = true → yX2_takeBack.name = "<init>") := ⟨pn_RX2, rfl, (fun h => by cases h)⟩
theorem oP_X3_init : plainName yX3_init.cls = true ∧ yX3_init.cls = mX3_init.1 ∧ (mX3_init.2.2.2.2.2 = true → yX3_init.name = "<init>") := ⟨pn_RX3, rfl, fun _ => rfl⟩
theorem oP_X4_init : plainName yX4_init.cls = true ∧ yX4_init.cls = mX4_init.1 ∧ (mX4_init.2.2.2.2.2 = true → yX4_init.name = "<init>") := ⟨pn_RX4, rfl, fun _ => rfl⟩
theorem oP_X4_append : plainName yX4_append.cls = true ∧ yX4_append.cls = mX4_append.1 ∧ (mX4_append.2.2.2.2.2 = true → yX4_append.name = "<init>") := ⟨pn_RX4, rfl, (fun h => by cases h)⟩
theorem oP_X4_clear : plainName yX4_clear.cls = true ∧ yX4_clear.cls = mX4_clear.1 ∧ (mX4_clear.2.2.2.2.2 = true → yX4_clear.name = "<init>") := ⟨pn_RX4, rfl, (fun h => by cases h)⟩
theorem oP_X4_read : plainName yX4_read.cls = true ∧ yX4_read.cls = mX4_read.1 ∧ (mX4_read.2.2.2.2.2 = true → yX4_read.name = "<init>") := ⟨pn_RX4, rfl, (fun h => by cases h)⟩
theorem oP_X4_readOrder : plainName yX4_readOrder.cls = true ∧ yX4_readOrder.cls = mX4_readOrder.1 ∧ (mX4_readOrder.2.2.2.2.2 = true → yX4_readOrder.name = "<init>") := ⟨pn_RX4, rfl, (fun h => by cases h)⟩
theorem oP_X4_readNumber : plainName yX4_readNumber.cls = true ∧ yX4_readNumber.cls = mX4_readNumber.1 ∧ (mX4_readNumber.2.2.2.2.2 = true → yX4_readNumber.name = "<init>") := ⟨pn_RX4, rfl, (fun h => by cases h)⟩
theorem oP_X4_readAsset : plainName yX4_readAsset.cls = true ∧ yX4_readAsset.cls = mX4_readAsset.1 ∧ (mX4_readAsset.2.2.2.2.2 = true → yX4_readAsset.name = "<init>") := ⟨pn_RX4, rfl, (fun h => by cases h)⟩
theorem oP_X4_readCrew : plainName yX4_readCrew.cls = true ∧ yX4_readCrew.cls = mX4_readCrew.1 ∧ (mX4_readCrew.2.2.2.2.2 = true → yX4_readCrew.name = "<init>") := ⟨pn_RX4, rfl, (fun h => by cases h)⟩
theorem oP_X4_readSign : plainName yX4_readSign.cls = true ∧ yX4_readSign.cls = mX4_readSign.1 ∧ (mX4_readSign.2.2.2.2.2 = true → yX4_readSign.name = "<init>") := ⟨pn_RX4, rfl, (fun h => by cases h)⟩
theorem oP_X4_isAtDigit : plainName yX4_isAtDigit.cls = true ∧ yX4_isAtDigit.cls = mX4_isAtDigit.1 ∧ (mX4_isAtDigit.2.2.2.2.2 = true → yX4_isAtDigit.name = "<init>") := ⟨pn_RX4, rfl, (fun h => by cases h)⟩
theorem oP_X4_readDigit : plainName yX4_readDigit.cls = true ∧ yX4_readDigit.cls = mX4_readDigit.1 ∧ (mX4_readDigit.2.2.2.2.2 = true → yX4_readDigit.name = "<init>") := ⟨pn_RX4, rfl, (fun h => by cases h)⟩
theorem oP_X5_init : plainName yX5_init.cls = true ∧ yX5_init.cls = mX5_init.1 ∧ (mX5_init.2.2.2.2.2 = true → yX5_init.name = "<init>") := ⟨pn_RX5, rfl, fun _ => rfl⟩
theorem oP_X5_copyFrom : plainName yX5_copyFrom.cls = true ∧ yX5_copyFrom.cls = mX5_copyFrom.1 ∧ (mX5_copyFrom.2.2.2.2.2 = true → yX5_copyFrom.name = "<init>") := ⟨pn_RX5, rfl, (fun h => by cases h)⟩
theorem oP_X5_hasAsset : plainName yX5_hasAsset.cls = true ∧ yX5_hasAsset.cls = mX5_hasAsset.1 ∧ (mX5_hasAsset.2.2.2.2.2 = true → yX5_hasAsset.name = "<init>") := ⟨pn_RX5, rfl, (fun h => by cases h)⟩
theorem oP_X5_hasCrew : plainName yX5_hasCrew.cls = true ∧ yX5_hasCrew.cls = mX5_hasCrew.1 ∧ (mX5_hasCrew.2.2.2.2.2 = true → yX5_hasCrew.name = "<init>") := ⟨pn_RX5, rfl, (fun h => by cases h)⟩
theorem oP_X5_hasTask : plainName yX5_hasTask.cls = true ∧ yX5_hasTask.cls = mX5_hasTask.1 ∧ (mX5_hasTask.2.2.2.2.2 = true → yX5_hasTask.name = "<init>") := ⟨pn_RX5, rfl, (fun h => by cases h)⟩
theorem oP_X5_newAsset : plainName yX5_newAsset.cls = true ∧ yX5_newAsset.cls = mX5_newAsset.1 ∧ (mX5_newAsset.2.2.2.2.2 = true → yX5_newAsset.name = "<init>") := ⟨pn_RX5, rfl, (fun h => by cases h)⟩
theorem oP_X5_setLink : plainName yX5_setLink.cls = true ∧ yX5_setLink.cls = mX5_setLink.1 ∧ (mX5_setLink.2.2.2.2.2 = true → yX5_setLink.name = "<init>") := ⟨pn_RX5, rfl, (fun h => by cases h)⟩
theorem oP_X5_setBar : plainName yX5_setBar.cls = true ∧ yX5_setBar.cls = mX5_setBar.1 ∧ (mX5_setBar.2.2.2.2.2 = true → yX5_setBar.name = "<init>") := ⟨pn_RX5, rfl, (fun h => by cases h)⟩
theorem oP_X5_newCrew : plainName yX5_newCrew.cls = true ∧ yX5_newCrew.cls = mX5_newCrew.1 ∧ (mX5_newCrew.2.2.2.2.2 = true → yX5_newCrew.name = "<init>") := ⟨pn_RX5, rfl, (fun h => by cases h)⟩
theorem oP_X5_newTask : plainName yX5_newTask.cls = true ∧ yX5_newTask.cls = mX5_newTask.1 ∧ (mX5_newTask.2.2.2.2.2 = true → yX5_newTask.name = "<init>") := ⟨pn_RX5, rfl, (fun h => by cases h)⟩
theorem oP_X5_startAsset : plainName yX5_startAsset.cls = true ∧ yX5_startAsset.cls = mX5_startAsset.1 ∧ (mX5_startAsset.2.2.2.2.2 = true → yX5_startAsset.name = "<init>") := ⟨pn_RX5, rfl, (fun h => by cases h)⟩
theorem oP_X5_stopAsset : plainName yX5_stopAsset.cls = true ∧ yX5_stopAsset.cls = mX5_stopAsset.1 ∧ (mX5_stopAsset.2.2.2.2.2 = true → yX5_stopAsset.name = "<init>") := ⟨pn_RX5, rfl, (fun h => by cases h)⟩
theorem oP_X5_hangTag : plainName yX5_hangTag.cls = true ∧ yX5_hangTag.cls = mX5_hangTag.1 ∧ (mX5_hangTag.2.2.2.2.2 = true → yX5_hangTag.name = "<init>") := ⟨pn_RX5, rfl, (fun h => by cases h)⟩
theorem oP_X5_beginTask : plainName yX5_beginTask.cls = true ∧ yX5_beginTask.cls = mX5_beginTask.1 ∧ (mX5_beginTask.2.2.2.2.2 = true → yX5_beginTask.name = "<init>") := ⟨pn_RX5, rfl, (fun h => by cases h)⟩
theorem oP_X5_liftTag : plainName yX5_liftTag.cls = true ∧ yX5_liftTag.cls = mX5_liftTag.1 ∧ (mX5_liftTag.2.2.2.2.2 = true → yX5_liftTag.name = "<init>") := ⟨pn_RX5, rfl, (fun h => by cases h)⟩
theorem oP_X5_cancelTask : plainName yX5_cancelTask.cls = true ∧ yX5_cancelTask.cls = mX5_cancelTask.1 ∧ (mX5_cancelTask.2.2.2.2.2 = true → yX5_cancelTask.name = "<init>") := ⟨pn_RX5, rfl, (fun h => by cases h)⟩
theorem oP_X5_passHours : plainName yX5_passHours.cls = true ∧ yX5_passHours.cls = mX5_passHours.1 ∧ (mX5_passHours.2.2.2.2.2 = true → yX5_passHours.name = "<init>") := ⟨pn_RX5, rfl, (fun h => by cases h)⟩
theorem oP_X5_runAssets : plainName yX5_runAssets.cls = true ∧ yX5_runAssets.cls = mX5_runAssets.1 ∧ (mX5_runAssets.2.2.2.2.2 = true → yX5_runAssets.name = "<init>") := ⟨pn_RX5, rfl, (fun h => by cases h)⟩
theorem oP_X5_workOnTasks : plainName yX5_workOnTasks.cls = true ∧ yX5_workOnTasks.cls = mX5_workOnTasks.1 ∧ (mX5_workOnTasks.2.2.2.2.2 = true → yX5_workOnTasks.name = "<init>") := ⟨pn_RX5, rfl, (fun h => by cases h)⟩
theorem oP_X5_mendAsset : plainName yX5_mendAsset.cls = true ∧ yX5_mendAsset.cls = mX5_mendAsset.1 ∧ (mX5_mendAsset.2.2.2.2.2 = true → yX5_mendAsset.name = "<init>") := ⟨pn_RX5, rfl, (fun h => by cases h)⟩
theorem oP_X5_slipTasks : plainName yX5_slipTasks.cls = true ∧ yX5_slipTasks.cls = mX5_slipTasks.1 ∧ (mX5_slipTasks.2.2.2.2.2 = true → yX5_slipTasks.name = "<init>") := ⟨pn_RX5, rfl, (fun h => by cases h)⟩
theorem oP_X5_reasonAgainst : plainName yX5_reasonAgainst.cls = true ∧ yX5_reasonAgainst.cls = mX5_reasonAgainst.1 ∧ (mX5_reasonAgainst.2.2.2.2.2 = true → yX5_reasonAgainst.name = "<init>") := ⟨pn_RX5, rfl, (fun h => by cases h)⟩
theorem oP_X5_barrierOf : plainName yX5_barrierOf.cls = true ∧ yX5_barrierOf.cls = mX5_barrierOf.1 ∧ (mX5_barrierOf.2.2.2.2.2 = true → yX5_barrierOf.name = "<init>") := ⟨pn_RX5, rfl, (fun h => by cases h)⟩
theorem oP_X5_doBar : plainName yX5_doBar.cls = true ∧ yX5_doBar.cls = mX5_doBar.1 ∧ (mX5_doBar.2.2.2.2.2 = true → yX5_doBar.name = "<init>") := ⟨pn_RX5, rfl, (fun h => by cases h)⟩
theorem oP_X5_areNear : plainName yX5_areNear.cls = true ∧ yX5_areNear.cls = mX5_areNear.1 ∧ (mX5_areNear.2.2.2.2.2 = true → yX5_areNear.name = "<init>") := ⟨pn_RX5, rfl, (fun h => by cases h)⟩
theorem oP_X5_isRunning : plainName yX5_isRunning.cls = true ∧ yX5_isRunning.cls = mX5_isRunning.1 ∧ (mX5_isRunning.2.2.2.2.2 = true → yX5_isRunning.name = "<init>") := ⟨pn_RX5, rfl, (fun h => by cases h)⟩
theorem oP_X5_canServe : plainName yX5_canServe.cls = true ∧ yX5_canServe.cls = mX5_canServe.1 ∧ (mX5_canServe.2.2.2.2.2 = true → yX5_canServe.name = "<init>") := ⟨pn_RX5, rfl, (fun h => by cases h)⟩
theorem oP_X5_firstCrewFor : plainName yX5_firstCrewFor.cls = true ∧ yX5_firstCrewFor.cls = mX5_firstCrewFor.1 ∧ (mX5_firstCrewFor.2.2.2.2.2 = true → yX5_firstCrewFor.name = "<init>") := ⟨pn_RX5, rfl, (fun h => by cases h)⟩
theorem oP_X5_tagsHanging : plainName yX5_tagsHanging.cls = true ∧ yX5_tagsHanging.cls = mX5_tagsHanging.1 ∧ (mX5_tagsHanging.2.2.2.2.2 = true → yX5_tagsHanging.name = "<init>") := ⟨pn_RX5, rfl, (fun h => by cases h)⟩
theorem oP_X5_taskOfTag : plainName yX5_taskOfTag.cls = true ∧ yX5_taskOfTag.cls = mX5_taskOfTag.1 ∧ (mX5_taskOfTag.2.2.2.2.2 = true → yX5_taskOfTag.name = "<init>") := ⟨pn_RX5, rfl, (fun h => by cases h)⟩
theorem oP_X5_tasksOfAsset : plainName yX5_tasksOfAsset.cls = true ∧ yX5_tasksOfAsset.cls = mX5_tasksOfAsset.1 ∧ (mX5_tasksOfAsset.2.2.2.2.2 = true → yX5_tasksOfAsset.name = "<init>") := ⟨pn_RX5, rfl, (fun h => by cases h)⟩
theorem oP_X5_tasksOfCrew : plainName yX5_tasksOfCrew.cls = true ∧ yX5_tasksOfCrew.cls = mX5_tasksOfCrew.1 ∧ (mX5_tasksOfCrew.2.2.2.2.2 = true → yX5_tasksOfCrew.name = "<init>") := ⟨pn_RX5, rfl, (fun h => by cases h)⟩
theorem oP_X5_tasksIn : plainName yX5_tasksIn.cls = true ∧ yX5_tasksIn.cls = mX5_tasksIn.1 ∧ (mX5_tasksIn.2.2.2.2.2 = true → yX5_tasksIn.name = "<init>") := ⟨pn_RX5, rfl, (fun h => by cases h)⟩
theorem oP_X5_busyPeople : plainName yX5_busyPeople.cls = true ∧ yX5_busyPeople.cls = mX5_busyPeople.1 ∧ (mX5_busyPeople.2.2.2.2.2 = true → yX5_busyPeople.name = "<init>") := ⟨pn_RX5, rfl, (fun h => by cases h)⟩
theorem oP_X5_allBusyPeople : plainName yX5_allBusyPeople.cls = true ∧ yX5_allBusyPeople.cls = mX5_allBusyPeople.1 ∧ (mX5_allBusyPeople.2.2.2.2.2 = true → yX5_allBusyPeople.name = "<init>") := ⟨pn_RX5, rfl, (fun h => by cases h)⟩
theorem oP_X5_assetsRunning : plainName yX5_assetsRunning.cls = true ∧ yX5_assetsRunning.cls = mX5_assetsRunning.1 ∧ (mX5_assetsRunning.2.2.2.2.2 = true → yX5_assetsRunning.name = "<init>") := ⟨pn_RX5, rfl, (fun h => by cases h)⟩
theorem oP_X5_slipsSoFar : plainName yX5_slipsSoFar.cls = true ∧ yX5_slipsSoFar.cls = mX5_slipsSoFar.1 ∧ (mX5_slipsSoFar.2.2.2.2.2 = true → yX5_slipsSoFar.name = "<init>") := ⟨pn_RX5, rfl, (fun h => by cases h)⟩
theorem oP_X6_init : plainName yX6_init.cls = true ∧ yX6_init.cls = mX6_init.1 ∧ (mX6_init.2.2.2.2.2 = true → yX6_init.name = "<init>") := ⟨pn_RX6, rfl, fun _ => rfl⟩
theorem oP_X6_setUp : plainName yX6_setUp.cls = true ∧ yX6_setUp.cls = mX6_setUp.1 ∧ (mX6_setUp.2.2.2.2.2 = true → yX6_setUp.name = "<init>") := ⟨pn_RX6, rfl, (fun h => by cases h)⟩
theorem oP_X6_copyFrom : plainName yX6_copyFrom.cls = true ∧ yX6_copyFrom.cls = mX6_copyFrom.1 ∧ (mX6_copyFrom.2.2.2.2.2 = true → yX6_copyFrom.name = "<init>") := ⟨pn_RX6, rfl, (fun h => by cases h)⟩
theorem oP_X6_isIn : plainName yX6_isIn.cls = true ∧ yX6_isIn.cls = mX6_isIn.1 ∧ (mX6_isIn.2.2.2.2.2 = true → yX6_isIn.name = "<init>") := ⟨pn_RX6, rfl, (fun h => by cases h)⟩
theorem oP_X6_tagHangs : plainName yX6_tagHangs.cls = true ∧ yX6_tagHangs.cls = mX6_tagHangs.1 ∧ (mX6_tagHangs.2.2.2.2.2 = true → yX6_tagHangs.name = "<init>") := ⟨pn_RX6, rfl, (fun h => by cases h)⟩
theorem oP_X6_isTooLateAt : plainName yX6_isTooLateAt.cls = true ∧ yX6_isTooLateAt.cls = mX6_isTooLateAt.1 ∧ (mX6_isTooLateAt.2.2.2.2.2 = true → yX6_isTooLateAt.name = "<init>") := ⟨pn_RX6, rfl, (fun h => by cases h)⟩
theorem oP_X6_slip : plainName yX6_slip.cls = true ∧ yX6_slip.cls = mX6_slip.1 ∧ (mX6_slip.2.2.2.2.2 = true → yX6_slip.name = "<init>") := ⟨pn_RX6, rfl, (fun h => by cases h)⟩
theorem oP_X7_init : plainName yX7_init.cls = true ∧ yX7_init.cls = mX7_init.1 ∧ (mX7_init.2.2.2.2.2 = true → yX7_init.name = "<init>") := ⟨pn_RX7, rfl, fun _ => rfl⟩
theorem oP_X7_addAsset : plainName yX7_addAsset.cls = true ∧ yX7_addAsset.cls = mX7_addAsset.1 ∧ (mX7_addAsset.2.2.2.2.2 = true → yX7_addAsset.name = "<init>") := ⟨pn_RX7, rfl, (fun h => by cases h)⟩
theorem oP_X7_link : plainName yX7_link.cls = true ∧ yX7_link.cls = mX7_link.1 ∧ (mX7_link.2.2.2.2.2 = true → yX7_link.name = "<init>") := ⟨pn_RX7, rfl, (fun h => by cases h)⟩
theorem oP_X7_bar : plainName yX7_bar.cls = true ∧ yX7_bar.cls = mX7_bar.1 ∧ (mX7_bar.2.2.2.2.2 = true → yX7_bar.name = "<init>") := ⟨pn_RX7, rfl, (fun h => by cases h)⟩
theorem oP_X7_addCrew : plainName yX7_addCrew.cls = true ∧ yX7_addCrew.cls = mX7_addCrew.1 ∧ (mX7_addCrew.2.2.2.2.2 = true → yX7_addCrew.name = "<init>") := ⟨pn_RX7, rfl, (fun h => by cases h)⟩
theorem oP_X7_addTask : plainName yX7_addTask.cls = true ∧ yX7_addTask.cls = mX7_addTask.1 ∧ (mX7_addTask.2.2.2.2.2 = true → yX7_addTask.name = "<init>") := ⟨pn_RX7, rfl, (fun h => by cases h)⟩
theorem oP_X7_run : plainName yX7_run.cls = true ∧ yX7_run.cls = mX7_run.1 ∧ (mX7_run.2.2.2.2.2 = true → yX7_run.name = "<init>") := ⟨pn_RX7, rfl, (fun h => by cases h)⟩
theorem oP_X7_stop : plainName yX7_stop.cls = true ∧ yX7_stop.cls = mX7_stop.1 ∧ (mX7_stop.2.2.2.2.2 = true → yX7_stop.name = "<init>") := ⟨pn_RX7, rfl, (fun h => by cases h)⟩
theorem oP_X7_hang : plainName yX7_hang.cls = true ∧ yX7_hang.cls = mX7_hang.1 ∧ (mX7_hang.2.2.2.2.2 = true → yX7_hang.name = "<init>") := ⟨pn_RX7, rfl, (fun h => by cases h)⟩
theorem oP_X7_begin : plainName yX7_begin.cls = true ∧ yX7_begin.cls = mX7_begin.1 ∧ (mX7_begin.2.2.2.2.2 = true → yX7_begin.name = "<init>") := ⟨pn_RX7, rfl, (fun h => by cases h)⟩
theorem oP_X7_lift : plainName yX7_lift.cls = true ∧ yX7_lift.cls = mX7_lift.1 ∧ (mX7_lift.2.2.2.2.2 = true → yX7_lift.name = "<init>") := ⟨pn_RX7, rfl, (fun h => by cases h)⟩
theorem oP_X7_cancel : plainName yX7_cancel.cls = true ∧ yX7_cancel.cls = mX7_cancel.1 ∧ (mX7_cancel.2.2.2.2.2 = true → yX7_cancel.name = "<init>") := ⟨pn_RX7, rfl, (fun h => by cases h)⟩
theorem oP_X7_pass : plainName yX7_pass.cls = true ∧ yX7_pass.cls = mX7_pass.1 ∧ (mX7_pass.2.2.2.2.2 = true → yX7_pass.name = "<init>") := ⟨pn_RX7, rfl, (fun h => by cases h)⟩
theorem oP_X7_type : plainName yX7_type.cls = true ∧ yX7_type.cls = mX7_type.1 ∧ (mX7_type.2.2.2.2.2 = true → yX7_type.name = "<init>") := ⟨pn_RX7, rfl, (fun h => by cases h)⟩
theorem oP_X7_clearText : plainName yX7_clearText.cls = true ∧ yX7_clearText.cls = mX7_clearText.1 ∧ (mX7_clearText.2.2.2.2.2 = true → yX7_clearText.name = "<init>") := ⟨pn_RX7, rfl, (fun h => by cases h)⟩
theorem oP_X7_perform : plainName yX7_perform.cls = true ∧ yX7_perform.cls = mX7_perform.1 ∧ (mX7_perform.2.2.2.2.2 = true → yX7_perform.name = "<init>") := ⟨pn_RX7, rfl, (fun h => by cases h)⟩
theorem oP_X7_undo : plainName yX7_undo.cls = true ∧ yX7_undo.cls = mX7_undo.1 ∧ (mX7_undo.2.2.2.2.2 = true → yX7_undo.name = "<init>") := ⟨pn_RX7, rfl, (fun h => by cases h)⟩
theorem oP_X7_keep : plainName yX7_keep.cls = true ∧ yX7_keep.cls = mX7_keep.1 ∧ (mX7_keep.2.2.2.2.2 = true → yX7_keep.name = "<init>") := ⟨pn_RX7, rfl, (fun h => by cases h)⟩
theorem oP_X7_restore : plainName yX7_restore.cls = true ∧ yX7_restore.cls = mX7_restore.1 ∧ (mX7_restore.2.2.2.2.2 = true → yX7_restore.name = "<init>") := ⟨pn_RX7, rfl, (fun h => by cases h)⟩
theorem oP_X7_real : plainName yX7_real.cls = true ∧ yX7_real.cls = mX7_real.1 ∧ (mX7_real.2.2.2.2.2 = true → yX7_real.name = "<init>") := ⟨pn_RX7, rfl, (fun h => by cases h)⟩
theorem oP_X7_healthIn : plainName yX7_healthIn.cls = true ∧ yX7_healthIn.cls = mX7_healthIn.1 ∧ (mX7_healthIn.2.2.2.2.2 = true → yX7_healthIn.name = "<init>") := ⟨pn_RX7, rfl, (fun h => by cases h)⟩
theorem oP_X7_hoursTo : plainName yX7_hoursTo.cls = true ∧ yX7_hoursTo.cls = mX7_hoursTo.1 ∧ (mX7_hoursTo.2.2.2.2.2 = true → yX7_hoursTo.name = "<init>") := ⟨pn_RX7, rfl, (fun h => by cases h)⟩
theorem oP_X7_asset : plainName yX7_asset.cls = true ∧ yX7_asset.cls = mX7_asset.1 ∧ (mX7_asset.2.2.2.2.2 = true → yX7_asset.name = "<init>") := ⟨pn_RX7, rfl, (fun h => by cases h)⟩
theorem oP_X7_tagAt : plainName yX7_tagAt.cls = true ∧ yX7_tagAt.cls = mX7_tagAt.1 ∧ (mX7_tagAt.2.2.2.2.2 = true → yX7_tagAt.name = "<init>") := ⟨pn_RX7, rfl, (fun h => by cases h)⟩
theorem oP_X7_crew : plainName yX7_crew.cls = true ∧ yX7_crew.cls = mX7_crew.1 ∧ (mX7_crew.2.2.2.2.2 = true → yX7_crew.name = "<init>") := ⟨pn_RX7, rfl, (fun h => by cases h)⟩
theorem oP_X7_task : plainName yX7_task.cls = true ∧ yX7_task.cls = mX7_task.1 ∧ (mX7_task.2.2.2.2.2 = true → yX7_task.name = "<init>") := ⟨pn_RX7, rfl, (fun h => by cases h)⟩
theorem oP_X7_crewFor : plainName yX7_crewFor.cls = true ∧ yX7_crewFor.cls = mX7_crewFor.1 ∧ (mX7_crewFor.2.2.2.2.2 = true → yX7_crewFor.name = "<init>") := ⟨pn_RX7, rfl, (fun h => by cases h)⟩
theorem oP_X7_count : plainName yX7_count.cls = true ∧ yX7_count.cls = mX7_count.1 ∧ (mX7_count.2.2.2.2.2 = true → yX7_count.name = "<init>") := ⟨pn_RX7, rfl, (fun h => by cases h)⟩
theorem oP_X7_recorded : plainName yX7_recorded.cls = true ∧ yX7_recorded.cls = mX7_recorded.1 ∧ (mX7_recorded.2.2.2.2.2 = true → yX7_recorded.name = "<init>") := ⟨pn_RX7, rfl, (fun h => by cases h)⟩
theorem oP_X7_follow : plainName yX7_follow.cls = true ∧ yX7_follow.cls = mX7_follow.1 ∧ (mX7_follow.2.2.2.2.2 = true → yX7_follow.name = "<init>") := ⟨pn_RX7, rfl, (fun h => by cases h)⟩
theorem oP_X7_within : plainName yX7_within.cls = true ∧ yX7_within.cls = mX7_within.1 ∧ (mX7_within.2.2.2.2.2 = true → yX7_within.name = "<init>") := ⟨pn_RX7, rfl, (fun h => by cases h)⟩
theorem oP_X8_init : plainName yX8_init.cls = true ∧ yX8_init.cls = mX8_init.1 ∧ (mX8_init.2.2.2.2.2 = true → yX8_init.name = "<init>") := ⟨pn_RX8, rfl, fun _ => rfl⟩
theorem oP_X8_isIn : plainName yX8_isIn.cls = true ∧ yX8_isIn.cls = mX8_isIn.1 ∧ (mX8_isIn.2.2.2.2.2 = true → yX8_isIn.name = "<init>") := ⟨pn_RX8, rfl, (fun h => by cases h)⟩
theorem oP_X8_of : plainName yX8_of.cls = true ∧ yX8_of.cls = mX8_of.1 ∧ (mX8_of.2.2.2.2.2 = true → yX8_of.name = "<init>") := ⟨pn_RX8, rfl, (fun h => by cases h)⟩
theorem oP_X8_sets : plainName yX8_sets.cls = true ∧ yX8_sets.cls = mX8_sets.1 ∧ (mX8_sets.2.2.2.2.2 = true → yX8_sets.name = "<init>") := ⟨pn_RX8, rfl, (fun h => by cases h)⟩
theorem oP_X8_ofTask : plainName yX8_ofTask.cls = true ∧ yX8_ofTask.cls = mX8_ofTask.1 ∧ (mX8_ofTask.2.2.2.2.2 = true → yX8_ofTask.name = "<init>") := ⟨pn_RX8, rfl, (fun h => by cases h)⟩
theorem oP_X8_setsTask : plainName yX8_setsTask.cls = true ∧ yX8_setsTask.cls = mX8_setsTask.1 ∧ (mX8_setsTask.2.2.2.2.2 = true → yX8_setsTask.name = "<init>") := ⟨pn_RX8, rfl, (fun h => by cases h)⟩
theorem oP_X8_isAsset : plainName yX8_isAsset.cls = true ∧ yX8_isAsset.cls = mX8_isAsset.1 ∧ (mX8_isAsset.2.2.2.2.2 = true → yX8_isAsset.name = "<init>") := ⟨pn_RX8, rfl, (fun h => by cases h)⟩
theorem oP_X8_isCrew : plainName yX8_isCrew.cls = true ∧ yX8_isCrew.cls = mX8_isCrew.1 ∧ (mX8_isCrew.2.2.2.2.2 = true → yX8_isCrew.name = "<init>") := ⟨pn_RX8, rfl, (fun h => by cases h)⟩
theorem oP_X8_isTask : plainName yX8_isTask.cls = true ∧ yX8_isTask.cls = mX8_isTask.1 ∧ (mX8_isTask.2.2.2.2.2 = true → yX8_isTask.name = "<init>") := ⟨pn_RX8, rfl, (fun h => by cases h)⟩
theorem oP_X8_ones : plainName yX8_ones.cls = true ∧ yX8_ones.cls = mX8_ones.1 ∧ (mX8_ones.2.2.2.2.2 = true → yX8_ones.name = "<init>") := ⟨pn_RX8, rfl, (fun h => by cases h)⟩
theorem oP_X8_keeps : plainName yX8_keeps.cls = true ∧ yX8_keeps.cls = mX8_keeps.1 ∧ (mX8_keeps.2.2.2.2.2 = true → yX8_keeps.name = "<init>") := ⟨pn_RX8, rfl, (fun h => by cases h)⟩
theorem oP_X8_brings : plainName yX8_brings.cls = true ∧ yX8_brings.cls = mX8_brings.1 ∧ (mX8_brings.2.2.2.2.2 = true → yX8_brings.name = "<init>") := ⟨pn_RX8, rfl, (fun h => by cases h)⟩
theorem oP_X8_copies : plainName yX8_copies.cls = true ∧ yX8_copies.cls = mX8_copies.1 ∧ (mX8_copies.2.2.2.2.2 = true → yX8_copies.name = "<init>") := ⟨pn_RX8, rfl, (fun h => by cases h)⟩
theorem oP_X8_recordsTrial : plainName yX8_recordsTrial.cls = true ∧ yX8_recordsTrial.cls = mX8_recordsTrial.1 ∧ (mX8_recordsTrial.2.2.2.2.2 = true → yX8_recordsTrial.name = "<init>") := ⟨pn_RX8, rfl, (fun h => by cases h)⟩
theorem oP_X8_records : plainName yX8_records.cls = true ∧ yX8_records.cls = mX8_records.1 ∧ (mX8_records.2.2.2.2.2 = true → yX8_records.name = "<init>") := ⟨pn_RX8, rfl, (fun h => by cases h)⟩
theorem oP_X8_undo : plainName yX8_undo.cls = true ∧ yX8_undo.cls = mX8_undo.1 ∧ (mX8_undo.2.2.2.2.2 = true → yX8_undo.name = "<init>") := ⟨pn_RX8, rfl, (fun h => by cases h)⟩
theorem oP_X8_keep : plainName yX8_keep.cls = true ∧ yX8_keep.cls = mX8_keep.1 ∧ (mX8_keep.2.2.2.2.2 = true → yX8_keep.name = "<init>") := ⟨pn_RX8, rfl, (fun h => by cases h)⟩
theorem oP_X8_restore : plainName yX8_restore.cls = true ∧ yX8_restore.cls = mX8_restore.1 ∧ (mX8_restore.2.2.2.2.2 = true → yX8_restore.name = "<init>") := ⟨pn_RX8, rfl, (fun h => by cases h)⟩
theorem oP_X8_addAsset : plainName yX8_addAsset.cls = true ∧ yX8_addAsset.cls = mX8_addAsset.1 ∧ (mX8_addAsset.2.2.2.2.2 = true → yX8_addAsset.name = "<init>") := ⟨pn_RX8, rfl, (fun h => by cases h)⟩
theorem oP_X8_link : plainName yX8_link.cls = true ∧ yX8_link.cls = mX8_link.1 ∧ (mX8_link.2.2.2.2.2 = true → yX8_link.name = "<init>") := ⟨pn_RX8, rfl, (fun h => by cases h)⟩
theorem oP_X8_bars : plainName yX8_bars.cls = true ∧ yX8_bars.cls = mX8_bars.1 ∧ (mX8_bars.2.2.2.2.2 = true → yX8_bars.name = "<init>") := ⟨pn_RX8, rfl, (fun h => by cases h)⟩
theorem oP_X8_bar : plainName yX8_bar.cls = true ∧ yX8_bar.cls = mX8_bar.1 ∧ (mX8_bar.2.2.2.2.2 = true → yX8_bar.name = "<init>") := ⟨pn_RX8, rfl, (fun h => by cases h)⟩
theorem oP_X8_addCrew : plainName yX8_addCrew.cls = true ∧ yX8_addCrew.cls = mX8_addCrew.1 ∧ (mX8_addCrew.2.2.2.2.2 = true → yX8_addCrew.name = "<init>") := ⟨pn_RX8, rfl, (fun h => by cases h)⟩
theorem oP_X8_addTask : plainName yX8_addTask.cls = true ∧ yX8_addTask.cls = mX8_addTask.1 ∧ (mX8_addTask.2.2.2.2.2 = true → yX8_addTask.name = "<init>") := ⟨pn_RX8, rfl, (fun h => by cases h)⟩
theorem oP_X8_stateOf : plainName yX8_stateOf.cls = true ∧ yX8_stateOf.cls = mX8_stateOf.1 ∧ (mX8_stateOf.2.2.2.2.2 = true → yX8_stateOf.name = "<init>") := ⟨pn_RX8, rfl, (fun h => by cases h)⟩
theorem oP_X8_isBusy : plainName yX8_isBusy.cls = true ∧ yX8_isBusy.cls = mX8_isBusy.1 ∧ (mX8_isBusy.2.2.2.2.2 = true → yX8_isBusy.name = "<init>") := ⟨pn_RX8, rfl, (fun h => by cases h)⟩
theorem oP_X8_busy : plainName yX8_busy.cls = true ∧ yX8_busy.cls = mX8_busy.1 ∧ (mX8_busy.2.2.2.2.2 = true → yX8_busy.name = "<init>") := ⟨pn_RX8, rfl, (fun h => by cases h)⟩
theorem oP_X8_canHang : plainName yX8_canHang.cls = true ∧ yX8_canHang.cls = mX8_canHang.1 ∧ (mX8_canHang.2.2.2.2.2 = true → yX8_canHang.name = "<init>") := ⟨pn_RX8, rfl, (fun h => by cases h)⟩
theorem oP_X8_endOf : plainName yX8_endOf.cls = true ∧ yX8_endOf.cls = mX8_endOf.1 ∧ (mX8_endOf.2.2.2.2.2 = true → yX8_endOf.name = "<init>") := ⟨pn_RX8, rfl, (fun h => by cases h)⟩
theorem oP_X8_barredBy : plainName yX8_barredBy.cls = true ∧ yX8_barredBy.cls = mX8_barredBy.1 ∧ (mX8_barredBy.2.2.2.2.2 = true → yX8_barredBy.name = "<init>") := ⟨pn_RX8, rfl, (fun h => by cases h)⟩
theorem oP_X8_isTooLate : plainName yX8_isTooLate.cls = true ∧ yX8_isTooLate.cls = mX8_isTooLate.1 ∧ (mX8_isTooLate.2.2.2.2.2 = true → yX8_isTooLate.name = "<init>") := ⟨pn_RX8, rfl, (fun h => by cases h)⟩
theorem oP_X8_reasonOf : plainName yX8_reasonOf.cls = true ∧ yX8_reasonOf.cls = mX8_reasonOf.1 ∧ (mX8_reasonOf.2.2.2.2.2 = true → yX8_reasonOf.name = "<init>") := ⟨pn_RX8, rfl, (fun h => by cases h)⟩
theorem oP_X8_running : plainName yX8_running.cls = true ∧ yX8_running.cls = mX8_running.1 ∧ (mX8_running.2.2.2.2.2 = true → yX8_running.name = "<init>") := ⟨pn_RX8, rfl, (fun h => by cases h)⟩
theorem oP_X8_runError : plainName yX8_runError.cls = true ∧ yX8_runError.cls = mX8_runError.1 ∧ (mX8_runError.2.2.2.2.2 = true → yX8_runError.name = "<init>") := ⟨pn_RX8, rfl, (fun h => by cases h)⟩
theorem oP_X8_stopError : plainName yX8_stopError.cls = true ∧ yX8_stopError.cls = mX8_stopError.1 ∧ (mX8_stopError.2.2.2.2.2 = true → yX8_stopError.name = "<init>") := ⟨pn_RX8, rfl, (fun h => by cases h)⟩
theorem oP_X8_goes : plainName yX8_goes.cls = true ∧ yX8_goes.cls = mX8_goes.1 ∧ (mX8_goes.2.2.2.2.2 = true → yX8_goes.name = "<init>") := ⟨pn_RX8, rfl, (fun h => by cases h)⟩
theorem oP_X8_run : plainName yX8_run.cls = true ∧ yX8_run.cls = mX8_run.1 ∧ (mX8_run.2.2.2.2.2 = true → yX8_run.name = "<init>") := ⟨pn_RX8, rfl, (fun h => by cases h)⟩
theorem oP_X8_stop : plainName yX8_stop.cls = true ∧ yX8_stop.cls = mX8_stop.1 ∧ (mX8_stop.2.2.2.2.2 = true → yX8_stop.name = "<init>") := ⟨pn_RX8, rfl, (fun h => by cases h)⟩
theorem oP_X8_hangError : plainName yX8_hangError.cls = true ∧ yX8_hangError.cls = mX8_hangError.1 ∧ (mX8_hangError.2.2.2.2.2 = true → yX8_hangError.name = "<init>") := ⟨pn_RX8, rfl, (fun h => by cases h)⟩
theorem oP_X8_hangs : plainName yX8_hangs.cls = true ∧ yX8_hangs.cls = mX8_hangs.1 ∧ (mX8_hangs.2.2.2.2.2 = true → yX8_hangs.name = "<init>") := ⟨pn_RX8, rfl, (fun h => by cases h)⟩
theorem oP_X8_hang : plainName yX8_hang.cls = true ∧ yX8_hang.cls = mX8_hang.1 ∧ (mX8_hang.2.2.2.2.2 = true → yX8_hang.name = "<init>") := ⟨pn_RX8, rfl, (fun h => by cases h)⟩
theorem oP_X8_beginError : plainName yX8_beginError.cls = true ∧ yX8_beginError.cls = mX8_beginError.1 ∧ (mX8_beginError.2.2.2.2.2 = true → yX8_beginError.name = "<init>") := ⟨pn_RX8, rfl, (fun h => by cases h)⟩
theorem oP_X8_begins : plainName yX8_begins.cls = true ∧ yX8_begins.cls = mX8_begins.1 ∧ (mX8_begins.2.2.2.2.2 = true → yX8_begins.name = "<init>") := ⟨pn_RX8, rfl, (fun h => by cases h)⟩
theorem oP_X8_begin : plainName yX8_begin.cls = true ∧ yX8_begin.cls = mX8_begin.1 ∧ (mX8_begin.2.2.2.2.2 = true → yX8_begin.name = "<init>") := ⟨pn_RX8, rfl, (fun h => by cases h)⟩
theorem oP_X8_topOf : plainName yX8_topOf.cls = true ∧ yX8_topOf.cls = mX8_topOf.1 ∧ (mX8_topOf.2.2.2.2.2 = true → yX8_topOf.name = "<init>") := ⟨pn_RX8, rfl, (fun h => by cases h)⟩
theorem oP_X8_liftError : plainName yX8_liftError.cls = true ∧ yX8_liftError.cls = mX8_liftError.1 ∧ (mX8_liftError.2.2.2.2.2 = true → yX8_liftError.name = "<init>") := ⟨pn_RX8, rfl, (fun h => by cases h)⟩
theorem oP_X8_lifts : plainName yX8_lifts.cls = true ∧ yX8_lifts.cls = mX8_lifts.1 ∧ (mX8_lifts.2.2.2.2.2 = true → yX8_lifts.name = "<init>") := ⟨pn_RX8, rfl, (fun h => by cases h)⟩
theorem oP_X8_lift : plainName yX8_lift.cls = true ∧ yX8_lift.cls = mX8_lift.1 ∧ (mX8_lift.2.2.2.2.2 = true → yX8_lift.name = "<init>") := ⟨pn_RX8, rfl, (fun h => by cases h)⟩
theorem oP_X8_cancel : plainName yX8_cancel.cls = true ∧ yX8_cancel.cls = mX8_cancel.1 ∧ (mX8_cancel.2.2.2.2.2 = true → yX8_cancel.name = "<init>") := ⟨pn_RX8, rfl, (fun h => by cases h)⟩
theorem oP_X8_worn : plainName yX8_worn.cls = true ∧ yX8_worn.cls = mX8_worn.1 ∧ (mX8_worn.2.2.2.2.2 = true → yX8_worn.name = "<init>") := ⟨pn_RX8, rfl, (fun h => by cases h)⟩
theorem oP_X8_runsHour : plainName yX8_runsHour.cls = true ∧ yX8_runsHour.cls = mX8_runsHour.1 ∧ (mX8_runsHour.2.2.2.2.2 = true → yX8_runsHour.name = "<init>") := ⟨pn_RX8, rfl, (fun h => by cases h)⟩
theorem oP_X8_slips : plainName yX8_slips.cls = true ∧ yX8_slips.cls = mX8_slips.1 ∧ (mX8_slips.2.2.2.2.2 = true → yX8_slips.name = "<init>") := ⟨pn_RX8, rfl, (fun h => by cases h)⟩
theorem oP_X8_passesHour : plainName yX8_passesHour.cls = true ∧ yX8_passesHour.cls = mX8_passesHour.1 ∧ (mX8_passesHour.2.2.2.2.2 = true → yX8_passesHour.name = "<init>") := ⟨pn_RX8, rfl, (fun h => by cases h)⟩
theorem oP_X8_passError : plainName yX8_passError.cls = true ∧ yX8_passError.cls = mX8_passError.1 ∧ (mX8_passError.2.2.2.2.2 = true → yX8_passError.name = "<init>") := ⟨pn_RX8, rfl, (fun h => by cases h)⟩
theorem oP_X8_passes : plainName yX8_passes.cls = true ∧ yX8_passes.cls = mX8_passes.1 ∧ (mX8_passes.2.2.2.2.2 = true → yX8_passes.name = "<init>") := ⟨pn_RX8, rfl, (fun h => by cases h)⟩
theorem oP_X8_pass : plainName yX8_pass.cls = true ∧ yX8_pass.cls = mX8_pass.1 ∧ (mX8_pass.2.2.2.2.2 = true → yX8_pass.name = "<init>") := ⟨pn_RX8, rfl, (fun h => by cases h)⟩
theorem oP_X8_type : plainName yX8_type.cls = true ∧ yX8_type.cls = mX8_type.1 ∧ (mX8_type.2.2.2.2.2 = true → yX8_type.name = "<init>") := ⟨pn_RX8, rfl, (fun h => by cases h)⟩
theorem oP_X8_clearText : plainName yX8_clearText.cls = true ∧ yX8_clearText.cls = mX8_clearText.1 ∧ (mX8_clearText.2.2.2.2.2 = true → yX8_clearText.name = "<init>") := ⟨pn_RX8, rfl, (fun h => by cases h)⟩
theorem oP_X8_isHere : plainName yX8_isHere.cls = true ∧ yX8_isHere.cls = mX8_isHere.1 ∧ (mX8_isHere.2.2.2.2.2 = true → yX8_isHere.name = "<init>") := ⟨pn_RX8, rfl, (fun h => by cases h)⟩
theorem oP_X8_passesSign : plainName yX8_passesSign.cls = true ∧ yX8_passesSign.cls = mX8_passesSign.1 ∧ (mX8_passesSign.2.2.2.2.2 = true → yX8_passesSign.name = "<init>") := ⟨pn_RX8, rfl, (fun h => by cases h)⟩
theorem oP_X8_passesNumber : plainName yX8_passesNumber.cls = true ∧ yX8_passesNumber.cls = mX8_passesNumber.1 ∧ (mX8_passesNumber.2.2.2.2.2 = true → yX8_passesNumber.name = "<init>") := ⟨pn_RX8, rfl, (fun h => by cases h)⟩
theorem oP_X8_passesOrder : plainName yX8_passesOrder.cls = true ∧ yX8_passesOrder.cls = mX8_passesOrder.1 ∧ (mX8_passesOrder.2.2.2.2.2 = true → yX8_passesOrder.name = "<init>") := ⟨pn_RX8, rfl, (fun h => by cases h)⟩
theorem oP_X8_faultOf : plainName yX8_faultOf.cls = true ∧ yX8_faultOf.cls = mX8_faultOf.1 ∧ (mX8_faultOf.2.2.2.2.2 = true → yX8_faultOf.name = "<init>") := ⟨pn_RX8, rfl, (fun h => by cases h)⟩
theorem oP_X8_orderError : plainName yX8_orderError.cls = true ∧ yX8_orderError.cls = mX8_orderError.1 ∧ (mX8_orderError.2.2.2.2.2 = true → yX8_orderError.name = "<init>") := ⟨pn_RX8, rfl, (fun h => by cases h)⟩
theorem oP_X8_does : plainName yX8_does.cls = true ∧ yX8_does.cls = mX8_does.1 ∧ (mX8_does.2.2.2.2.2 = true → yX8_does.name = "<init>") := ⟨pn_RX8, rfl, (fun h => by cases h)⟩
theorem oP_X8_perform : plainName yX8_perform.cls = true ∧ yX8_perform.cls = mX8_perform.1 ∧ (mX8_perform.2.2.2.2.2 = true → yX8_perform.name = "<init>") := ⟨pn_RX8, rfl, (fun h => by cases h)⟩
theorem oP_X8_real : plainName yX8_real.cls = true ∧ yX8_real.cls = mX8_real.1 ∧ (mX8_real.2.2.2.2.2 = true → yX8_real.name = "<init>") := ⟨pn_RX8, rfl, (fun h => by cases h)⟩
theorem oP_X8_healthIn : plainName yX8_healthIn.cls = true ∧ yX8_healthIn.cls = mX8_healthIn.1 ∧ (mX8_healthIn.2.2.2.2.2 = true → yX8_healthIn.name = "<init>") := ⟨pn_RX8, rfl, (fun h => by cases h)⟩
theorem oP_X8_hoursTo : plainName yX8_hoursTo.cls = true ∧ yX8_hoursTo.cls = mX8_hoursTo.1 ∧ (mX8_hoursTo.2.2.2.2.2 = true → yX8_hoursTo.name = "<init>") := ⟨pn_RX8, rfl, (fun h => by cases h)⟩
theorem oP_X8_tasksAt : plainName yX8_tasksAt.cls = true ∧ yX8_tasksAt.cls = mX8_tasksAt.1 ∧ (mX8_tasksAt.2.2.2.2.2 = true → yX8_tasksAt.name = "<init>") := ⟨pn_RX8, rfl, (fun h => by cases h)⟩
theorem oP_X8_asset : plainName yX8_asset.cls = true ∧ yX8_asset.cls = mX8_asset.1 ∧ (mX8_asset.2.2.2.2.2 = true → yX8_asset.name = "<init>") := ⟨pn_RX8, rfl, (fun h => by cases h)⟩
theorem oP_X8_tagAt : plainName yX8_tagAt.cls = true ∧ yX8_tagAt.cls = mX8_tagAt.1 ∧ (mX8_tagAt.2.2.2.2.2 = true → yX8_tagAt.name = "<init>") := ⟨pn_RX8, rfl, (fun h => by cases h)⟩
theorem oP_X8_doneBy : plainName yX8_doneBy.cls = true ∧ yX8_doneBy.cls = mX8_doneBy.1 ∧ (mX8_doneBy.2.2.2.2.2 = true → yX8_doneBy.name = "<init>") := ⟨pn_RX8, rfl, (fun h => by cases h)⟩
theorem oP_X8_crew : plainName yX8_crew.cls = true ∧ yX8_crew.cls = mX8_crew.1 ∧ (mX8_crew.2.2.2.2.2 = true → yX8_crew.name = "<init>") := ⟨pn_RX8, rfl, (fun h => by cases h)⟩
theorem oP_X8_task : plainName yX8_task.cls = true ∧ yX8_task.cls = mX8_task.1 ∧ (mX8_task.2.2.2.2.2 = true → yX8_task.name = "<init>") := ⟨pn_RX8, rfl, (fun h => by cases h)⟩
theorem oP_X8_crewFor : plainName yX8_crewFor.cls = true ∧ yX8_crewFor.cls = mX8_crewFor.1 ∧ (mX8_crewFor.2.2.2.2.2 = true → yX8_crewFor.name = "<init>") := ⟨pn_RX8, rfl, (fun h => by cases h)⟩
theorem oP_X8_inState : plainName yX8_inState.cls = true ∧ yX8_inState.cls = mX8_inState.1 ∧ (mX8_inState.2.2.2.2.2 = true → yX8_inState.name = "<init>") := ⟨pn_RX8, rfl, (fun h => by cases h)⟩
theorem oP_X8_tags : plainName yX8_tags.cls = true ∧ yX8_tags.cls = mX8_tags.1 ∧ (mX8_tags.2.2.2.2.2 = true → yX8_tags.name = "<init>") := ⟨pn_RX8, rfl, (fun h => by cases h)⟩
theorem oP_X8_allSlips : plainName yX8_allSlips.cls = true ∧ yX8_allSlips.cls = mX8_allSlips.1 ∧ (mX8_allSlips.2.2.2.2.2 = true → yX8_allSlips.name = "<init>") := ⟨pn_RX8, rfl, (fun h => by cases h)⟩
theorem oP_X8_allBusy : plainName yX8_allBusy.cls = true ∧ yX8_allBusy.cls = mX8_allBusy.1 ∧ (mX8_allBusy.2.2.2.2.2 = true → yX8_allBusy.name = "<init>") := ⟨pn_RX8, rfl, (fun h => by cases h)⟩
theorem oP_X8_count : plainName yX8_count.cls = true ∧ yX8_count.cls = mX8_count.1 ∧ (mX8_count.2.2.2.2.2 = true → yX8_count.name = "<init>") := ⟨pn_RX8, rfl, (fun h => by cases h)⟩
theorem oP_J6_bitCount_0f7a4 : plainName yJ6_bitCount_0f7a4.cls = true ∧ yJ6_bitCount_0f7a4.cls = mJ6_bitCount_0f7a4.1 ∧ (mJ6_bitCount_0f7a4.2.2.2.2.2 = true → yJ6_bitCount_0f7a4.name = "<init>") := ⟨pn_RJ6, rfl, (fun h => by cases h)⟩
/-! where things lie: a plant at p (its rows of references p+1 .. p+3, its bars p+4, 8 assets from p+5, 5 crews from p+13, 24 tasks from p+18) -/
def isPl (σ : pT) (p : Nat) : Prop :=
  (σ.2.1 p).1 = 6 ∧
  σ.2.2 p 0 = some (p + 1) ∧
  σ.2.2 p 1 = some (p + 2) ∧
  σ.2.2 p 2 = some (p + 3) ∧
  σ.2.2 p 3 = some (p + 4) ∧
  σ.2.1 (p + 1) = (0 + 30, 8) ∧
  σ.2.1 (p + 2) = (1 + 30, 5) ∧
  σ.2.1 (p + 3) = (6 + 30, 24) ∧
  σ.2.1 (p + 4) = (20, 5) ∧
  (∀ i, i < 8 → σ.2.2 (p + 1) i = some (p + 5 + i)) ∧
  (∀ i, i < 8 → (σ.2.1 (p + 5 + i)).1 = 0 + 1) ∧
  (∀ i, i < 5 → σ.2.2 (p + 2) i = some (p + 13 + i)) ∧
  (∀ i, i < 5 → (σ.2.1 (p + 13 + i)).1 = 1 + 1) ∧
  (∀ i, i < 24 → σ.2.2 (p + 3) i = some (p + 18 + i)) ∧
  (∀ i, i < 24 → (σ.2.1 (p + 18 + i)).1 = 6 + 1)
theorem pl_k {σ : pT} {p : Nat} (h : isPl σ p) : (σ.2.1 p).1 = 6 := h.1
theorem pl_rA {σ : pT} {p : Nat} (h : isPl σ p) : σ.2.2 p 0 = some (p + 1) := h.2.1
theorem pl_rC {σ : pT} {p : Nat} (h : isPl σ p) : σ.2.2 p 1 = some (p + 2) := h.2.2.1
theorem pl_rT {σ : pT} {p : Nat} (h : isPl σ p) : σ.2.2 p 2 = some (p + 3) := h.2.2.2.1
theorem pl_rB {σ : pT} {p : Nat} (h : isPl σ p) : σ.2.2 p 3 = some (p + 4) := h.2.2.2.2.1
theorem pl_kA {σ : pT} {p : Nat} (h : isPl σ p) : σ.2.1 (p + 1) = (0 + 30, 8) := h.2.2.2.2.2.1
theorem pl_kC {σ : pT} {p : Nat} (h : isPl σ p) : σ.2.1 (p + 2) = (1 + 30, 5) := h.2.2.2.2.2.2.1
theorem pl_kT {σ : pT} {p : Nat} (h : isPl σ p) : σ.2.1 (p + 3) = (6 + 30, 24) := h.2.2.2.2.2.2.2.1
theorem pl_kB {σ : pT} {p : Nat} (h : isPl σ p) : σ.2.1 (p + 4) = (20, 5) := h.2.2.2.2.2.2.2.2.1
theorem pl_eA_ {σ : pT} {p : Nat} (h : isPl σ p) : (∀ i, i < 8 → σ.2.2 (p + 1) i = some (p + 5 + i)) := h.2.2.2.2.2.2.2.2.2.1
theorem pl_oA_ {σ : pT} {p : Nat} (h : isPl σ p) : (∀ i, i < 8 → (σ.2.1 (p + 5 + i)).1 = 0 + 1) := h.2.2.2.2.2.2.2.2.2.2.1
theorem pl_eC_ {σ : pT} {p : Nat} (h : isPl σ p) : (∀ i, i < 5 → σ.2.2 (p + 2) i = some (p + 13 + i)) := h.2.2.2.2.2.2.2.2.2.2.2.1
theorem pl_oC_ {σ : pT} {p : Nat} (h : isPl σ p) : (∀ i, i < 5 → (σ.2.1 (p + 13 + i)).1 = 1 + 1) := h.2.2.2.2.2.2.2.2.2.2.2.2.1
theorem pl_eT_ {σ : pT} {p : Nat} (h : isPl σ p) : (∀ i, i < 24 → σ.2.2 (p + 3) i = some (p + 18 + i)) := h.2.2.2.2.2.2.2.2.2.2.2.2.2.1
theorem pl_oT_ {σ : pT} {p : Nat} (h : isPl σ p) : (∀ i, i < 24 → (σ.2.1 (p + 18 + i)).1 = 6 + 1) := h.2.2.2.2.2.2.2.2.2.2.2.2.2.2
theorem pl_eA {σ : pT} {p i : Nat} (h : isPl σ p) (hi : i < 8) : σ.2.2 (p + 1) i = some (p + 5 + i) := pl_eA_ h i hi
theorem pl_oA {σ : pT} {p i : Nat} (h : isPl σ p) (hi : i < 8) : (σ.2.1 (p + 5 + i)).1 = 0 + 1 := pl_oA_ h i hi
theorem pl_eC {σ : pT} {p i : Nat} (h : isPl σ p) (hi : i < 5) : σ.2.2 (p + 2) i = some (p + 13 + i) := pl_eC_ h i hi
theorem pl_oC {σ : pT} {p i : Nat} (h : isPl σ p) (hi : i < 5) : (σ.2.1 (p + 13 + i)).1 = 1 + 1 := pl_oC_ h i hi
theorem pl_eT {σ : pT} {p i : Nat} (h : isPl σ p) (hi : i < 24) : σ.2.2 (p + 3) i = some (p + 18 + i) := pl_eT_ h i hi
theorem pl_oT {σ : pT} {p i : Nat} (h : isPl σ p) (hi : i < 24) : (σ.2.1 (p + 18 + i)).1 = 6 + 1 := pl_oT_ h i hi
/-! the history at q: its row q+1, four plants from q+2, 42 cells each -/
def isHi (σ : pT) (q : Nat) : Prop :=
  (σ.2.1 q).1 = 3 ∧
  σ.2.2 q 0 = some (q + 1) ∧
  σ.2.1 (q + 1) = (5 + 30, 4) ∧
  (∀ i, i < 4 → σ.2.2 (q + 1) i = some (q + 2 + 42 * i)) ∧
  (∀ i, i < 4 → isPl σ (q + 2 + 42 * i))
theorem hi_k {σ : pT} {q : Nat} (h : isHi σ q) : (σ.2.1 q).1 = 3 := h.1
theorem hi_rs {σ : pT} {q : Nat} (h : isHi σ q) : σ.2.2 q 0 = some (q + 1) := h.2.1
theorem hi_ks {σ : pT} {q : Nat} (h : isHi σ q) : σ.2.1 (q + 1) = (5 + 30, 4) := h.2.2.1
theorem hi_ep_ {σ : pT} {q : Nat} (h : isHi σ q) : (∀ i, i < 4 → σ.2.2 (q + 1) i = some (q + 2 + 42 * i)) := h.2.2.2.1
theorem hi_op_ {σ : pT} {q : Nat} (h : isHi σ q) : (∀ i, i < 4 → isPl σ (q + 2 + 42 * i)) := h.2.2.2.2
theorem hi_ep {σ : pT} {q i : Nat} (h : isHi σ q) (hi : i < 4) : σ.2.2 (q + 1) i = some (q + 2 + 42 * i) := hi_ep_ h i hi
theorem hi_op {σ : pT} {q i : Nat} (h : isHi σ q) (hi : i < 4) : isPl σ (q + 2 + 42 * i) := hi_op_ h i hi
/-! the orders at q: the text q+1, the row q+2, twenty orders from q+3 -/
def isOr (σ : pT) (q : Nat) : Prop :=
  (σ.2.1 q).1 = 5 ∧
  σ.2.2 q 0 = some (q + 1) ∧
  σ.2.2 q 2 = some (q + 2) ∧
  σ.2.1 (q + 1) = (21, 60) ∧
  σ.2.1 (q + 2) = (3 + 30, 20) ∧
  (∀ i, i < 20 → σ.2.2 (q + 2) i = some (q + 3 + i)) ∧
  (∀ i, i < 20 → (σ.2.1 (q + 3 + i)).1 = 3 + 1)
theorem or_k {σ : pT} {q : Nat} (h : isOr σ q) : (σ.2.1 q).1 = 5 := h.1
theorem or_rt {σ : pT} {q : Nat} (h : isOr σ q) : σ.2.2 q 0 = some (q + 1) := h.2.1
theorem or_rr {σ : pT} {q : Nat} (h : isOr σ q) : σ.2.2 q 2 = some (q + 2) := h.2.2.1
theorem or_kt {σ : pT} {q : Nat} (h : isOr σ q) : σ.2.1 (q + 1) = (21, 60) := h.2.2.2.1
theorem or_kr {σ : pT} {q : Nat} (h : isOr σ q) : σ.2.1 (q + 2) = (3 + 30, 20) := h.2.2.2.2.1
theorem or_eo_ {σ : pT} {q : Nat} (h : isOr σ q) : (∀ i, i < 20 → σ.2.2 (q + 2) i = some (q + 3 + i)) := h.2.2.2.2.2.1
theorem or_oo_ {σ : pT} {q : Nat} (h : isOr σ q) : (∀ i, i < 20 → (σ.2.1 (q + 3 + i)).1 = 3 + 1) := h.2.2.2.2.2.2
theorem or_eo {σ : pT} {q i : Nat} (h : isOr σ q) (hi : i < 20) : σ.2.2 (q + 2) i = some (q + 3 + i) := or_eo_ h i hi
theorem or_oo {σ : pT} {q i : Nat} (h : isOr σ q) (hi : i < 20) : (σ.2.1 (q + 3 + i)).1 = 3 + 1 := or_oo_ h i hi
/-! the whole object at x: plants x+1, x+43, x+85, the history x+127, the orders x+297 -/
def isTW (σ : pT) (x : Nat) : Prop :=
  (σ.2.1 x).1 = 8 ∧
  σ.2.2 x 0 = some (x + 1) ∧
  σ.2.2 x 1 = some (x + 43) ∧
  σ.2.2 x 2 = some (x + 85) ∧
  σ.2.2 x 4 = some (x + 127) ∧
  σ.2.2 x 5 = some (x + 297) ∧
  isPl σ (x + 1) ∧
  isPl σ (x + 43) ∧
  isPl σ (x + 85) ∧
  isHi σ (x + 127) ∧
  isOr σ (x + 297)
theorem tw_k {σ : pT} {x : Nat} (h : isTW σ x) : (σ.2.1 x).1 = 8 := h.1
theorem tw_r0 {σ : pT} {x : Nat} (h : isTW σ x) : σ.2.2 x 0 = some (x + 1) := h.2.1
theorem tw_r1 {σ : pT} {x : Nat} (h : isTW σ x) : σ.2.2 x 1 = some (x + 43) := h.2.2.1
theorem tw_r2 {σ : pT} {x : Nat} (h : isTW σ x) : σ.2.2 x 2 = some (x + 85) := h.2.2.2.1
theorem tw_r4 {σ : pT} {x : Nat} (h : isTW σ x) : σ.2.2 x 4 = some (x + 127) := h.2.2.2.2.1
theorem tw_r5 {σ : pT} {x : Nat} (h : isTW σ x) : σ.2.2 x 5 = some (x + 297) := h.2.2.2.2.2.1
theorem tw_now {σ : pT} {x : Nat} (h : isTW σ x) : isPl σ (x + 1) := h.2.2.2.2.2.2.1
theorem tw_bef {σ : pT} {x : Nat} (h : isTW σ x) : isPl σ (x + 43) := h.2.2.2.2.2.2.2.1
theorem tw_kept {σ : pT} {x : Nat} (h : isTW σ x) : isPl σ (x + 85) := h.2.2.2.2.2.2.2.2.1
theorem tw_hi {σ : pT} {x : Nat} (h : isTW σ x) : isHi σ (x + 127) := h.2.2.2.2.2.2.2.2.2.1
theorem tw_or {σ : pT} {x : Nat} (h : isTW σ x) : isOr σ (x + 297) := h.2.2.2.2.2.2.2.2.2.2
/-! the model at m: its seven rows from m+1 -/
def isMo (σ : pT) (m : Nat) : Prop :=
  (σ.2.1 m).1 = 9 ∧
  σ.2.2 m 0 = some (m + 1) ∧
  σ.2.2 m 1 = some (m + 2) ∧
  σ.2.2 m 2 = some (m + 3) ∧
  σ.2.2 m 3 = some (m + 4) ∧
  σ.2.2 m 4 = some (m + 5) ∧
  σ.2.2 m 5 = some (m + 6) ∧
  σ.2.2 m 8 = some (m + 7) ∧
  σ.2.1 (m + 1) = (20, 491) ∧
  σ.2.1 (m + 2) = (22, 8) ∧
  σ.2.1 (m + 3) = (22, 8) ∧
  σ.2.1 (m + 4) = (20, 2946) ∧
  σ.2.1 (m + 5) = (22, 48) ∧
  σ.2.1 (m + 6) = (22, 48) ∧
  σ.2.1 (m + 7) = (20, 60)
theorem mo_k {σ : pT} {m : Nat} (h : isMo σ m) : (σ.2.1 m).1 = 9 := h.1
theorem mo_r1 {σ : pT} {m : Nat} (h : isMo σ m) : σ.2.2 m 0 = some (m + 1) := h.2.1
theorem mo_r2 {σ : pT} {m : Nat} (h : isMo σ m) : σ.2.2 m 1 = some (m + 2) := h.2.2.1
theorem mo_r3 {σ : pT} {m : Nat} (h : isMo σ m) : σ.2.2 m 2 = some (m + 3) := h.2.2.2.1
theorem mo_r4 {σ : pT} {m : Nat} (h : isMo σ m) : σ.2.2 m 3 = some (m + 4) := h.2.2.2.2.1
theorem mo_r5 {σ : pT} {m : Nat} (h : isMo σ m) : σ.2.2 m 4 = some (m + 5) := h.2.2.2.2.2.1
theorem mo_r6 {σ : pT} {m : Nat} (h : isMo σ m) : σ.2.2 m 5 = some (m + 6) := h.2.2.2.2.2.2.1
theorem mo_r7 {σ : pT} {m : Nat} (h : isMo σ m) : σ.2.2 m 8 = some (m + 7) := h.2.2.2.2.2.2.2.1
theorem mo_k1 {σ : pT} {m : Nat} (h : isMo σ m) : σ.2.1 (m + 1) = (20, 491) := h.2.2.2.2.2.2.2.2.1
theorem mo_k2 {σ : pT} {m : Nat} (h : isMo σ m) : σ.2.1 (m + 2) = (22, 8) := h.2.2.2.2.2.2.2.2.2.1
theorem mo_k3 {σ : pT} {m : Nat} (h : isMo σ m) : σ.2.1 (m + 3) = (22, 8) := h.2.2.2.2.2.2.2.2.2.2.1
theorem mo_k4 {σ : pT} {m : Nat} (h : isMo σ m) : σ.2.1 (m + 4) = (20, 2946) := h.2.2.2.2.2.2.2.2.2.2.2.1
theorem mo_k5 {σ : pT} {m : Nat} (h : isMo σ m) : σ.2.1 (m + 5) = (22, 48) := h.2.2.2.2.2.2.2.2.2.2.2.2.1
theorem mo_k6 {σ : pT} {m : Nat} (h : isMo σ m) : σ.2.1 (m + 6) = (22, 48) := h.2.2.2.2.2.2.2.2.2.2.2.2.2.1
theorem mo_k7 {σ : pT} {m : Nat} (h : isMo σ m) : σ.2.1 (m + 7) = (20, 60) := h.2.2.2.2.2.2.2.2.2.2.2.2.2.2
end
section
theorem ret_t {c : Prop} [Decidable c] (h : c) : some (Value.int 1) = some (Value.int (bI (decide c))) := by simp [bI, h]
theorem ret_f {c : Prop} [Decidable c] (h : ¬ c) : some (Value.int 0) = some (Value.int (bI (decide c))) := by simp [bI, h]
theorem i_nlt {a b : Int32} (h : a < b) : ¬ b ≤ a := by
  rw [Int32.lt_iff_toInt_lt] at h
  rw [Int32.le_iff_toInt_le]
  omega
theorem i_nle {a b : Int32} (h : a ≤ b) : ¬ b < a := by
  rw [Int32.le_iff_toInt_le] at h
  rw [Int32.lt_iff_toInt_lt]
  omega
theorem i_le {a b : Int32} (h : ¬ b < a) : a ≤ b := by
  rw [Int32.lt_iff_toInt_lt] at h
  rw [Int32.le_iff_toInt_le]
  omega
theorem i_lt {a b : Int32} (h : ¬ b ≤ a) : a < b := by
  rw [Int32.le_iff_toInt_le] at h
  rw [Int32.lt_iff_toInt_lt]
  omega
/-- an asset's health an hour later -/
def wornF (w h : UInt32) : UInt32 := if 0 ≤ Op.cmpValue (FP.fcmp (FP.fsub h (FP.fmul h w)) 1008981770) .g then FP.fsub h (FP.fmul h w) else 1008981770
def wornN (w : UInt32) : Nat → UInt32 → UInt32
  | 0, h => h
  | n + 1, h => wornN w n (wornF w h)
theorem wornN_s (w : UInt32) (n : Nat) (h : UInt32) : wornN w (n + 1) h = wornF w (wornN w n h) := by
  induction n generalizing h with
  | zero => rfl
  | succ n ih => exact ih (wornF w h)
/-- hours until it is less than a bound: from hour k on, at most so many more -/
def untilB (w b : UInt32) : Nat → Nat → UInt32 → Int32
  | 0, _, _ => -5
  | n + 1, k, h => if 0 ≤ Op.cmpValue (FP.fcmp h b) .g then untilB w b n (k + 1) (wornF w h) else nI k

set_option maxRecDepth 4000 in
theorem sp_within {σ : pT} {I : pI} {F : pF} {v a b : Int32} : PE yX7_within cX7_within mX7_within [.int v, .int a, .int b] σ I F (some (.int (bI (decide (a ≤ v ∧ v ≤ b))))) I F := by
  refine PE.of oP_X7_within (catOK rfl) (Nat.le_of_ble_eq_true rfl) ?_
  show PW _ _ _ 0 [.int v, .int a, .int b] [] _ _ _ _
  refine pw_iload_n dX7_within_0 rfl rfl ?_
  refine pw_iload_n dX7_within_1 rfl rfl ?_
  refine pw_icmp_lt (tgt := 14) dX7_within_2 (by decide) (fun c_2 => ?_) (fun c_2 => ?_)
  · refine pw_iconst (v := 0) dX7_within_14 (by decide) ?_
    exact pw_zret dX7_within_15 rfl (by first | rfl | decide) (by first | exact ⟨ret_t ⟨i_le c_2, i_le c_7⟩, rfl, rfl, rfl⟩ | exact ⟨ret_f (fun z => i_nlt c_2 z.1), rfl, rfl, rfl⟩ | exact ⟨ret_f (fun z => i_nlt c_7 z.2), rfl, rfl, rfl⟩)
  · refine pw_iload_n dX7_within_5 rfl rfl ?_
    refine pw_iload_n dX7_within_6 rfl rfl ?_
    refine pw_icmp_gt (tgt := 14) dX7_within_7 (by decide) (fun c_7 => ?_) (fun c_7 => ?_)
    · refine pw_iconst (v := 0) dX7_within_14 (by decide) ?_
      exact pw_zret dX7_within_15 rfl (by first | rfl | decide) (by first | exact ⟨ret_t ⟨i_le c_2, i_le c_7⟩, rfl, rfl, rfl⟩ | exact ⟨ret_f (fun z => i_nlt c_2 z.1), rfl, rfl, rfl⟩ | exact ⟨ret_f (fun z => i_nlt c_7 z.2), rfl, rfl, rfl⟩)
    · refine pw_iconst (v := 1) dX7_within_10 (by decide) ?_
      refine pw_goto (tgt := 15) dX7_within_11 (by decide) ?_
      exact pw_zret dX7_within_15 rfl (by first | rfl | decide) (by first | exact ⟨ret_t ⟨i_le c_2, i_le c_7⟩, rfl, rfl, rfl⟩ | exact ⟨ret_f (fun z => i_nlt c_2 z.1), rfl, rfl, rfl⟩ | exact ⟨ret_f (fun z => i_nlt c_7 z.2), rfl, rfl, rfl⟩)

set_option maxRecDepth 4000 in
theorem sp_hasAsset {σ : pT} {I : pI} {F : pF} {p : Nat} {a : Int32} (h : isPl σ p) : PE yX5_hasAsset cX5_hasAsset mX5_hasAsset [.ref p, .int a] σ I F (some (.int (bI (decide (0 ≤ a ∧ a < I p 4))))) I F := by
  refine PE.of oP_X5_hasAsset (catOK rfl) (Nat.le_of_ble_eq_true rfl) ?_
  show PW _ _ _ 0 [.ref p, .int a] [] _ _ _ _
  refine pw_iload_n dX5_hasAsset_0 rfl rfl ?_
  refine pw_if_lt (tgt := 16) dX5_hasAsset_1 (by decide) (fun c_1 => ?_) (fun c_1 => ?_)
  · refine pw_iconst (v := 0) dX5_hasAsset_16 (by decide) ?_
    exact pw_zret dX5_hasAsset_17 rfl (by first | rfl | decide) (by first | exact ⟨ret_t ⟨i_le c_1, i_lt c_9⟩, rfl, rfl, rfl⟩ | exact ⟨ret_f (fun z => i_nlt c_1 z.1), rfl, rfl, rfl⟩ | exact ⟨ret_f (fun z => i_nle c_9 z.2), rfl, rfl, rfl⟩)
  · refine pw_iload_n dX5_hasAsset_4 rfl rfl ?_
    refine pw_aload_n dX5_hasAsset_5 rfl rfl ?_
    refine pw_getI dX5_hasAsset_6 fd_RX5_33 (by decide) (pl_k h) rfl ?_
    refine pw_icmp_ge (tgt := 16) dX5_hasAsset_9 (by decide) (fun c_9 => ?_) (fun c_9 => ?_)
    · refine pw_iconst (v := 0) dX5_hasAsset_16 (by decide) ?_
      exact pw_zret dX5_hasAsset_17 rfl (by first | rfl | decide) (by first | exact ⟨ret_t ⟨i_le c_1, i_lt c_9⟩, rfl, rfl, rfl⟩ | exact ⟨ret_f (fun z => i_nlt c_1 z.1), rfl, rfl, rfl⟩ | exact ⟨ret_f (fun z => i_nle c_9 z.2), rfl, rfl, rfl⟩)
    · refine pw_iconst (v := 1) dX5_hasAsset_12 (by decide) ?_
      refine pw_goto (tgt := 17) dX5_hasAsset_13 (by decide) ?_
      exact pw_zret dX5_hasAsset_17 rfl (by first | rfl | decide) (by first | exact ⟨ret_t ⟨i_le c_1, i_lt c_9⟩, rfl, rfl, rfl⟩ | exact ⟨ret_f (fun z => i_nlt c_1 z.1), rfl, rfl, rfl⟩ | exact ⟨ret_f (fun z => i_nle c_9 z.2), rfl, rfl, rfl⟩)

set_option maxRecDepth 4000 in
theorem sp_hasCrew {σ : pT} {I : pI} {F : pF} {p : Nat} {a : Int32} (h : isPl σ p) : PE yX5_hasCrew cX5_hasCrew mX5_hasCrew [.ref p, .int a] σ I F (some (.int (bI (decide (0 ≤ a ∧ a < I p 5))))) I F := by
  refine PE.of oP_X5_hasCrew (catOK rfl) (Nat.le_of_ble_eq_true rfl) ?_
  show PW _ _ _ 0 [.ref p, .int a] [] _ _ _ _
  refine pw_iload_n dX5_hasCrew_0 rfl rfl ?_
  refine pw_if_lt (tgt := 16) dX5_hasCrew_1 (by decide) (fun c_1 => ?_) (fun c_1 => ?_)
  · refine pw_iconst (v := 0) dX5_hasCrew_16 (by decide) ?_
    exact pw_zret dX5_hasCrew_17 rfl (by first | rfl | decide) (by first | exact ⟨ret_t ⟨i_le c_1, i_lt c_9⟩, rfl, rfl, rfl⟩ | exact ⟨ret_f (fun z => i_nlt c_1 z.1), rfl, rfl, rfl⟩ | exact ⟨ret_f (fun z => i_nle c_9 z.2), rfl, rfl, rfl⟩)
  · refine pw_iload_n dX5_hasCrew_4 rfl rfl ?_
    refine pw_aload_n dX5_hasCrew_5 rfl rfl ?_
    refine pw_getI dX5_hasCrew_6 fd_RX5_37 (by decide) (pl_k h) rfl ?_
    refine pw_icmp_ge (tgt := 16) dX5_hasCrew_9 (by decide) (fun c_9 => ?_) (fun c_9 => ?_)
    · refine pw_iconst (v := 0) dX5_hasCrew_16 (by decide) ?_
      exact pw_zret dX5_hasCrew_17 rfl (by first | rfl | decide) (by first | exact ⟨ret_t ⟨i_le c_1, i_lt c_9⟩, rfl, rfl, rfl⟩ | exact ⟨ret_f (fun z => i_nlt c_1 z.1), rfl, rfl, rfl⟩ | exact ⟨ret_f (fun z => i_nle c_9 z.2), rfl, rfl, rfl⟩)
    · refine pw_iconst (v := 1) dX5_hasCrew_12 (by decide) ?_
      refine pw_goto (tgt := 17) dX5_hasCrew_13 (by decide) ?_
      exact pw_zret dX5_hasCrew_17 rfl (by first | rfl | decide) (by first | exact ⟨ret_t ⟨i_le c_1, i_lt c_9⟩, rfl, rfl, rfl⟩ | exact ⟨ret_f (fun z => i_nlt c_1 z.1), rfl, rfl, rfl⟩ | exact ⟨ret_f (fun z => i_nle c_9 z.2), rfl, rfl, rfl⟩)

set_option maxRecDepth 4000 in
theorem sp_hasTask {σ : pT} {I : pI} {F : pF} {p : Nat} {a : Int32} (h : isPl σ p) : PE yX5_hasTask cX5_hasTask mX5_hasTask [.ref p, .int a] σ I F (some (.int (bI (decide (0 ≤ a ∧ a < I p 6))))) I F := by
  refine PE.of oP_X5_hasTask (catOK rfl) (Nat.le_of_ble_eq_true rfl) ?_
  show PW _ _ _ 0 [.ref p, .int a] [] _ _ _ _
  refine pw_iload_n dX5_hasTask_0 rfl rfl ?_
  refine pw_if_lt (tgt := 16) dX5_hasTask_1 (by decide) (fun c_1 => ?_) (fun c_1 => ?_)
  · refine pw_iconst (v := 0) dX5_hasTask_16 (by decide) ?_
    exact pw_zret dX5_hasTask_17 rfl (by first | rfl | decide) (by first | exact ⟨ret_t ⟨i_le c_1, i_lt c_9⟩, rfl, rfl, rfl⟩ | exact ⟨ret_f (fun z => i_nlt c_1 z.1), rfl, rfl, rfl⟩ | exact ⟨ret_f (fun z => i_nle c_9 z.2), rfl, rfl, rfl⟩)
  · refine pw_iload_n dX5_hasTask_4 rfl rfl ?_
    refine pw_aload_n dX5_hasTask_5 rfl rfl ?_
    refine pw_getI dX5_hasTask_6 fd_RX5_40 (by decide) (pl_k h) rfl ?_
    refine pw_icmp_ge (tgt := 16) dX5_hasTask_9 (by decide) (fun c_9 => ?_) (fun c_9 => ?_)
    · refine pw_iconst (v := 0) dX5_hasTask_16 (by decide) ?_
      exact pw_zret dX5_hasTask_17 rfl (by first | rfl | decide) (by first | exact ⟨ret_t ⟨i_le c_1, i_lt c_9⟩, rfl, rfl, rfl⟩ | exact ⟨ret_f (fun z => i_nlt c_1 z.1), rfl, rfl, rfl⟩ | exact ⟨ret_f (fun z => i_nle c_9 z.2), rfl, rfl, rfl⟩)
    · refine pw_iconst (v := 1) dX5_hasTask_12 (by decide) ?_
      refine pw_goto (tgt := 17) dX5_hasTask_13 (by decide) ?_
      exact pw_zret dX5_hasTask_17 rfl (by first | rfl | decide) (by first | exact ⟨ret_t ⟨i_le c_1, i_lt c_9⟩, rfl, rfl, rfl⟩ | exact ⟨ret_f (fun z => i_nlt c_1 z.1), rfl, rfl, rfl⟩ | exact ⟨ret_f (fun z => i_nle c_9 z.2), rfl, rfl, rfl⟩)

set_option maxRecDepth 4000 in
theorem sp_isLinkedTo {σ : pT} {I : pI} {F : pF} {q : Nat} {a : Int32} (h : (σ.2.1 q).1 = 0 + 1) : PE yX0_isLinkedTo cX0_isLinkedTo mX0_isLinkedTo [.ref q, .int a] σ I F (some (.int (bI (decide ((I q 5 >>> (a &&& 31)) &&& 1 = 1))))) I F := by
  refine PE.of oP_X0_isLinkedTo (catOK rfl) (Nat.le_of_ble_eq_true rfl) ?_
  show PW _ _ _ 0 [.ref q, .int a] [] _ _ _ _
  refine pw_aload_n dX0_isLinkedTo_0 rfl rfl ?_
  refine pw_getI dX0_isLinkedTo_1 fd_RX0_29 (by decide) h rfl ?_
  refine pw_iload_n dX0_isLinkedTo_4 rfl rfl ?_
  refine pw_ishr dX0_isLinkedTo_5 ?_
  refine pw_iconst (v := 1) dX0_isLinkedTo_6 (by decide) ?_
  refine pw_iand dX0_isLinkedTo_7 ?_
  refine pw_iconst (v := 1) dX0_isLinkedTo_8 (by decide) ?_
  refine pw_icmp_ne (tgt := 16) dX0_isLinkedTo_9 (by decide) (fun c_9 => ?_) (fun c_9 => ?_)
  · refine pw_iconst (v := 0) dX0_isLinkedTo_16 (by decide) ?_
    exact pw_zret dX0_isLinkedTo_17 rfl (by first | rfl | decide) (by first | exact ⟨ret_t c_9, rfl, rfl, rfl⟩ | exact ⟨ret_f c_9, rfl, rfl, rfl⟩ | exact ⟨ret_t (Classical.not_not.mp c_9), rfl, rfl, rfl⟩)
  · refine pw_iconst (v := 1) dX0_isLinkedTo_12 (by decide) ?_
    refine pw_goto (tgt := 17) dX0_isLinkedTo_13 (by decide) ?_
    exact pw_zret dX0_isLinkedTo_17 rfl (by first | rfl | decide) (by first | exact ⟨ret_t c_9, rfl, rfl, rfl⟩ | exact ⟨ret_f c_9, rfl, rfl, rfl⟩ | exact ⟨ret_t (Classical.not_not.mp c_9), rfl, rfl, rfl⟩)

set_option maxRecDepth 4000 in
theorem sp_afterAnHour {σ : pT} {I : pI} {F : pF} {q : Nat} {x : UInt32} (h : (σ.2.1 q).1 = 0 + 1) : PE yX0_afterAnHour cX0_afterAnHour mX0_afterAnHour [.ref q, .float x] σ I F (some (.float (wornF (F q 1) x))) I F := by
  refine PE.of oP_X0_afterAnHour (catOK rfl) (Nat.le_of_ble_eq_true rfl) ?_
  show PW _ _ _ 0 [.ref q, .float x, pJ] [] _ _ _ _
  refine pw_fload_n dX0_afterAnHour_0 rfl rfl ?_
  refine pw_fload_n dX0_afterAnHour_1 rfl rfl ?_
  refine pw_aload_n dX0_afterAnHour_2 rfl rfl ?_
  refine pw_getF dX0_afterAnHour_3 fd_RX0_15 (by decide) h rfl ?_
  refine pw_fmul dX0_afterAnHour_6 ?_
  refine pw_fsub dX0_afterAnHour_7 ?_
  refine pw_fstore_n dX0_afterAnHour_8 rfl (by decide) rfl ?_
  refine pw_fload_n dX0_afterAnHour_9 rfl rfl ?_
  refine pw_ldcf dX0_afterAnHour_10 kc_RX0_38 ?_
  refine pw_fcmp dX0_afterAnHour_12 ?_
  refine pw_if_ge (tgt := 21) dX0_afterAnHour_13 (by decide) (fun c_13 => ?_) (fun c_13 => ?_)
  · refine pw_fload_n dX0_afterAnHour_21 rfl rfl ?_
    exact pw_fret dX0_afterAnHour_22 rfl ⟨by simp [wornF, *], rfl, rfl, rfl⟩
  · refine pw_ldcf dX0_afterAnHour_16 kc_RX0_38 ?_
    refine pw_goto (tgt := 22) dX0_afterAnHour_18 (by decide) ?_
    exact pw_fret dX0_afterAnHour_22 rfl ⟨by simp [wornF, *], rfl, rfl, rfl⟩

set_option maxRecDepth 4000 in
theorem sp_runForAnHour {σ : pT} {I : pI} {F : pF} {q : Nat} (h : (σ.2.1 q).1 = 0 + 1) : PE yX0_runForAnHour cX0_runForAnHour mX0_runForAnHour [.ref q] σ I F none I (up2 (up2 F q 3 (FP.fadd (F q 3) (FP.fmul (FP.i2f (I q 0)) (F q 2)))) q 2 (wornF (F q 1) (F q 2))) := by
  refine PE.of oP_X0_runForAnHour (catOK rfl) (Nat.le_of_ble_eq_true rfl) ?_
  show PW _ _ _ 0 [.ref q] [] _ _ _ _
  refine pw_aload_n dX0_runForAnHour_0 rfl rfl ?_
  refine pw_aload_n dX0_runForAnHour_1 rfl rfl ?_
  refine pw_getF dX0_runForAnHour_2 fd_RX0_22 (by decide) h rfl ?_
  refine pw_aload_n dX0_runForAnHour_5 rfl rfl ?_
  refine pw_getI dX0_runForAnHour_6 fd_RX0_9 (by decide) h rfl ?_
  refine pw_i2f dX0_runForAnHour_9 ?_
  refine pw_aload_n dX0_runForAnHour_10 rfl rfl ?_
  refine pw_getF dX0_runForAnHour_11 fd_RX0_19 (by decide) h rfl ?_
  refine pw_fmul dX0_runForAnHour_14 ?_
  refine pw_fadd dX0_runForAnHour_15 ?_
  refine pw_putF dX0_runForAnHour_16 fd_RX0_22 (by decide) rfl rfl h ?_
  refine pw_aload_n dX0_runForAnHour_19 rfl rfl ?_
  refine pw_aload_n dX0_runForAnHour_20 rfl rfl ?_
  refine pw_aload_n dX0_runForAnHour_21 rfl rfl ?_
  refine pw_getF dX0_runForAnHour_22 fd_RX0_19 (by decide) h rfl ?_
  refine pe_callVf dX0_runForAnHour_25 oX_X0_afterAnHour lk_RX0_33 (sp_afterAnHour h) h rfl rfl (Nat.le_of_ble_eq_true rfl) (by decide) ?_
  refine pw_putF dX0_runForAnHour_28 fd_RX0_19 (by decide) rfl rfl h ?_
  exact pw_vret dX0_runForAnHour_31 rfl ⟨rfl, rfl, rfl, by simp [up2]⟩

set_option maxRecDepth 4000 in
theorem sp_mend {σ : pT} {I : pI} {F : pF} {q : Nat} (h : (σ.2.1 q).1 = 0 + 1) : PE yX0_mend cX0_mend mX0_mend [.ref q] σ I F none I (up2 F q 2 (FP.fadd (F q 2) (FP.fmul (FP.fsub 1065353216 (F q 2)) 1061158912))) := by
  refine PE.of oP_X0_mend (catOK rfl) (Nat.le_of_ble_eq_true rfl) ?_
  show PW _ _ _ 0 [.ref q] [] _ _ _ _
  refine pw_aload_n dX0_mend_0 rfl rfl ?_
  refine pw_aload_n dX0_mend_1 rfl rfl ?_
  refine pw_getF dX0_mend_2 fd_RX0_19 (by decide) h rfl ?_
  refine pw_fconst1 dX0_mend_5 ?_
  refine pw_aload_n dX0_mend_6 rfl rfl ?_
  refine pw_getF dX0_mend_7 fd_RX0_19 (by decide) h rfl ?_
  refine pw_fsub dX0_mend_10 ?_
  refine pw_ldcf dX0_mend_11 kc_RX0_37 ?_
  refine pw_fmul dX0_mend_13 ?_
  refine pw_fadd dX0_mend_14 ?_
  refine pw_putF dX0_mend_15 fd_RX0_19 (by decide) rfl rfl h ?_
  exact pw_vret dX0_mend_18 rfl ⟨rfl, rfl, rfl, rfl⟩

set_option maxRecDepth 4000 in
theorem sp_A_setUp {σ : pT} {I : pI} {F : pF} {q : Nat} {r t : Int32} (h : (σ.2.1 q).1 = 0 + 1) : PE yX0_setUp cX0_setUp mX0_setUp [.ref q, .int r, .int t] σ I F none (up2 (up2 (up2 I q 0 r) q 4 0) q 5 0) (up2 (up2 (up2 F q 1 (FP.fdiv (FP.i2f t) 1148846080)) q 2 1065353216) q 3 0) := by
  refine PE.of oP_X0_setUp (catOK rfl) (Nat.le_of_ble_eq_true rfl) ?_
  show PW _ _ _ 0 [.ref q, .int r, .int t] [] _ _ _ _
  refine pw_aload_n dX0_setUp_0 rfl rfl ?_
  refine pw_iload_n dX0_setUp_1 rfl rfl ?_
  refine pw_putI dX0_setUp_2 fd_RX0_9 (by decide) rfl ⟨rfl, rfl, rfl⟩ h ?_
  refine pw_aload_n dX0_setUp_5 rfl rfl ?_
  refine pw_iload_n dX0_setUp_6 rfl rfl ?_
  refine pw_i2f dX0_setUp_7 ?_
  refine pw_ldcf dX0_setUp_8 kc_RX0_32 ?_
  refine pw_fdiv dX0_setUp_10 ?_
  refine pw_putF dX0_setUp_11 fd_RX0_15 (by decide) rfl rfl h ?_
  refine pw_aload_n dX0_setUp_14 rfl rfl ?_
  refine pw_fconst1 dX0_setUp_15 ?_
  refine pw_putF dX0_setUp_16 fd_RX0_19 (by decide) rfl rfl h ?_
  refine pw_aload_n dX0_setUp_19 rfl rfl ?_
  refine pw_fconst0 dX0_setUp_20 ?_
  refine pw_putF dX0_setUp_21 fd_RX0_22 (by decide) rfl rfl h ?_
  refine pw_aload_n dX0_setUp_24 rfl rfl ?_
  refine pw_iconst (v := 0) dX0_setUp_25 (by decide) ?_
  refine pw_putI dX0_setUp_26 fd_RX0_25 (by decide) rfl ⟨by decide, by decide, rfl⟩ h ?_
  refine pw_aload_n dX0_setUp_29 rfl rfl ?_
  refine pw_iconst (v := 0) dX0_setUp_30 (by decide) ?_
  refine pw_putI dX0_setUp_31 fd_RX0_29 (by decide) rfl ⟨rfl, rfl, rfl⟩ h ?_
  exact pw_vret dX0_setUp_34 rfl ⟨rfl, rfl, rfl, rfl⟩

set_option maxRecDepth 4000 in
theorem sp_A_copy {σ : pT} {I : pI} {F : pF} {q r : Nat} (h : (σ.2.1 q).1 = 0 + 1) (h2 : (σ.2.1 r).1 = 0 + 1) (hz : I r 4 = 0 ∨ I r 4 = 1) (hqr : q ≠ r) : PE yX0_copyFrom cX0_copyFrom mX0_copyFrom [.ref q, .ref r] σ I F none (up2 (up2 (up2 I q 0 (I r 0)) q 4 (I r 4)) q 5 (I r 5)) (up2 (up2 (up2 F q 1 (F r 1)) q 2 (F r 2)) q 3 (F r 3)) := by
  refine PE.of oP_X0_copyFrom (catOK rfl) (Nat.le_of_ble_eq_true rfl) ?_
  show PW _ _ _ 0 [.ref q, .ref r] [] _ _ _ _
  refine pw_aload_n dX0_copyFrom_0 rfl rfl ?_
  refine pw_aload_n dX0_copyFrom_1 rfl rfl ?_
  refine pw_getI dX0_copyFrom_2 fd_RX0_9 (by decide) h2 rfl ?_
  refine pw_putI dX0_copyFrom_5 fd_RX0_9 (by decide) rfl ⟨rfl, rfl, rfl⟩ h ?_
  refine pw_aload_n dX0_copyFrom_8 rfl rfl ?_
  refine pw_aload_n dX0_copyFrom_9 rfl rfl ?_
  refine pw_getF dX0_copyFrom_10 fd_RX0_15 (by decide) h2 rfl ?_
  refine pw_putF dX0_copyFrom_13 fd_RX0_15 (by decide) rfl rfl h ?_
  refine pw_aload_n dX0_copyFrom_16 rfl rfl ?_
  refine pw_aload_n dX0_copyFrom_17 rfl rfl ?_
  refine pw_getF dX0_copyFrom_18 fd_RX0_19 (by decide) h2 rfl ?_
  refine pw_putF dX0_copyFrom_21 fd_RX0_19 (by decide) rfl rfl h ?_
  refine pw_aload_n dX0_copyFrom_24 rfl rfl ?_
  refine pw_aload_n dX0_copyFrom_25 rfl rfl ?_
  refine pw_getF dX0_copyFrom_26 fd_RX0_22 (by decide) h2 rfl ?_
  refine pw_putF dX0_copyFrom_29 fd_RX0_22 (by decide) rfl rfl h ?_
  refine pw_aload_n dX0_copyFrom_32 rfl rfl ?_
  refine pw_aload_n dX0_copyFrom_33 rfl rfl ?_
  refine pw_getI dX0_copyFrom_34 fd_RX0_25 (by decide) h2 rfl ?_
  refine pw_putI dX0_copyFrom_37 fd_RX0_25 (by decide) rfl ⟨by simp only [up2, Ne.symm hqr, false_and, if_false]; rcases hz with hz | hz <;> rw [hz] <;> rfl, by simp only [up2, Ne.symm hqr, false_and, if_false]; rcases hz with hz | hz <;> rw [hz] <;> rfl, rfl⟩ h ?_
  refine pw_aload_n dX0_copyFrom_40 rfl rfl ?_
  refine pw_aload_n dX0_copyFrom_41 rfl rfl ?_
  refine pw_getI dX0_copyFrom_42 fd_RX0_29 (by decide) h2 rfl ?_
  refine pw_putI dX0_copyFrom_45 fd_RX0_29 (by decide) rfl ⟨rfl, rfl, rfl⟩ h ?_
  exact pw_vret dX0_copyFrom_48 rfl ⟨rfl, rfl, by simp [up2, Ne.symm hqr], by simp [up2, Ne.symm hqr]⟩

set_option maxRecDepth 4000 in
theorem sp_C_setUp {σ : pT} {I : pI} {F : pF} {q : Nat} {r t : Int32} (h : (σ.2.1 q).1 = 1 + 1) : PE yX1_setUp cX1_setUp mX1_setUp [.ref q, .int r, .int t] σ I F none (up2 (up2 I q 0 r) q 1 t) F := by
  refine PE.of oP_X1_setUp (catOK rfl) (Nat.le_of_ble_eq_true rfl) ?_
  show PW _ _ _ 0 [.ref q, .int r, .int t] [] _ _ _ _
  refine pw_aload_n dX1_setUp_0 rfl rfl ?_
  refine pw_iload_n dX1_setUp_1 rfl rfl ?_
  refine pw_putI dX1_setUp_2 fd_RX1_7 (by decide) rfl ⟨rfl, rfl, rfl⟩ h ?_
  refine pw_aload_n dX1_setUp_5 rfl rfl ?_
  refine pw_iload_n dX1_setUp_6 rfl rfl ?_
  refine pw_putI dX1_setUp_7 fd_RX1_13 (by decide) rfl ⟨rfl, rfl, rfl⟩ h ?_
  exact pw_vret dX1_setUp_10 rfl ⟨rfl, rfl, rfl, rfl⟩

set_option maxRecDepth 4000 in
theorem sp_C_has {σ : pT} {I : pI} {F : pF} {q : Nat} {a : Int32} (h : (σ.2.1 q).1 = 1 + 1) : PE yX1_has cX1_has mX1_has [.ref q, .int a] σ I F (some (.int (bI (decide ((I q 1 >>> (a &&& 31)) &&& 1 = 1))))) I F := by
  refine PE.of oP_X1_has (catOK rfl) (Nat.le_of_ble_eq_true rfl) ?_
  show PW _ _ _ 0 [.ref q, .int a] [] _ _ _ _
  refine pw_aload_n dX1_has_0 rfl rfl ?_
  refine pw_getI dX1_has_1 fd_RX1_13 (by decide) h rfl ?_
  refine pw_iload_n dX1_has_4 rfl rfl ?_
  refine pw_ishr dX1_has_5 ?_
  refine pw_iconst (v := 1) dX1_has_6 (by decide) ?_
  refine pw_iand dX1_has_7 ?_
  refine pw_iconst (v := 1) dX1_has_8 (by decide) ?_
  refine pw_icmp_ne (tgt := 16) dX1_has_9 (by decide) (fun c_9 => ?_) (fun c_9 => ?_)
  · refine pw_iconst (v := 0) dX1_has_16 (by decide) ?_
    exact pw_zret dX1_has_17 rfl (by first | rfl | decide) (by first | exact ⟨ret_t c_9, rfl, rfl, rfl⟩ | exact ⟨ret_f c_9, rfl, rfl, rfl⟩ | exact ⟨ret_t (Classical.not_not.mp c_9), rfl, rfl, rfl⟩)
  · refine pw_iconst (v := 1) dX1_has_12 (by decide) ?_
    refine pw_goto (tgt := 17) dX1_has_13 (by decide) ?_
    exact pw_zret dX1_has_17 rfl (by first | rfl | decide) (by first | exact ⟨ret_t c_9, rfl, rfl, rfl⟩ | exact ⟨ret_f c_9, rfl, rfl, rfl⟩ | exact ⟨ret_t (Classical.not_not.mp c_9), rfl, rfl, rfl⟩)

set_option maxRecDepth 4000 in
theorem sp_C_copy {σ : pT} {I : pI} {F : pF} {q r : Nat} (h : (σ.2.1 q).1 = 1 + 1) (h2 : (σ.2.1 r).1 = 1 + 1) (hqr : q ≠ r) : PE yX1_copyFrom cX1_copyFrom mX1_copyFrom [.ref q, .ref r] σ I F none (up2 (up2 I q 0 (I r 0)) q 1 (I r 1)) F := by
  refine PE.of oP_X1_copyFrom (catOK rfl) (Nat.le_of_ble_eq_true rfl) ?_
  show PW _ _ _ 0 [.ref q, .ref r] [] _ _ _ _
  refine pw_aload_n dX1_copyFrom_0 rfl rfl ?_
  refine pw_aload_n dX1_copyFrom_1 rfl rfl ?_
  refine pw_getI dX1_copyFrom_2 fd_RX1_7 (by decide) h2 rfl ?_
  refine pw_putI dX1_copyFrom_5 fd_RX1_7 (by decide) rfl ⟨rfl, rfl, rfl⟩ h ?_
  refine pw_aload_n dX1_copyFrom_8 rfl rfl ?_
  refine pw_aload_n dX1_copyFrom_9 rfl rfl ?_
  refine pw_getI dX1_copyFrom_10 fd_RX1_13 (by decide) h2 rfl ?_
  refine pw_putI dX1_copyFrom_13 fd_RX1_13 (by decide) rfl ⟨rfl, rfl, rfl⟩ h ?_
  exact pw_vret dX1_copyFrom_16 rfl ⟨rfl, rfl, by simp [up2, Ne.symm hqr], rfl⟩

set_option maxRecDepth 4000 in
theorem sp_T_isIn {σ : pT} {I : pI} {F : pF} {q : Nat} {a b : Int32} (h : (σ.2.1 q).1 = 6 + 1) : PE yX6_isIn cX6_isIn mX6_isIn [.ref q, .int a, .int b] σ I F (some (.int (bI (decide (a ≤ I q 7 ∧ I q 7 ≤ b))))) I F := by
  refine PE.of oP_X6_isIn (catOK rfl) (Nat.le_of_ble_eq_true rfl) ?_
  show PW _ _ _ 0 [.ref q, .int a, .int b] [] _ _ _ _
  refine pw_aload_n dX6_isIn_0 rfl rfl ?_
  refine pw_getI dX6_isIn_1 fd_RX6_33 (by decide) h rfl ?_
  refine pw_iload_n dX6_isIn_4 rfl rfl ?_
  refine pw_icmp_lt (tgt := 20) dX6_isIn_5 (by decide) (fun c_5 => ?_) (fun c_5 => ?_)
  · refine pw_iconst (v := 0) dX6_isIn_20 (by decide) ?_
    exact pw_zret dX6_isIn_21 rfl (by first | rfl | decide) (by first | exact ⟨ret_t ⟨i_le c_5, i_le c_13⟩, rfl, rfl, rfl⟩ | exact ⟨ret_f (fun z => i_nlt c_5 z.1), rfl, rfl, rfl⟩ | exact ⟨ret_f (fun z => i_nlt c_13 z.2), rfl, rfl, rfl⟩)
  · refine pw_aload_n dX6_isIn_8 rfl rfl ?_
    refine pw_getI dX6_isIn_9 fd_RX6_33 (by decide) h rfl ?_
    refine pw_iload_n dX6_isIn_12 rfl rfl ?_
    refine pw_icmp_gt (tgt := 20) dX6_isIn_13 (by decide) (fun c_13 => ?_) (fun c_13 => ?_)
    · refine pw_iconst (v := 0) dX6_isIn_20 (by decide) ?_
      exact pw_zret dX6_isIn_21 rfl (by first | rfl | decide) (by first | exact ⟨ret_t ⟨i_le c_5, i_le c_13⟩, rfl, rfl, rfl⟩ | exact ⟨ret_f (fun z => i_nlt c_5 z.1), rfl, rfl, rfl⟩ | exact ⟨ret_f (fun z => i_nlt c_13 z.2), rfl, rfl, rfl⟩)
    · refine pw_iconst (v := 1) dX6_isIn_16 (by decide) ?_
      refine pw_goto (tgt := 21) dX6_isIn_17 (by decide) ?_
      exact pw_zret dX6_isIn_21 rfl (by first | rfl | decide) (by first | exact ⟨ret_t ⟨i_le c_5, i_le c_13⟩, rfl, rfl, rfl⟩ | exact ⟨ret_f (fun z => i_nlt c_5 z.1), rfl, rfl, rfl⟩ | exact ⟨ret_f (fun z => i_nlt c_13 z.2), rfl, rfl, rfl⟩)

set_option maxRecDepth 4000 in
theorem sp_T_tagHangs {σ : pT} {I : pI} {F : pF} {q : Nat} (h : (σ.2.1 q).1 = 6 + 1) : PE yX6_tagHangs cX6_tagHangs mX6_tagHangs [.ref q] σ I F (some (.int (bI (decide (1 ≤ I q 7 ∧ I q 7 ≤ 3))))) I F := by
  refine PE.of oP_X6_tagHangs (catOK rfl) (Nat.le_of_ble_eq_true rfl) ?_
  show PW _ _ _ 0 [.ref q] [] _ _ _ _
  refine pw_aload_n dX6_tagHangs_0 rfl rfl ?_
  refine pw_iconst (v := 1) dX6_tagHangs_1 (by decide) ?_
  refine pw_iconst (v := 3) dX6_tagHangs_2 (by decide) ?_
  refine pe_callVi dX6_tagHangs_3 oX_X6_isIn lk_RX6_48 (sp_T_isIn h) h rfl rfl (Nat.le_of_ble_eq_true rfl) (by decide) ?_
  exact pw_bret dX6_tagHangs_6 rfl ⟨rfl, rfl, rfl, rfl⟩

set_option maxRecDepth 4000 in
theorem sp_T_isTooLateAt {σ : pT} {I : pI} {F : pF} {q : Nat} {a : Int32} (h : (σ.2.1 q).1 = 6 + 1) : PE yX6_isTooLateAt cX6_isTooLateAt mX6_isTooLateAt [.ref q, .int a] σ I F (some (.int (bI (decide (I q 6 < a + I q 4))))) I F := by
  refine PE.of oP_X6_isTooLateAt (catOK rfl) (Nat.le_of_ble_eq_true rfl) ?_
  show PW _ _ _ 0 [.ref q, .int a] [] _ _ _ _
  refine pw_iload_n dX6_isTooLateAt_0 rfl rfl ?_
  refine pw_aload_n dX6_isTooLateAt_1 rfl rfl ?_
  refine pw_getI dX6_isTooLateAt_2 fd_RX6_24 (by decide) h rfl ?_
  refine pw_iadd dX6_isTooLateAt_5 ?_
  refine pw_aload_n dX6_isTooLateAt_6 rfl rfl ?_
  refine pw_getI dX6_isTooLateAt_7 fd_RX6_30 (by decide) h rfl ?_
  refine pw_icmp_le (tgt := 17) dX6_isTooLateAt_10 (by decide) (fun c_10 => ?_) (fun c_10 => ?_)
  · refine pw_iconst (v := 0) dX6_isTooLateAt_17 (by decide) ?_
    exact pw_zret dX6_isTooLateAt_18 rfl (by first | rfl | decide) (by first | exact ⟨ret_t (i_lt c_10), rfl, rfl, rfl⟩ | exact ⟨ret_f (i_nle c_10), rfl, rfl, rfl⟩)
  · refine pw_iconst (v := 1) dX6_isTooLateAt_13 (by decide) ?_
    refine pw_goto (tgt := 18) dX6_isTooLateAt_14 (by decide) ?_
    exact pw_zret dX6_isTooLateAt_18 rfl (by first | rfl | decide) (by first | exact ⟨ret_t (i_lt c_10), rfl, rfl, rfl⟩ | exact ⟨ret_f (i_nle c_10), rfl, rfl, rfl⟩)

/-- a task slips, or is missed -/
def slipI (I : pI) (q : Nat) : pI := if I q 7 = 0 ∧ 3 ≤ I q 10 then up2 I q 7 5 else up2 (up2 (up2 I q 5 (I q 5 + 24)) q 6 (I q 6 + 24)) q 10 (I q 10 + 1)
theorem slip_1 {I : pI} {q : Nat} (h1 : I q 7 = 0) (h2 : ¬ I q 10 < 3) : up2 I q 7 5 = slipI I q := by rw [slipI, if_pos ⟨h1, i_le h2⟩]
theorem slip_2 {I : pI} {q : Nat} (h2 : I q 10 < 3) : up2 (up2 (up2 I q 5 (I q 5 + 24)) q 6 (up2 I q 5 (I q 5 + 24) q 6 + 24)) q 10 (up2 (up2 I q 5 (I q 5 + 24)) q 6 (up2 I q 5 (I q 5 + 24) q 6 + 24) q 10 + 1) = slipI I q := by
  rw [slipI, if_neg (fun z => i_nlt h2 z.2)]
  simp [up2]
theorem slip_3 {I : pI} {q : Nat} (h2 : ¬ I q 7 = 0) : up2 (up2 (up2 I q 5 (I q 5 + 24)) q 6 (up2 I q 5 (I q 5 + 24) q 6 + 24)) q 10 (up2 (up2 I q 5 (I q 5 + 24)) q 6 (up2 I q 5 (I q 5 + 24) q 6 + 24) q 10 + 1) = slipI I q := by
  rw [slipI, if_neg (fun z => h2 z.1)]
  simp [up2]

set_option maxRecDepth 4000 in
theorem sp_T_slip {σ : pT} {I : pI} {F : pF} {q : Nat} (h : (σ.2.1 q).1 = 6 + 1) : PE yX6_slip cX6_slip mX6_slip [.ref q] σ I F none (slipI I q) F := by
  refine PE.of oP_X6_slip (catOK rfl) (Nat.le_of_ble_eq_true rfl) ?_
  show PW _ _ _ 0 [.ref q] [] _ _ _ _
  refine pw_aload_n dX6_slip_0 rfl rfl ?_
  refine pw_getI dX6_slip_1 fd_RX6_33 (by decide) h rfl ?_
  refine pw_if_ne (tgt := 21) dX6_slip_4 (by decide) (fun c_4 => ?_) (fun c_4 => ?_)
  · refine pw_aload_n dX6_slip_21 rfl rfl ?_
    refine pw_dup dX6_slip_22 rfl ?_
    refine pw_getI dX6_slip_23 fd_RX6_27 (by decide) h rfl ?_
    refine pw_bipush (v := 24) dX6_slip_26 (by decide) ?_
    refine pw_iadd dX6_slip_28 ?_
    refine pw_putI dX6_slip_29 fd_RX6_27 (by decide) rfl ⟨rfl, rfl, rfl⟩ h ?_
    refine pw_aload_n dX6_slip_32 rfl rfl ?_
    refine pw_dup dX6_slip_33 rfl ?_
    refine pw_getI dX6_slip_34 fd_RX6_30 (by decide) h rfl ?_
    refine pw_bipush (v := 24) dX6_slip_37 (by decide) ?_
    refine pw_iadd dX6_slip_39 ?_
    refine pw_putI dX6_slip_40 fd_RX6_30 (by decide) rfl ⟨rfl, rfl, rfl⟩ h ?_
    refine pw_aload_n dX6_slip_43 rfl rfl ?_
    refine pw_dup dX6_slip_44 rfl ?_
    refine pw_getI dX6_slip_45 fd_RX6_42 (by decide) h rfl ?_
    refine pw_iconst (v := 1) dX6_slip_48 (by decide) ?_
    refine pw_iadd dX6_slip_49 ?_
    refine pw_putI dX6_slip_50 fd_RX6_42 (by decide) rfl ⟨rfl, rfl, rfl⟩ h ?_
    exact pw_vret dX6_slip_53 rfl (by first | exact ⟨rfl, rfl, slip_1 c_4 c_12, rfl⟩ | exact ⟨rfl, rfl, slip_2 c_12, rfl⟩ | exact ⟨rfl, rfl, slip_3 c_4, rfl⟩)
  · refine pw_aload_n dX6_slip_7 rfl rfl ?_
    refine pw_getI dX6_slip_8 fd_RX6_42 (by decide) h rfl ?_
    refine pw_iconst (v := 3) dX6_slip_11 (by decide) ?_
    refine pw_icmp_lt (tgt := 21) dX6_slip_12 (by decide) (fun c_12 => ?_) (fun c_12 => ?_)
    · refine pw_aload_n dX6_slip_21 rfl rfl ?_
      refine pw_dup dX6_slip_22 rfl ?_
      refine pw_getI dX6_slip_23 fd_RX6_27 (by decide) h rfl ?_
      refine pw_bipush (v := 24) dX6_slip_26 (by decide) ?_
      refine pw_iadd dX6_slip_28 ?_
      refine pw_putI dX6_slip_29 fd_RX6_27 (by decide) rfl ⟨rfl, rfl, rfl⟩ h ?_
      refine pw_aload_n dX6_slip_32 rfl rfl ?_
      refine pw_dup dX6_slip_33 rfl ?_
      refine pw_getI dX6_slip_34 fd_RX6_30 (by decide) h rfl ?_
      refine pw_bipush (v := 24) dX6_slip_37 (by decide) ?_
      refine pw_iadd dX6_slip_39 ?_
      refine pw_putI dX6_slip_40 fd_RX6_30 (by decide) rfl ⟨rfl, rfl, rfl⟩ h ?_
      refine pw_aload_n dX6_slip_43 rfl rfl ?_
      refine pw_dup dX6_slip_44 rfl ?_
      refine pw_getI dX6_slip_45 fd_RX6_42 (by decide) h rfl ?_
      refine pw_iconst (v := 1) dX6_slip_48 (by decide) ?_
      refine pw_iadd dX6_slip_49 ?_
      refine pw_putI dX6_slip_50 fd_RX6_42 (by decide) rfl ⟨rfl, rfl, rfl⟩ h ?_
      exact pw_vret dX6_slip_53 rfl (by first | exact ⟨rfl, rfl, slip_1 c_4 c_12, rfl⟩ | exact ⟨rfl, rfl, slip_2 c_12, rfl⟩ | exact ⟨rfl, rfl, slip_3 c_4, rfl⟩)
    · refine pw_aload_n dX6_slip_15 rfl rfl ?_
      refine pw_iconst (v := 5) dX6_slip_16 (by decide) ?_
      refine pw_putI dX6_slip_17 fd_RX6_33 (by decide) rfl ⟨rfl, rfl, rfl⟩ h ?_
      exact pw_vret dX6_slip_20 rfl (by first | exact ⟨rfl, rfl, slip_1 c_4 c_12, rfl⟩ | exact ⟨rfl, rfl, slip_2 c_12, rfl⟩ | exact ⟨rfl, rfl, slip_3 c_4, rfl⟩)

set_option maxRecDepth 4000 in
theorem sp_T_setUp {σ : pT} {I : pI} {F : pF} {q : Nat} {a b c d e f : Int32} (h : (σ.2.1 q).1 = 6 + 1) : PE yX6_setUp cX6_setUp mX6_setUp [.ref q, .int a, .int b, .int c, .int d, .int e, .int f] σ I F none (up2 (up2 (up2 (up2 (up2 (up2 (up2 (up2 (up2 (up2 (up2 (up2 I q 0 a) q 1 b) q 2 c) q 3 d) q 4 e) q 5 f) q 6 (f + 2 * e + 6)) q 7 0) q 8 (-5)) q 9 0) q 10 0) q 11 0) F := by
  refine PE.of oP_X6_setUp (catOK rfl) (Nat.le_of_ble_eq_true rfl) ?_
  show PW _ _ _ 0 [.ref q, .int a, .int b, .int c, .int d, .int e, .int f] [] _ _ _ _
  refine pw_aload_n dX6_setUp_0 rfl rfl ?_
  refine pw_iload_n dX6_setUp_1 rfl rfl ?_
  refine pw_putI dX6_setUp_2 fd_RX6_9 (by decide) rfl ⟨rfl, rfl, rfl⟩ h ?_
  refine pw_aload_n dX6_setUp_5 rfl rfl ?_
  refine pw_iload_n dX6_setUp_6 rfl rfl ?_
  refine pw_putI dX6_setUp_7 fd_RX6_15 (by decide) rfl ⟨rfl, rfl, rfl⟩ h ?_
  refine pw_aload_n dX6_setUp_10 rfl rfl ?_
  refine pw_iload_n dX6_setUp_11 rfl rfl ?_
  refine pw_putI dX6_setUp_12 fd_RX6_18 (by decide) rfl ⟨rfl, rfl, rfl⟩ h ?_
  refine pw_aload_n dX6_setUp_15 rfl rfl ?_
  refine pw_iload dX6_setUp_16 rfl ?_
  refine pw_putI dX6_setUp_18 fd_RX6_21 (by decide) rfl ⟨rfl, rfl, rfl⟩ h ?_
  refine pw_aload_n dX6_setUp_21 rfl rfl ?_
  refine pw_iload dX6_setUp_22 rfl ?_
  refine pw_putI dX6_setUp_24 fd_RX6_24 (by decide) rfl ⟨rfl, rfl, rfl⟩ h ?_
  refine pw_aload_n dX6_setUp_27 rfl rfl ?_
  refine pw_iload dX6_setUp_28 rfl ?_
  refine pw_putI dX6_setUp_30 fd_RX6_27 (by decide) rfl ⟨rfl, rfl, rfl⟩ h ?_
  refine pw_aload_n dX6_setUp_33 rfl rfl ?_
  refine pw_iload dX6_setUp_34 rfl ?_
  refine pw_iconst (v := 2) dX6_setUp_36 (by decide) ?_
  refine pw_iload dX6_setUp_37 rfl ?_
  refine pw_imul dX6_setUp_39 ?_
  refine pw_iadd dX6_setUp_40 ?_
  refine pw_bipush (v := 6) dX6_setUp_41 (by decide) ?_
  refine pw_iadd dX6_setUp_43 ?_
  refine pw_putI dX6_setUp_44 fd_RX6_30 (by decide) rfl ⟨rfl, rfl, rfl⟩ h ?_
  refine pw_aload_n dX6_setUp_47 rfl rfl ?_
  refine pw_iconst (v := 0) dX6_setUp_48 (by decide) ?_
  refine pw_putI dX6_setUp_49 fd_RX6_33 (by decide) rfl ⟨rfl, rfl, rfl⟩ h ?_
  refine pw_aload_n dX6_setUp_52 rfl rfl ?_
  refine pw_bipush (v := (-5)) dX6_setUp_53 (by decide) ?_
  refine pw_putI dX6_setUp_55 fd_RX6_36 (by decide) rfl ⟨rfl, rfl, rfl⟩ h ?_
  refine pw_aload_n dX6_setUp_58 rfl rfl ?_
  refine pw_iconst (v := 0) dX6_setUp_59 (by decide) ?_
  refine pw_putI dX6_setUp_60 fd_RX6_39 (by decide) rfl ⟨rfl, rfl, rfl⟩ h ?_
  refine pw_aload_n dX6_setUp_63 rfl rfl ?_
  refine pw_iconst (v := 0) dX6_setUp_64 (by decide) ?_
  refine pw_putI dX6_setUp_65 fd_RX6_42 (by decide) rfl ⟨rfl, rfl, rfl⟩ h ?_
  refine pw_aload_n dX6_setUp_68 rfl rfl ?_
  refine pw_iconst (v := 0) dX6_setUp_69 (by decide) ?_
  refine pw_putI dX6_setUp_70 fd_RX6_45 (by decide) rfl ⟨rfl, rfl, rfl⟩ h ?_
  exact pw_vret dX6_setUp_73 rfl ⟨rfl, rfl, rfl, rfl⟩

set_option maxRecDepth 4000 in
theorem sp_T_copy {σ : pT} {I : pI} {F : pF} {q r : Nat} (h : (σ.2.1 q).1 = 6 + 1) (h2 : (σ.2.1 r).1 = 6 + 1) (hqr : q ≠ r) : PE yX6_copyFrom cX6_copyFrom mX6_copyFrom [.ref q, .ref r] σ I F none (up2 (up2 (up2 (up2 (up2 (up2 (up2 (up2 (up2 (up2 (up2 (up2 I q 0 (I r 0)) q 1 (I r 1)) q 2 (I r 2)) q 3 (I r 3)) q 4 (I r 4)) q 5 (I r 5)) q 6 (I r 6)) q 7 (I r 7)) q 8 (I r 8)) q 9 (I r 9)) q 10 (I r 10)) q 11 (I r 11)) F := by
  refine PE.of oP_X6_copyFrom (catOK rfl) (Nat.le_of_ble_eq_true rfl) ?_
  show PW _ _ _ 0 [.ref q, .ref r] [] _ _ _ _
  refine pw_aload_n dX6_copyFrom_0 rfl rfl ?_
  refine pw_aload_n dX6_copyFrom_1 rfl rfl ?_
  refine pw_getI dX6_copyFrom_2 fd_RX6_9 (by decide) h2 rfl ?_
  refine pw_putI dX6_copyFrom_5 fd_RX6_9 (by decide) rfl ⟨rfl, rfl, rfl⟩ h ?_
  refine pw_aload_n dX6_copyFrom_8 rfl rfl ?_
  refine pw_aload_n dX6_copyFrom_9 rfl rfl ?_
  refine pw_getI dX6_copyFrom_10 fd_RX6_15 (by decide) h2 rfl ?_
  refine pw_putI dX6_copyFrom_13 fd_RX6_15 (by decide) rfl ⟨rfl, rfl, rfl⟩ h ?_
  refine pw_aload_n dX6_copyFrom_16 rfl rfl ?_
  refine pw_aload_n dX6_copyFrom_17 rfl rfl ?_
  refine pw_getI dX6_copyFrom_18 fd_RX6_18 (by decide) h2 rfl ?_
  refine pw_putI dX6_copyFrom_21 fd_RX6_18 (by decide) rfl ⟨rfl, rfl, rfl⟩ h ?_
  refine pw_aload_n dX6_copyFrom_24 rfl rfl ?_
  refine pw_aload_n dX6_copyFrom_25 rfl rfl ?_
  refine pw_getI dX6_copyFrom_26 fd_RX6_21 (by decide) h2 rfl ?_
  refine pw_putI dX6_copyFrom_29 fd_RX6_21 (by decide) rfl ⟨rfl, rfl, rfl⟩ h ?_
  refine pw_aload_n dX6_copyFrom_32 rfl rfl ?_
  refine pw_aload_n dX6_copyFrom_33 rfl rfl ?_
  refine pw_getI dX6_copyFrom_34 fd_RX6_24 (by decide) h2 rfl ?_
  refine pw_putI dX6_copyFrom_37 fd_RX6_24 (by decide) rfl ⟨rfl, rfl, rfl⟩ h ?_
  refine pw_aload_n dX6_copyFrom_40 rfl rfl ?_
  refine pw_aload_n dX6_copyFrom_41 rfl rfl ?_
  refine pw_getI dX6_copyFrom_42 fd_RX6_27 (by decide) h2 rfl ?_
  refine pw_putI dX6_copyFrom_45 fd_RX6_27 (by decide) rfl ⟨rfl, rfl, rfl⟩ h ?_
  refine pw_aload_n dX6_copyFrom_48 rfl rfl ?_
  refine pw_aload_n dX6_copyFrom_49 rfl rfl ?_
  refine pw_getI dX6_copyFrom_50 fd_RX6_30 (by decide) h2 rfl ?_
  refine pw_putI dX6_copyFrom_53 fd_RX6_30 (by decide) rfl ⟨rfl, rfl, rfl⟩ h ?_
  refine pw_aload_n dX6_copyFrom_56 rfl rfl ?_
  refine pw_aload_n dX6_copyFrom_57 rfl rfl ?_
  refine pw_getI dX6_copyFrom_58 fd_RX6_33 (by decide) h2 rfl ?_
  refine pw_putI dX6_copyFrom_61 fd_RX6_33 (by decide) rfl ⟨rfl, rfl, rfl⟩ h ?_
  refine pw_aload_n dX6_copyFrom_64 rfl rfl ?_
  refine pw_aload_n dX6_copyFrom_65 rfl rfl ?_
  refine pw_getI dX6_copyFrom_66 fd_RX6_36 (by decide) h2 rfl ?_
  refine pw_putI dX6_copyFrom_69 fd_RX6_36 (by decide) rfl ⟨rfl, rfl, rfl⟩ h ?_
  refine pw_aload_n dX6_copyFrom_72 rfl rfl ?_
  refine pw_aload_n dX6_copyFrom_73 rfl rfl ?_
  refine pw_getI dX6_copyFrom_74 fd_RX6_39 (by decide) h2 rfl ?_
  refine pw_putI dX6_copyFrom_77 fd_RX6_39 (by decide) rfl ⟨rfl, rfl, rfl⟩ h ?_
  refine pw_aload_n dX6_copyFrom_80 rfl rfl ?_
  refine pw_aload_n dX6_copyFrom_81 rfl rfl ?_
  refine pw_getI dX6_copyFrom_82 fd_RX6_42 (by decide) h2 rfl ?_
  refine pw_putI dX6_copyFrom_85 fd_RX6_42 (by decide) rfl ⟨rfl, rfl, rfl⟩ h ?_
  refine pw_aload_n dX6_copyFrom_88 rfl rfl ?_
  refine pw_aload_n dX6_copyFrom_89 rfl rfl ?_
  refine pw_getI dX6_copyFrom_90 fd_RX6_45 (by decide) h2 rfl ?_
  refine pw_putI dX6_copyFrom_93 fd_RX6_45 (by decide) rfl ⟨rfl, rfl, rfl⟩ h ?_
  exact pw_vret dX6_copyFrom_96 rfl ⟨rfl, rfl, by simp [up2, Ne.symm hqr], rfl⟩
end
section
/-! counting, adding, looking for the first -/
def cntT (P : Nat → Bool) : Nat → Nat
  | 0 => 0
  | n + 1 => cntT P n + (if P n then 1 else 0)
def sumT (f : Nat → Int32) : Nat → Int32
  | 0 => 0
  | n + 1 => sumT f n + f n
/-- the first from k on, among so many; -5 if there is none -/
def fstT (P : Nat → Bool) : Nat → Nat → Int32
  | 0, _ => -5
  | r + 1, k => if P k then nI k else fstT P r (k + 1)
theorem cnt_t {P : Nat → Bool} {k : Nat} (h : P k = true) : cntT P (k + 1) = cntT P k + 1 := by simp [cntT, h]
theorem cnt_f {P : Nat → Bool} {k : Nat} (h : P k = false) : cntT P (k + 1) = cntT P k := by simp [cntT, h]
theorem sum_t {f : Nat → Int32} {k : Nat} {x : Int32} (h : f k = x) : sumT f (k + 1) = sumT f k + x := by simp [sumT, h]
theorem sum_0 {f : Nat → Int32} {k : Nat} (h : f k = 0) : sumT f (k + 1) = sumT f k := by simp [sumT, h]
theorem fst_t {P : Nat → Bool} {n k : Nat} (hk : k < n) (h : P k = true) : fstT P (n - k) k = nI k := by
  rw [show n - k = (n - (k + 1)) + 1 by omega]
  simp [fstT, h]
theorem fst_f {P : Nat → Bool} {n k : Nat} (hk : k < n) (h : P k = false) : fstT P (n - k) k = fstT P (n - (k + 1)) (k + 1) := by
  rw [show n - k = (n - (k + 1)) + 1 by omega]
  simp [fstT, h]
theorem fst_0 {P : Nat → Bool} {n : Nat} : fstT P (n - n) n = -5 := by simp [fstT]
theorem until_t {w b x : UInt32} {n k : Nat} (hk : k < n) (h : ¬ 0 ≤ Op.cmpValue (FP.fcmp x b) .g) : untilB w b (n - k) k x = nI k := by
  rw [show n - k = (n - (k + 1)) + 1 by omega]
  simp [untilB, h]
theorem until_f {w b x : UInt32} {n k : Nat} (hk : k < n) (h : 0 ≤ Op.cmpValue (FP.fcmp x b) .g) : untilB w b (n - k) k x = untilB w b (n - (k + 1)) (k + 1) (wornF w x) := by
  rw [show n - k = (n - (k + 1)) + 1 by omega]
  simp [untilB, h]
theorem until_0 {w b x : UInt32} {n : Nat} : untilB w b (n - n) n x = -5 := by simp [untilB]
theorem k_ge {x : Int32} {n : Nat} (h : x = nI n) : x ≤ nI n := by
  rw [h]
  exact Int32.le_refl _
theorem k_lt {x : Int32} {n k : Nat} (h : x = nI n) (hk : k < n) (hb : n < 2 ^ 31) : ¬ x ≤ nI k := by
  rw [h]
  exact nI_ge hk hb

set_option maxRecDepth 4000 in
theorem sp_healthAfter {σ : pT} {I : pI} {F : pF} {q n : Nat} (h : (σ.2.1 q).1 = 0 + 1) (hn : n ≤ 200) : PE yX0_healthAfter cX0_healthAfter mX0_healthAfter [.ref q, .int (nI n)] σ I F (some (.float (wornN (F q 1) n (F q 2)))) I F := by
  refine PE.of oP_X0_healthAfter (catOK rfl) (Nat.le_of_ble_eq_true rfl) ?_
  show PW _ _ _ 0 [.ref q, .int (nI n), pJ, pJ] [] _ _ _ _
  have L7 : ∀ k, k ≤ n → PW cX0_healthAfter mX0_healthAfter (fM (qE (some (.float (wornN (F q 1) n (F q 2)))) σ I F)) 7 [.ref q, .int (nI n), .float (wornN (F q 1) k (F q 2)), .int (nI k)] [] σ I F (0, 0) := by
    refine dn (fun k => PW cX0_healthAfter mX0_healthAfter (fM (qE (some (.float (wornN (F q 1) n (F q 2)))) σ I F)) 7 [.ref q, .int (nI n), .float (wornN (F q 1) k (F q 2)), .int (nI k)] [] σ I F (0, 0)) n ?_ ?_
    · skip
      refine pw_iload_n dX0_healthAfter_7 rfl rfl ?_
      refine pw_iload_n dX0_healthAfter_8 rfl rfl ?_
      refine pw_icmp_ge (tgt := 24) dX0_healthAfter_9 (by decide) (fun c_9 => ?_) (fun c_9 => absurd (k_ge rfl) c_9)
      refine pw_fload_n dX0_healthAfter_24 rfl rfl ?_
      exact pw_fret dX0_healthAfter_25 rfl ⟨rfl, rfl, rfl, rfl⟩
    · intro k hk ih
      refine pw_iload_n dX0_healthAfter_7 rfl rfl ?_
      refine pw_iload_n dX0_healthAfter_8 rfl rfl ?_
      refine pw_icmp_ge (tgt := 24) dX0_healthAfter_9 (by decide) (fun c_9 => absurd c_9 (k_lt rfl hk (by omega))) (fun c_9 => ?_)
      refine pw_aload_n dX0_healthAfter_12 rfl rfl ?_
      refine pw_fload_n dX0_healthAfter_13 rfl rfl ?_
      refine pe_callVf dX0_healthAfter_14 oX_X0_afterAnHour lk_RX0_33 (sp_afterAnHour h) h rfl rfl (Nat.le_of_ble_eq_true rfl) (by decide) ?_
      refine pw_fstore_n dX0_healthAfter_17 rfl (by decide) rfl ?_
      refine pw_iinc (v := nI (k + 1)) dX0_healthAfter_18 rfl (nI_add _ _) rfl ?_
      refine pw_goto (tgt := 7) dX0_healthAfter_21 (by decide) ?_
      rw [wornN_s] at ih
      exact ih
  refine pw_aload_n dX0_healthAfter_0 rfl rfl ?_
  refine pw_getF dX0_healthAfter_1 fd_RX0_19 (by decide) h rfl ?_
  refine pw_fstore_n dX0_healthAfter_4 rfl (by decide) rfl ?_
  refine pw_iconst (v := 0) dX0_healthAfter_5 (by decide) ?_
  refine pw_istore_n dX0_healthAfter_6 rfl (by decide) rfl ?_
  exact L7 0 (Nat.zero_le _)

set_option maxRecDepth 4000 in
theorem sp_hoursUntil {σ : pT} {I : pI} {F : pF} {q : Nat} {b : UInt32} (h : (σ.2.1 q).1 = 0 + 1) : PE yX0_hoursUntilBelow cX0_hoursUntilBelow mX0_hoursUntilBelow [.ref q, .float b] σ I F (some (.int (untilB (F q 1) b 201 0 (F q 2)))) I F := by
  refine PE.of oP_X0_hoursUntilBelow (catOK rfl) (Nat.le_of_ble_eq_true rfl) ?_
  show PW _ _ _ 0 [.ref q, .float b, pJ, pJ] [] _ _ _ _
  have L7 : ∀ k, k ≤ 201 → ∀ x : UInt32, untilB (F q 1) b (201 - k) k x = untilB (F q 1) b 201 0 (F q 2) → PW cX0_hoursUntilBelow mX0_hoursUntilBelow (fM (qE (some (.int (untilB (F q 1) b 201 0 (F q 2)))) σ I F)) 7 [.ref q, .float b, .float x, .int (nI k)] [] σ I F (0, 0) := by
    refine dn (fun k => ∀ x : UInt32, untilB (F q 1) b (201 - k) k x = untilB (F q 1) b 201 0 (F q 2) → PW cX0_hoursUntilBelow mX0_hoursUntilBelow (fM (qE (some (.int (untilB (F q 1) b 201 0 (F q 2)))) σ I F)) 7 [.ref q, .float b, .float x, .int (nI k)] [] σ I F (0, 0)) 201 ?_ ?_
    · intro x hx
      refine pw_iload_n dX0_hoursUntilBelow_7 rfl rfl ?_
      refine pw_sipush (v := 200) dX0_hoursUntilBelow_8 (by decide) ?_
      refine pw_icmp_gt (tgt := 34) dX0_hoursUntilBelow_11 (by decide) (fun c_11 => ?_) (fun c_11 => absurd (by decide) c_11)
      refine pw_bipush (v := (-5)) dX0_hoursUntilBelow_34 (by decide) ?_
      exact pw_iret dX0_hoursUntilBelow_36 rfl ⟨by rw [until_0] at hx; rw [← hx], rfl, rfl, rfl⟩
    · intro k hk ih
      intro x hx
      refine pw_iload_n dX0_hoursUntilBelow_7 rfl rfl ?_
      refine pw_sipush (v := 200) dX0_hoursUntilBelow_8 (by decide) ?_
      refine pw_icmp_gt (tgt := 34) dX0_hoursUntilBelow_11 (by decide) (fun c_11 => absurd c_11 (nI_nlt (a := 200) (by omega) (by omega))) (fun c_11 => ?_)
      refine pw_fload_n dX0_hoursUntilBelow_14 rfl rfl ?_
      refine pw_fload_n dX0_hoursUntilBelow_15 rfl rfl ?_
      refine pw_fcmp dX0_hoursUntilBelow_16 ?_
      refine pw_if_ge (tgt := 22) dX0_hoursUntilBelow_17 (by decide) (fun c_17 => ?_) (fun c_17 => ?_)
      · refine pw_aload_n dX0_hoursUntilBelow_22 rfl rfl ?_
        refine pw_fload_n dX0_hoursUntilBelow_23 rfl rfl ?_
        refine pe_callVf dX0_hoursUntilBelow_24 oX_X0_afterAnHour lk_RX0_33 (sp_afterAnHour h) h rfl rfl (Nat.le_of_ble_eq_true rfl) (by decide) ?_
        refine pw_fstore_n dX0_hoursUntilBelow_27 rfl (by decide) rfl ?_
        refine pw_iinc (v := nI (k + 1)) dX0_hoursUntilBelow_28 rfl (nI_add _ _) rfl ?_
        refine pw_goto (tgt := 7) dX0_hoursUntilBelow_31 (by decide) ?_
        exact ih _ (by rw [until_f hk c_17] at hx; exact hx)
      · refine pw_iload_n dX0_hoursUntilBelow_20 rfl rfl ?_
        exact pw_iret dX0_hoursUntilBelow_21 rfl ⟨by rw [until_t hk c_17] at hx; rw [← hx], rfl, rfl, rfl⟩
  refine pw_aload_n dX0_hoursUntilBelow_0 rfl rfl ?_
  refine pw_getF dX0_hoursUntilBelow_1 fd_RX0_19 (by decide) h rfl ?_
  refine pw_fstore_n dX0_hoursUntilBelow_4 rfl (by decide) rfl ?_
  refine pw_iconst (v := 0) dX0_hoursUntilBelow_5 (by decide) ?_
  refine pw_istore_n dX0_hoursUntilBelow_6 rfl (by decide) rfl ?_
  exact L7 0 (Nat.zero_le _) _ rfl

set_option maxRecDepth 4000 in
theorem sp_tasksOfAsset {σ : pT} {I : pI} {F : pF} {p n : Nat} {a f l : Int32} (h : isPl σ p) (hn : I p 6 = nI n) (hn4 : n ≤ 24)  : PE yX5_tasksOfAsset cX5_tasksOfAsset mX5_tasksOfAsset [.ref p, .int a, .int f, .int l] σ I F (some (.int (nI (cntT (fun t => decide (I (p + 18 + t) 0 = a) && decide (f ≤ I (p + 18 + t) 7 ∧ I (p + 18 + t) 7 ≤ l)) n)))) I F := by
  refine PE.of oP_X5_tasksOfAsset (catOK rfl) (Nat.le_of_ble_eq_true rfl) ?_
  show PW _ _ _ 0 [.ref p, .int a, .int f, .int l, pJ, pJ] [] _ _ _ _
  have L6 : ∀ k, k ≤ n → PW cX5_tasksOfAsset mX5_tasksOfAsset (fM (qE (some (.int (nI (cntT (fun t => decide (I (p + 18 + t) 0 = a) && decide (f ≤ I (p + 18 + t) 7 ∧ I (p + 18 + t) 7 ≤ l)) n)))) σ I F)) 6 [.ref p, .int a, .int f, .int l, .int (nI (cntT (fun t => decide (I (p + 18 + t) 0 = a) && decide (f ≤ I (p + 18 + t) 7 ∧ I (p + 18 + t) 7 ≤ l)) k)), .int (nI k)] [] σ I F (0, 0) := by
    refine dn (fun k => PW cX5_tasksOfAsset mX5_tasksOfAsset (fM (qE (some (.int (nI (cntT (fun t => decide (I (p + 18 + t) 0 = a) && decide (f ≤ I (p + 18 + t) 7 ∧ I (p + 18 + t) 7 ≤ l)) n)))) σ I F)) 6 [.ref p, .int a, .int f, .int l, .int (nI (cntT (fun t => decide (I (p + 18 + t) 0 = a) && decide (f ≤ I (p + 18 + t) 7 ∧ I (p + 18 + t) 7 ≤ l)) k)), .int (nI k)] [] σ I F (0, 0)) n ?_ ?_
    · skip
      refine pw_iload dX5_tasksOfAsset_6 rfl ?_
      refine pw_aload_n dX5_tasksOfAsset_8 rfl rfl ?_
      refine pw_getI dX5_tasksOfAsset_9 fd_RX5_40 (by decide) (pl_k h) rfl ?_
      refine pw_icmp_ge (tgt := 53) dX5_tasksOfAsset_12 (by decide) (fun c_12 => ?_) (fun c_12 => absurd (k_ge hn) c_12)
      refine pw_iload dX5_tasksOfAsset_53 rfl ?_
      exact pw_iret dX5_tasksOfAsset_55 rfl ⟨rfl, rfl, rfl, rfl⟩
    · intro k hk ih
      refine pw_iload dX5_tasksOfAsset_6 rfl ?_
      refine pw_aload_n dX5_tasksOfAsset_8 rfl rfl ?_
      refine pw_getI dX5_tasksOfAsset_9 fd_RX5_40 (by decide) (pl_k h) rfl ?_
      refine pw_icmp_ge (tgt := 53) dX5_tasksOfAsset_12 (by decide) (fun c_12 => absurd c_12 (k_lt hn hk (by omega))) (fun c_12 => ?_)
      refine pw_aload_n dX5_tasksOfAsset_15 rfl rfl ?_
      refine pw_getR (x := (p + 3)) dX5_tasksOfAsset_16 fd_RX5_25 (by decide) (pl_k h) rfl (pl_rT h) ?_
      refine pw_iload dX5_tasksOfAsset_19 rfl ?_
      refine pw_aaldN (j := k) (x := (p + 18 + k)) dX5_tasksOfAsset_21 (pl_kT h) (by omega) (by decide) (by decide) (pl_eT h (by omega)) ?_
      refine pw_getI dX5_tasksOfAsset_22 fd_RX5_111 (by decide) (pl_oT h (by omega)) rfl ?_
      refine pw_iload_n dX5_tasksOfAsset_25 rfl rfl ?_
      refine pw_icmp_ne (tgt := 47) dX5_tasksOfAsset_26 (by decide) (fun c_26 => ?_) (fun c_26 => ?_)
      · refine pw_iinc (v := nI (k + 1)) dX5_tasksOfAsset_47 rfl (nI_add _ _) rfl ?_
        refine pw_goto (tgt := 6) dX5_tasksOfAsset_50 (by decide) ?_
        have hP : (fun t => decide (I (p + 18 + t) 0 = a) && decide (f ≤ I (p + 18 + t) 7 ∧ I (p + 18 + t) 7 ≤ l)) k = false := by simp [c_26]
        rw [cnt_f hP] at ih
        exact ih
      · refine pw_aload_n dX5_tasksOfAsset_29 rfl rfl ?_
        refine pw_getR (x := (p + 3)) dX5_tasksOfAsset_30 fd_RX5_25 (by decide) (pl_k h) rfl (pl_rT h) ?_
        refine pw_iload dX5_tasksOfAsset_33 rfl ?_
        refine pw_aaldN (j := k) (x := (p + 18 + k)) dX5_tasksOfAsset_35 (pl_kT h) (by omega) (by decide) (by decide) (pl_eT h (by omega)) ?_
        refine pw_iload_n dX5_tasksOfAsset_36 rfl rfl ?_
        refine pw_iload_n dX5_tasksOfAsset_37 rfl rfl ?_
        refine pe_callVi dX5_tasksOfAsset_38 oX_X6_isIn lk_RX5_162 (sp_T_isIn (pl_oT h (by omega))) (pl_oT h (by omega)) rfl rfl (Nat.le_of_ble_eq_true rfl) (by decide) ?_
        refine pw_ifB_eq (tgt := 47) dX5_tasksOfAsset_41 (by decide) (fun c_41 => ?_) (fun c_41 => ?_)
        · refine pw_iinc (v := nI (k + 1)) dX5_tasksOfAsset_47 rfl (nI_add _ _) rfl ?_
          refine pw_goto (tgt := 6) dX5_tasksOfAsset_50 (by decide) ?_
          have hP : (fun t => decide (I (p + 18 + t) 0 = a) && decide (f ≤ I (p + 18 + t) 7 ∧ I (p + 18 + t) 7 ≤ l)) k = false := by simp [c_26, c_41]
          rw [cnt_f hP] at ih
          exact ih
        · refine pw_iinc (v := nI ((cntT (fun t => decide (I (p + 18 + t) 0 = a) && decide (f ≤ I (p + 18 + t) 7 ∧ I (p + 18 + t) 7 ≤ l)) k) + 1)) dX5_tasksOfAsset_44 rfl (nI_add _ _) rfl ?_
          refine pw_iinc (v := nI (k + 1)) dX5_tasksOfAsset_47 rfl (nI_add _ _) rfl ?_
          refine pw_goto (tgt := 6) dX5_tasksOfAsset_50 (by decide) ?_
          have hP : (fun t => decide (I (p + 18 + t) 0 = a) && decide (f ≤ I (p + 18 + t) 7 ∧ I (p + 18 + t) 7 ≤ l)) k = true := by simp [c_26, c_41]
          rw [cnt_t hP] at ih
          exact ih
  refine pw_iconst (v := 0) dX5_tasksOfAsset_0 (by decide) ?_
  refine pw_istore dX5_tasksOfAsset_1 (by decide) rfl ?_
  refine pw_iconst (v := 0) dX5_tasksOfAsset_3 (by decide) ?_
  refine pw_istore dX5_tasksOfAsset_4 (by decide) rfl ?_
  exact L6 0 (Nat.zero_le _)

set_option maxRecDepth 4000 in
theorem sp_tasksOfCrew {σ : pT} {I : pI} {F : pF} {p n : Nat} {a f l : Int32} (h : isPl σ p) (hn : I p 6 = nI n) (hn4 : n ≤ 24)  : PE yX5_tasksOfCrew cX5_tasksOfCrew mX5_tasksOfCrew [.ref p, .int a, .int f, .int l] σ I F (some (.int (nI (cntT (fun t => decide (I (p + 18 + t) 8 = a) && decide (f ≤ I (p + 18 + t) 7 ∧ I (p + 18 + t) 7 ≤ l)) n)))) I F := by
  refine PE.of oP_X5_tasksOfCrew (catOK rfl) (Nat.le_of_ble_eq_true rfl) ?_
  show PW _ _ _ 0 [.ref p, .int a, .int f, .int l, pJ, pJ] [] _ _ _ _
  have L6 : ∀ k, k ≤ n → PW cX5_tasksOfCrew mX5_tasksOfCrew (fM (qE (some (.int (nI (cntT (fun t => decide (I (p + 18 + t) 8 = a) && decide (f ≤ I (p + 18 + t) 7 ∧ I (p + 18 + t) 7 ≤ l)) n)))) σ I F)) 6 [.ref p, .int a, .int f, .int l, .int (nI (cntT (fun t => decide (I (p + 18 + t) 8 = a) && decide (f ≤ I (p + 18 + t) 7 ∧ I (p + 18 + t) 7 ≤ l)) k)), .int (nI k)] [] σ I F (0, 0) := by
    refine dn (fun k => PW cX5_tasksOfCrew mX5_tasksOfCrew (fM (qE (some (.int (nI (cntT (fun t => decide (I (p + 18 + t) 8 = a) && decide (f ≤ I (p + 18 + t) 7 ∧ I (p + 18 + t) 7 ≤ l)) n)))) σ I F)) 6 [.ref p, .int a, .int f, .int l, .int (nI (cntT (fun t => decide (I (p + 18 + t) 8 = a) && decide (f ≤ I (p + 18 + t) 7 ∧ I (p + 18 + t) 7 ≤ l)) k)), .int (nI k)] [] σ I F (0, 0)) n ?_ ?_
    · skip
      refine pw_iload dX5_tasksOfCrew_6 rfl ?_
      refine pw_aload_n dX5_tasksOfCrew_8 rfl rfl ?_
      refine pw_getI dX5_tasksOfCrew_9 fd_RX5_40 (by decide) (pl_k h) rfl ?_
      refine pw_icmp_ge (tgt := 53) dX5_tasksOfCrew_12 (by decide) (fun c_12 => ?_) (fun c_12 => absurd (k_ge hn) c_12)
      refine pw_iload dX5_tasksOfCrew_53 rfl ?_
      exact pw_iret dX5_tasksOfCrew_55 rfl ⟨rfl, rfl, rfl, rfl⟩
    · intro k hk ih
      refine pw_iload dX5_tasksOfCrew_6 rfl ?_
      refine pw_aload_n dX5_tasksOfCrew_8 rfl rfl ?_
      refine pw_getI dX5_tasksOfCrew_9 fd_RX5_40 (by decide) (pl_k h) rfl ?_
      refine pw_icmp_ge (tgt := 53) dX5_tasksOfCrew_12 (by decide) (fun c_12 => absurd c_12 (k_lt hn hk (by omega))) (fun c_12 => ?_)
      refine pw_aload_n dX5_tasksOfCrew_15 rfl rfl ?_
      refine pw_getR (x := (p + 3)) dX5_tasksOfCrew_16 fd_RX5_25 (by decide) (pl_k h) rfl (pl_rT h) ?_
      refine pw_iload dX5_tasksOfCrew_19 rfl ?_
      refine pw_aaldN (j := k) (x := (p + 18 + k)) dX5_tasksOfCrew_21 (pl_kT h) (by omega) (by decide) (by decide) (pl_eT h (by omega)) ?_
      refine pw_getI dX5_tasksOfCrew_22 fd_RX5_124 (by decide) (pl_oT h (by omega)) rfl ?_
      refine pw_iload_n dX5_tasksOfCrew_25 rfl rfl ?_
      refine pw_icmp_ne (tgt := 47) dX5_tasksOfCrew_26 (by decide) (fun c_26 => ?_) (fun c_26 => ?_)
      · refine pw_iinc (v := nI (k + 1)) dX5_tasksOfCrew_47 rfl (nI_add _ _) rfl ?_
        refine pw_goto (tgt := 6) dX5_tasksOfCrew_50 (by decide) ?_
        have hP : (fun t => decide (I (p + 18 + t) 8 = a) && decide (f ≤ I (p + 18 + t) 7 ∧ I (p + 18 + t) 7 ≤ l)) k = false := by simp [c_26]
        rw [cnt_f hP] at ih
        exact ih
      · refine pw_aload_n dX5_tasksOfCrew_29 rfl rfl ?_
        refine pw_getR (x := (p + 3)) dX5_tasksOfCrew_30 fd_RX5_25 (by decide) (pl_k h) rfl (pl_rT h) ?_
        refine pw_iload dX5_tasksOfCrew_33 rfl ?_
        refine pw_aaldN (j := k) (x := (p + 18 + k)) dX5_tasksOfCrew_35 (pl_kT h) (by omega) (by decide) (by decide) (pl_eT h (by omega)) ?_
        refine pw_iload_n dX5_tasksOfCrew_36 rfl rfl ?_
        refine pw_iload_n dX5_tasksOfCrew_37 rfl rfl ?_
        refine pe_callVi dX5_tasksOfCrew_38 oX_X6_isIn lk_RX5_162 (sp_T_isIn (pl_oT h (by omega))) (pl_oT h (by omega)) rfl rfl (Nat.le_of_ble_eq_true rfl) (by decide) ?_
        refine pw_ifB_eq (tgt := 47) dX5_tasksOfCrew_41 (by decide) (fun c_41 => ?_) (fun c_41 => ?_)
        · refine pw_iinc (v := nI (k + 1)) dX5_tasksOfCrew_47 rfl (nI_add _ _) rfl ?_
          refine pw_goto (tgt := 6) dX5_tasksOfCrew_50 (by decide) ?_
          have hP : (fun t => decide (I (p + 18 + t) 8 = a) && decide (f ≤ I (p + 18 + t) 7 ∧ I (p + 18 + t) 7 ≤ l)) k = false := by simp [c_26, c_41]
          rw [cnt_f hP] at ih
          exact ih
        · refine pw_iinc (v := nI ((cntT (fun t => decide (I (p + 18 + t) 8 = a) && decide (f ≤ I (p + 18 + t) 7 ∧ I (p + 18 + t) 7 ≤ l)) k) + 1)) dX5_tasksOfCrew_44 rfl (nI_add _ _) rfl ?_
          refine pw_iinc (v := nI (k + 1)) dX5_tasksOfCrew_47 rfl (nI_add _ _) rfl ?_
          refine pw_goto (tgt := 6) dX5_tasksOfCrew_50 (by decide) ?_
          have hP : (fun t => decide (I (p + 18 + t) 8 = a) && decide (f ≤ I (p + 18 + t) 7 ∧ I (p + 18 + t) 7 ≤ l)) k = true := by simp [c_26, c_41]
          rw [cnt_t hP] at ih
          exact ih
  refine pw_iconst (v := 0) dX5_tasksOfCrew_0 (by decide) ?_
  refine pw_istore dX5_tasksOfCrew_1 (by decide) rfl ?_
  refine pw_iconst (v := 0) dX5_tasksOfCrew_3 (by decide) ?_
  refine pw_istore dX5_tasksOfCrew_4 (by decide) rfl ?_
  exact L6 0 (Nat.zero_le _)

set_option maxRecDepth 4000 in
theorem sp_tasksIn {σ : pT} {I : pI} {F : pF} {p n : Nat} {f l : Int32} (h : isPl σ p) (hn : I p 6 = nI n) (hn4 : n ≤ 24)  : PE yX5_tasksIn cX5_tasksIn mX5_tasksIn [.ref p, .int f, .int l] σ I F (some (.int (nI (cntT (fun t => decide (f ≤ I (p + 18 + t) 7 ∧ I (p + 18 + t) 7 ≤ l)) n)))) I F := by
  refine PE.of oP_X5_tasksIn (catOK rfl) (Nat.le_of_ble_eq_true rfl) ?_
  show PW _ _ _ 0 [.ref p, .int f, .int l, pJ, pJ] [] _ _ _ _
  have L5 : ∀ k, k ≤ n → PW cX5_tasksIn mX5_tasksIn (fM (qE (some (.int (nI (cntT (fun t => decide (f ≤ I (p + 18 + t) 7 ∧ I (p + 18 + t) 7 ≤ l)) n)))) σ I F)) 5 [.ref p, .int f, .int l, .int (nI (cntT (fun t => decide (f ≤ I (p + 18 + t) 7 ∧ I (p + 18 + t) 7 ≤ l)) k)), .int (nI k)] [] σ I F (0, 0) := by
    refine dn (fun k => PW cX5_tasksIn mX5_tasksIn (fM (qE (some (.int (nI (cntT (fun t => decide (f ≤ I (p + 18 + t) 7 ∧ I (p + 18 + t) 7 ≤ l)) n)))) σ I F)) 5 [.ref p, .int f, .int l, .int (nI (cntT (fun t => decide (f ≤ I (p + 18 + t) 7 ∧ I (p + 18 + t) 7 ≤ l)) k)), .int (nI k)] [] σ I F (0, 0)) n ?_ ?_
    · skip
      refine pw_iload dX5_tasksIn_5 rfl ?_
      refine pw_aload_n dX5_tasksIn_7 rfl rfl ?_
      refine pw_getI dX5_tasksIn_8 fd_RX5_40 (by decide) (pl_k h) rfl ?_
      refine pw_icmp_ge (tgt := 38) dX5_tasksIn_11 (by decide) (fun c_11 => ?_) (fun c_11 => absurd (k_ge hn) c_11)
      refine pw_iload_n dX5_tasksIn_38 rfl rfl ?_
      exact pw_iret dX5_tasksIn_39 rfl ⟨rfl, rfl, rfl, rfl⟩
    · intro k hk ih
      refine pw_iload dX5_tasksIn_5 rfl ?_
      refine pw_aload_n dX5_tasksIn_7 rfl rfl ?_
      refine pw_getI dX5_tasksIn_8 fd_RX5_40 (by decide) (pl_k h) rfl ?_
      refine pw_icmp_ge (tgt := 38) dX5_tasksIn_11 (by decide) (fun c_11 => absurd c_11 (k_lt hn hk (by omega))) (fun c_11 => ?_)
      refine pw_aload_n dX5_tasksIn_14 rfl rfl ?_
      refine pw_getR (x := (p + 3)) dX5_tasksIn_15 fd_RX5_25 (by decide) (pl_k h) rfl (pl_rT h) ?_
      refine pw_iload dX5_tasksIn_18 rfl ?_
      refine pw_aaldN (j := k) (x := (p + 18 + k)) dX5_tasksIn_20 (pl_kT h) (by omega) (by decide) (by decide) (pl_eT h (by omega)) ?_
      refine pw_iload_n dX5_tasksIn_21 rfl rfl ?_
      refine pw_iload_n dX5_tasksIn_22 rfl rfl ?_
      refine pe_callVi dX5_tasksIn_23 oX_X6_isIn lk_RX5_162 (sp_T_isIn (pl_oT h (by omega))) (pl_oT h (by omega)) rfl rfl (Nat.le_of_ble_eq_true rfl) (by decide) ?_
      refine pw_ifB_eq (tgt := 32) dX5_tasksIn_26 (by decide) (fun c_26 => ?_) (fun c_26 => ?_)
      · refine pw_iinc (v := nI (k + 1)) dX5_tasksIn_32 rfl (nI_add _ _) rfl ?_
        refine pw_goto (tgt := 5) dX5_tasksIn_35 (by decide) ?_
        have hP : (fun t => decide (f ≤ I (p + 18 + t) 7 ∧ I (p + 18 + t) 7 ≤ l)) k = false := by simp [c_26]
        rw [cnt_f hP] at ih
        exact ih
      · refine pw_iinc (v := nI ((cntT (fun t => decide (f ≤ I (p + 18 + t) 7 ∧ I (p + 18 + t) 7 ≤ l)) k) + 1)) dX5_tasksIn_29 rfl (nI_add _ _) rfl ?_
        refine pw_iinc (v := nI (k + 1)) dX5_tasksIn_32 rfl (nI_add _ _) rfl ?_
        refine pw_goto (tgt := 5) dX5_tasksIn_35 (by decide) ?_
        have hP : (fun t => decide (f ≤ I (p + 18 + t) 7 ∧ I (p + 18 + t) 7 ≤ l)) k = true := by simp [c_26]
        rw [cnt_t hP] at ih
        exact ih
  refine pw_iconst (v := 0) dX5_tasksIn_0 (by decide) ?_
  refine pw_istore_n dX5_tasksIn_1 rfl (by decide) rfl ?_
  refine pw_iconst (v := 0) dX5_tasksIn_2 (by decide) ?_
  refine pw_istore dX5_tasksIn_3 (by decide) rfl ?_
  exact L5 0 (Nat.zero_le _)

set_option maxRecDepth 4000 in
theorem sp_assetsRunning {σ : pT} {I : pI} {F : pF} {p n : Nat} (h : isPl σ p) (hn : I p 4 = nI n) (hn8 : n ≤ 8) : PE yX5_assetsRunning cX5_assetsRunning mX5_assetsRunning [.ref p] σ I F (some (.int (nI (cntT (fun a => decide (¬ I (p + 5 + a) 4 = 0)) n)))) I F := by
  refine PE.of oP_X5_assetsRunning (catOK rfl) (Nat.le_of_ble_eq_true rfl) ?_
  show PW _ _ _ 0 [.ref p, pJ, pJ] [] _ _ _ _
  have L4 : ∀ k, k ≤ n → PW cX5_assetsRunning mX5_assetsRunning (fM (qE (some (.int (nI (cntT (fun a => decide (¬ I (p + 5 + a) 4 = 0)) n)))) σ I F)) 4 [.ref p, .int (nI (cntT (fun a => decide (¬ I (p + 5 + a) 4 = 0)) k)), .int (nI k)] [] σ I F (0, 0) := by
    refine dn (fun k => PW cX5_assetsRunning mX5_assetsRunning (fM (qE (some (.int (nI (cntT (fun a => decide (¬ I (p + 5 + a) 4 = 0)) n)))) σ I F)) 4 [.ref p, .int (nI (cntT (fun a => decide (¬ I (p + 5 + a) 4 = 0)) k)), .int (nI k)] [] σ I F (0, 0)) n ?_ ?_
    · skip
      refine pw_iload_n dX5_assetsRunning_4 rfl rfl ?_
      refine pw_aload_n dX5_assetsRunning_5 rfl rfl ?_
      refine pw_getI dX5_assetsRunning_6 fd_RX5_33 (by decide) (pl_k h) rfl ?_
      refine pw_icmp_ge (tgt := 33) dX5_assetsRunning_9 (by decide) (fun c_9 => ?_) (fun c_9 => absurd (k_ge hn) c_9)
      refine pw_iload_n dX5_assetsRunning_33 rfl rfl ?_
      exact pw_iret dX5_assetsRunning_34 rfl ⟨rfl, rfl, rfl, rfl⟩
    · intro k hk ih
      refine pw_iload_n dX5_assetsRunning_4 rfl rfl ?_
      refine pw_aload_n dX5_assetsRunning_5 rfl rfl ?_
      refine pw_getI dX5_assetsRunning_6 fd_RX5_33 (by decide) (pl_k h) rfl ?_
      refine pw_icmp_ge (tgt := 33) dX5_assetsRunning_9 (by decide) (fun c_9 => absurd c_9 (k_lt hn hk (by omega))) (fun c_9 => ?_)
      refine pw_aload_n dX5_assetsRunning_12 rfl rfl ?_
      refine pw_getR (x := (p + 1)) dX5_assetsRunning_13 fd_RX5_11 (by decide) (pl_k h) rfl (pl_rA h) ?_
      refine pw_iload_n dX5_assetsRunning_16 rfl rfl ?_
      refine pw_aaldN (j := k) (x := (p + 5 + k)) dX5_assetsRunning_17 (pl_kA h) (by omega) (by decide) (by decide) (pl_eA h (by omega)) ?_
      refine pw_getI dX5_assetsRunning_18 fd_RX5_94 (by decide) (pl_oA h (by omega)) rfl ?_
      refine pw_if_eq (tgt := 27) dX5_assetsRunning_21 (by decide) (fun c_21 => ?_) (fun c_21 => ?_)
      · refine pw_iinc (v := nI (k + 1)) dX5_assetsRunning_27 rfl (nI_add _ _) rfl ?_
        refine pw_goto (tgt := 4) dX5_assetsRunning_30 (by decide) ?_
        have hP : (fun a => decide (¬ I (p + 5 + a) 4 = 0)) k = false := by simp [c_21]
        rw [cnt_f hP] at ih
        exact ih
      · refine pw_iinc (v := nI ((cntT (fun a => decide (¬ I (p + 5 + a) 4 = 0)) k) + 1)) dX5_assetsRunning_24 rfl (nI_add _ _) rfl ?_
        refine pw_iinc (v := nI (k + 1)) dX5_assetsRunning_27 rfl (nI_add _ _) rfl ?_
        refine pw_goto (tgt := 4) dX5_assetsRunning_30 (by decide) ?_
        have hP : (fun a => decide (¬ I (p + 5 + a) 4 = 0)) k = true := by simp [c_21]
        rw [cnt_t hP] at ih
        exact ih
  refine pw_iconst (v := 0) dX5_assetsRunning_0 (by decide) ?_
  refine pw_istore_n dX5_assetsRunning_1 rfl (by decide) rfl ?_
  refine pw_iconst (v := 0) dX5_assetsRunning_2 (by decide) ?_
  refine pw_istore_n dX5_assetsRunning_3 rfl (by decide) rfl ?_
  exact L4 0 (Nat.zero_le _)

set_option maxRecDepth 4000 in
theorem sp_busyPeople {σ : pT} {I : pI} {F : pF} {p n : Nat} {a : Int32} (h : isPl σ p) (hn : I p 6 = nI n) (hn4 : n ≤ 24)  : PE yX5_busyPeople cX5_busyPeople mX5_busyPeople [.ref p, .int a] σ I F (some (.int (sumT (fun t => if (decide (I (p + 18 + t) 8 = a) && decide (1 ≤ I (p + 18 + t) 7 ∧ I (p + 18 + t) 7 ≤ 3)) = true then I (p + 18 + t) 2 else 0) n))) I F := by
  refine PE.of oP_X5_busyPeople (catOK rfl) (Nat.le_of_ble_eq_true rfl) ?_
  show PW _ _ _ 0 [.ref p, .int a, pJ, pJ] [] _ _ _ _
  have L4 : ∀ k, k ≤ n → PW cX5_busyPeople mX5_busyPeople (fM (qE (some (.int (sumT (fun t => if (decide (I (p + 18 + t) 8 = a) && decide (1 ≤ I (p + 18 + t) 7 ∧ I (p + 18 + t) 7 ≤ 3)) = true then I (p + 18 + t) 2 else 0) n))) σ I F)) 4 [.ref p, .int a, .int (sumT (fun t => if (decide (I (p + 18 + t) 8 = a) && decide (1 ≤ I (p + 18 + t) 7 ∧ I (p + 18 + t) 7 ≤ 3)) = true then I (p + 18 + t) 2 else 0) k), .int (nI k)] [] σ I F (0, 0) := by
    refine dn (fun k => PW cX5_busyPeople mX5_busyPeople (fM (qE (some (.int (sumT (fun t => if (decide (I (p + 18 + t) 8 = a) && decide (1 ≤ I (p + 18 + t) 7 ∧ I (p + 18 + t) 7 ≤ 3)) = true then I (p + 18 + t) 2 else 0) n))) σ I F)) 4 [.ref p, .int a, .int (sumT (fun t => if (decide (I (p + 18 + t) 8 = a) && decide (1 ≤ I (p + 18 + t) 7 ∧ I (p + 18 + t) 7 ≤ 3)) = true then I (p + 18 + t) 2 else 0) k), .int (nI k)] [] σ I F (0, 0)) n ?_ ?_
    · skip
      refine pw_iload_n dX5_busyPeople_4 rfl rfl ?_
      refine pw_aload_n dX5_busyPeople_5 rfl rfl ?_
      refine pw_getI dX5_busyPeople_6 fd_RX5_40 (by decide) (pl_k h) rfl ?_
      refine pw_icmp_ge (tgt := 55) dX5_busyPeople_9 (by decide) (fun c_9 => ?_) (fun c_9 => absurd (k_ge hn) c_9)
      refine pw_iload_n dX5_busyPeople_55 rfl rfl ?_
      exact pw_iret dX5_busyPeople_56 rfl ⟨rfl, rfl, rfl, rfl⟩
    · intro k hk ih
      refine pw_iload_n dX5_busyPeople_4 rfl rfl ?_
      refine pw_aload_n dX5_busyPeople_5 rfl rfl ?_
      refine pw_getI dX5_busyPeople_6 fd_RX5_40 (by decide) (pl_k h) rfl ?_
      refine pw_icmp_ge (tgt := 55) dX5_busyPeople_9 (by decide) (fun c_9 => absurd c_9 (k_lt hn hk (by omega))) (fun c_9 => ?_)
      refine pw_aload_n dX5_busyPeople_12 rfl rfl ?_
      refine pw_getR (x := (p + 3)) dX5_busyPeople_13 fd_RX5_25 (by decide) (pl_k h) rfl (pl_rT h) ?_
      refine pw_iload_n dX5_busyPeople_16 rfl rfl ?_
      refine pw_aaldN (j := k) (x := (p + 18 + k)) dX5_busyPeople_17 (pl_kT h) (by omega) (by decide) (by decide) (pl_eT h (by omega)) ?_
      refine pw_getI dX5_busyPeople_18 fd_RX5_124 (by decide) (pl_oT h (by omega)) rfl ?_
      refine pw_iload_n dX5_busyPeople_21 rfl rfl ?_
      refine pw_icmp_ne (tgt := 49) dX5_busyPeople_22 (by decide) (fun c_22 => ?_) (fun c_22 => ?_)
      · refine pw_iinc (v := nI (k + 1)) dX5_busyPeople_49 rfl (nI_add _ _) rfl ?_
        refine pw_goto (tgt := 4) dX5_busyPeople_52 (by decide) ?_
        have hP : (fun t => if (decide (I (p + 18 + t) 8 = a) && decide (1 ≤ I (p + 18 + t) 7 ∧ I (p + 18 + t) 7 ≤ 3)) = true then I (p + 18 + t) 2 else 0) k = 0 := by simp [c_22]
        rw [sum_0 hP] at ih
        exact ih
      · refine pw_aload_n dX5_busyPeople_25 rfl rfl ?_
        refine pw_getR (x := (p + 3)) dX5_busyPeople_26 fd_RX5_25 (by decide) (pl_k h) rfl (pl_rT h) ?_
        refine pw_iload_n dX5_busyPeople_29 rfl rfl ?_
        refine pw_aaldN (j := k) (x := (p + 18 + k)) dX5_busyPeople_30 (pl_kT h) (by omega) (by decide) (by decide) (pl_eT h (by omega)) ?_
        refine pe_callVi dX5_busyPeople_31 oX_X6_tagHangs lk_RX5_200 (sp_T_tagHangs (pl_oT h (by omega))) (pl_oT h (by omega)) rfl rfl (Nat.le_of_ble_eq_true rfl) (by decide) ?_
        refine pw_ifB_eq (tgt := 49) dX5_busyPeople_34 (by decide) (fun c_34 => ?_) (fun c_34 => ?_)
        · refine pw_iinc (v := nI (k + 1)) dX5_busyPeople_49 rfl (nI_add _ _) rfl ?_
          refine pw_goto (tgt := 4) dX5_busyPeople_52 (by decide) ?_
          have hP : (fun t => if (decide (I (p + 18 + t) 8 = a) && decide (1 ≤ I (p + 18 + t) 7 ∧ I (p + 18 + t) 7 ≤ 3)) = true then I (p + 18 + t) 2 else 0) k = 0 := by simp [c_22, c_34]
          rw [sum_0 hP] at ih
          exact ih
        · refine pw_iload_n dX5_busyPeople_37 rfl rfl ?_
          refine pw_aload_n dX5_busyPeople_38 rfl rfl ?_
          refine pw_getR (x := (p + 3)) dX5_busyPeople_39 fd_RX5_25 (by decide) (pl_k h) rfl (pl_rT h) ?_
          refine pw_iload_n dX5_busyPeople_42 rfl rfl ?_
          refine pw_aaldN (j := k) (x := (p + 18 + k)) dX5_busyPeople_43 (pl_kT h) (by omega) (by decide) (by decide) (pl_eT h (by omega)) ?_
          refine pw_getI dX5_busyPeople_44 fd_RX5_195 (by decide) (pl_oT h (by omega)) rfl ?_
          refine pw_iadd dX5_busyPeople_47 ?_
          refine pw_istore_n dX5_busyPeople_48 rfl (by decide) rfl ?_
          refine pw_iinc (v := nI (k + 1)) dX5_busyPeople_49 rfl (nI_add _ _) rfl ?_
          refine pw_goto (tgt := 4) dX5_busyPeople_52 (by decide) ?_
          have hP : (fun t => if (decide (I (p + 18 + t) 8 = a) && decide (1 ≤ I (p + 18 + t) 7 ∧ I (p + 18 + t) 7 ≤ 3)) = true then I (p + 18 + t) 2 else 0) k = I (p + 18 + k) 2 := by simp [c_22, c_34]
          rw [sum_t hP] at ih
          exact ih
  refine pw_iconst (v := 0) dX5_busyPeople_0 (by decide) ?_
  refine pw_istore_n dX5_busyPeople_1 rfl (by decide) rfl ?_
  refine pw_iconst (v := 0) dX5_busyPeople_2 (by decide) ?_
  refine pw_istore_n dX5_busyPeople_3 rfl (by decide) rfl ?_
  exact L4 0 (Nat.zero_le _)

set_option maxRecDepth 4000 in
theorem sp_allBusyPeople {σ : pT} {I : pI} {F : pF} {p n : Nat} (h : isPl σ p) (hn : I p 6 = nI n) (hn4 : n ≤ 24)  : PE yX5_allBusyPeople cX5_allBusyPeople mX5_allBusyPeople [.ref p] σ I F (some (.int (sumT (fun t => if decide (1 ≤ I (p + 18 + t) 7 ∧ I (p + 18 + t) 7 ≤ 3) = true then I (p + 18 + t) 2 else 0) n))) I F := by
  refine PE.of oP_X5_allBusyPeople (catOK rfl) (Nat.le_of_ble_eq_true rfl) ?_
  show PW _ _ _ 0 [.ref p, pJ, pJ] [] _ _ _ _
  have L4 : ∀ k, k ≤ n → PW cX5_allBusyPeople mX5_allBusyPeople (fM (qE (some (.int (sumT (fun t => if decide (1 ≤ I (p + 18 + t) 7 ∧ I (p + 18 + t) 7 ≤ 3) = true then I (p + 18 + t) 2 else 0) n))) σ I F)) 4 [.ref p, .int (sumT (fun t => if decide (1 ≤ I (p + 18 + t) 7 ∧ I (p + 18 + t) 7 ≤ 3) = true then I (p + 18 + t) 2 else 0) k), .int (nI k)] [] σ I F (0, 0) := by
    refine dn (fun k => PW cX5_allBusyPeople mX5_allBusyPeople (fM (qE (some (.int (sumT (fun t => if decide (1 ≤ I (p + 18 + t) 7 ∧ I (p + 18 + t) 7 ≤ 3) = true then I (p + 18 + t) 2 else 0) n))) σ I F)) 4 [.ref p, .int (sumT (fun t => if decide (1 ≤ I (p + 18 + t) 7 ∧ I (p + 18 + t) 7 ≤ 3) = true then I (p + 18 + t) 2 else 0) k), .int (nI k)] [] σ I F (0, 0)) n ?_ ?_
    · skip
      refine pw_iload_n dX5_allBusyPeople_4 rfl rfl ?_
      refine pw_aload_n dX5_allBusyPeople_5 rfl rfl ?_
      refine pw_getI dX5_allBusyPeople_6 fd_RX5_40 (by decide) (pl_k h) rfl ?_
      refine pw_icmp_ge (tgt := 42) dX5_allBusyPeople_9 (by decide) (fun c_9 => ?_) (fun c_9 => absurd (k_ge hn) c_9)
      refine pw_iload_n dX5_allBusyPeople_42 rfl rfl ?_
      exact pw_iret dX5_allBusyPeople_43 rfl ⟨rfl, rfl, rfl, rfl⟩
    · intro k hk ih
      refine pw_iload_n dX5_allBusyPeople_4 rfl rfl ?_
      refine pw_aload_n dX5_allBusyPeople_5 rfl rfl ?_
      refine pw_getI dX5_allBusyPeople_6 fd_RX5_40 (by decide) (pl_k h) rfl ?_
      refine pw_icmp_ge (tgt := 42) dX5_allBusyPeople_9 (by decide) (fun c_9 => absurd c_9 (k_lt hn hk (by omega))) (fun c_9 => ?_)
      refine pw_aload_n dX5_allBusyPeople_12 rfl rfl ?_
      refine pw_getR (x := (p + 3)) dX5_allBusyPeople_13 fd_RX5_25 (by decide) (pl_k h) rfl (pl_rT h) ?_
      refine pw_iload_n dX5_allBusyPeople_16 rfl rfl ?_
      refine pw_aaldN (j := k) (x := (p + 18 + k)) dX5_allBusyPeople_17 (pl_kT h) (by omega) (by decide) (by decide) (pl_eT h (by omega)) ?_
      refine pe_callVi dX5_allBusyPeople_18 oX_X6_tagHangs lk_RX5_200 (sp_T_tagHangs (pl_oT h (by omega))) (pl_oT h (by omega)) rfl rfl (Nat.le_of_ble_eq_true rfl) (by decide) ?_
      refine pw_ifB_eq (tgt := 36) dX5_allBusyPeople_21 (by decide) (fun c_21 => ?_) (fun c_21 => ?_)
      · refine pw_iinc (v := nI (k + 1)) dX5_allBusyPeople_36 rfl (nI_add _ _) rfl ?_
        refine pw_goto (tgt := 4) dX5_allBusyPeople_39 (by decide) ?_
        have hP : (fun t => if decide (1 ≤ I (p + 18 + t) 7 ∧ I (p + 18 + t) 7 ≤ 3) = true then I (p + 18 + t) 2 else 0) k = 0 := by simp [c_21]
        rw [sum_0 hP] at ih
        exact ih
      · refine pw_iload_n dX5_allBusyPeople_24 rfl rfl ?_
        refine pw_aload_n dX5_allBusyPeople_25 rfl rfl ?_
        refine pw_getR (x := (p + 3)) dX5_allBusyPeople_26 fd_RX5_25 (by decide) (pl_k h) rfl (pl_rT h) ?_
        refine pw_iload_n dX5_allBusyPeople_29 rfl rfl ?_
        refine pw_aaldN (j := k) (x := (p + 18 + k)) dX5_allBusyPeople_30 (pl_kT h) (by omega) (by decide) (by decide) (pl_eT h (by omega)) ?_
        refine pw_getI dX5_allBusyPeople_31 fd_RX5_195 (by decide) (pl_oT h (by omega)) rfl ?_
        refine pw_iadd dX5_allBusyPeople_34 ?_
        refine pw_istore_n dX5_allBusyPeople_35 rfl (by decide) rfl ?_
        refine pw_iinc (v := nI (k + 1)) dX5_allBusyPeople_36 rfl (nI_add _ _) rfl ?_
        refine pw_goto (tgt := 4) dX5_allBusyPeople_39 (by decide) ?_
        have hP : (fun t => if decide (1 ≤ I (p + 18 + t) 7 ∧ I (p + 18 + t) 7 ≤ 3) = true then I (p + 18 + t) 2 else 0) k = I (p + 18 + k) 2 := by simp [c_21]
        rw [sum_t hP] at ih
        exact ih
  refine pw_iconst (v := 0) dX5_allBusyPeople_0 (by decide) ?_
  refine pw_istore_n dX5_allBusyPeople_1 rfl (by decide) rfl ?_
  refine pw_iconst (v := 0) dX5_allBusyPeople_2 (by decide) ?_
  refine pw_istore_n dX5_allBusyPeople_3 rfl (by decide) rfl ?_
  exact L4 0 (Nat.zero_le _)

set_option maxRecDepth 4000 in
theorem sp_slipsSoFar {σ : pT} {I : pI} {F : pF} {p n : Nat} (h : isPl σ p) (hn : I p 6 = nI n) (hn4 : n ≤ 24)  : PE yX5_slipsSoFar cX5_slipsSoFar mX5_slipsSoFar [.ref p] σ I F (some (.int (sumT (fun t => I (p + 18 + t) 10) n))) I F := by
  refine PE.of oP_X5_slipsSoFar (catOK rfl) (Nat.le_of_ble_eq_true rfl) ?_
  show PW _ _ _ 0 [.ref p, pJ, pJ] [] _ _ _ _
  have L4 : ∀ k, k ≤ n → PW cX5_slipsSoFar mX5_slipsSoFar (fM (qE (some (.int (sumT (fun t => I (p + 18 + t) 10) n))) σ I F)) 4 [.ref p, .int (sumT (fun t => I (p + 18 + t) 10) k), .int (nI k)] [] σ I F (0, 0) := by
    refine dn (fun k => PW cX5_slipsSoFar mX5_slipsSoFar (fM (qE (some (.int (sumT (fun t => I (p + 18 + t) 10) n))) σ I F)) 4 [.ref p, .int (sumT (fun t => I (p + 18 + t) 10) k), .int (nI k)] [] σ I F (0, 0)) n ?_ ?_
    · skip
      refine pw_iload_n dX5_slipsSoFar_4 rfl rfl ?_
      refine pw_aload_n dX5_slipsSoFar_5 rfl rfl ?_
      refine pw_getI dX5_slipsSoFar_6 fd_RX5_40 (by decide) (pl_k h) rfl ?_
      refine pw_icmp_ge (tgt := 30) dX5_slipsSoFar_9 (by decide) (fun c_9 => ?_) (fun c_9 => absurd (k_ge hn) c_9)
      refine pw_iload_n dX5_slipsSoFar_30 rfl rfl ?_
      exact pw_iret dX5_slipsSoFar_31 rfl ⟨rfl, rfl, rfl, rfl⟩
    · intro k hk ih
      refine pw_iload_n dX5_slipsSoFar_4 rfl rfl ?_
      refine pw_aload_n dX5_slipsSoFar_5 rfl rfl ?_
      refine pw_getI dX5_slipsSoFar_6 fd_RX5_40 (by decide) (pl_k h) rfl ?_
      refine pw_icmp_ge (tgt := 30) dX5_slipsSoFar_9 (by decide) (fun c_9 => absurd c_9 (k_lt hn hk (by omega))) (fun c_9 => ?_)
      refine pw_iload_n dX5_slipsSoFar_12 rfl rfl ?_
      refine pw_aload_n dX5_slipsSoFar_13 rfl rfl ?_
      refine pw_getR (x := (p + 3)) dX5_slipsSoFar_14 fd_RX5_25 (by decide) (pl_k h) rfl (pl_rT h) ?_
      refine pw_iload_n dX5_slipsSoFar_17 rfl rfl ?_
      refine pw_aaldN (j := k) (x := (p + 18 + k)) dX5_slipsSoFar_18 (pl_kT h) (by omega) (by decide) (by decide) (pl_eT h (by omega)) ?_
      refine pw_getI dX5_slipsSoFar_19 fd_RX5_140 (by decide) (pl_oT h (by omega)) rfl ?_
      refine pw_iadd dX5_slipsSoFar_22 ?_
      refine pw_istore_n dX5_slipsSoFar_23 rfl (by decide) rfl ?_
      refine pw_iinc (v := nI (k + 1)) dX5_slipsSoFar_24 rfl (nI_add _ _) rfl ?_
      refine pw_goto (tgt := 4) dX5_slipsSoFar_27 (by decide) ?_
      exact ih
  refine pw_iconst (v := 0) dX5_slipsSoFar_0 (by decide) ?_
  refine pw_istore_n dX5_slipsSoFar_1 rfl (by decide) rfl ?_
  refine pw_iconst (v := 0) dX5_slipsSoFar_2 (by decide) ?_
  refine pw_istore_n dX5_slipsSoFar_3 rfl (by decide) rfl ?_
  exact L4 0 (Nat.zero_le _)
end
section
theorem i_vc : Claimed_1_1 ∧ Claimed_1_2 := sorry
end
