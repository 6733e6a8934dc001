-- ===== PART A: goes FIRST, ahead of the names: the tables' words, and 'selects' of the private methods out of them =====
/-- a private method of a class that the tables say can be made, by its rows of tables_1 -/
def lw_okq (q : MethodName × Nat) : Prop := (q.1.cls ≠ "java/lang/invoke/MethodHandle" ∧ q.1.cls ≠ "java/lang/invoke/VarHandle") ∧ Cond.instantiable q.1.cls q.2 ∈ tables_1 ∧ Cond.privateMethod q.1 ∈ tables_1 ∧ Cond.instanceMethod q.1 ∈ tables_1
theorem lw_p0 : lw_okq (⟨"TagWindows", "recorded", "(I)I"⟩, 6) := ⟨⟨by decide +kernel, by decide +kernel⟩, List.mem_of_getElem? (i := 12) (by decide +kernel), List.mem_of_getElem? (i := 295) (by decide +kernel), List.mem_of_getElem? (i := 296) (by decide +kernel)⟩
theorem lw_p1 : lw_okq (⟨"TagWindows$Plant", "doBar", "(II)Z"⟩, 8) := ⟨⟨by decide +kernel, by decide +kernel⟩, List.mem_of_getElem? (i := 20) (by decide +kernel), List.mem_of_getElem? (i := 334) (by decide +kernel), List.mem_of_getElem? (i := 335) (by decide +kernel)⟩
theorem lw_p2 : lw_okq (⟨"TagWindows$Plant", "isRunning", "(I)Z"⟩, 8) := ⟨⟨by decide +kernel, by decide +kernel⟩, List.mem_of_getElem? (i := 20) (by decide +kernel), List.mem_of_getElem? (i := 410) (by decide +kernel), List.mem_of_getElem? (i := 411) (by decide +kernel)⟩
theorem lw_p3 : lw_okq (⟨"TagWindows$Plant", "canServe", "(ILTagWindows$Task;)Z"⟩, 8) := ⟨⟨by decide +kernel, by decide +kernel⟩, List.mem_of_getElem? (i := 20) (by decide +kernel), List.mem_of_getElem? (i := 414) (by decide +kernel), List.mem_of_getElem? (i := 415) (by decide +kernel)⟩
theorem lw_p4 : lw_okq (⟨"TagWindows$Plant", "areNear", "(II)Z"⟩, 8) := ⟨⟨by decide +kernel, by decide +kernel⟩, List.mem_of_getElem? (i := 20) (by decide +kernel), List.mem_of_getElem? (i := 451) (by decide +kernel), List.mem_of_getElem? (i := 452) (by decide +kernel)⟩
theorem lw_p5 : lw_okq (⟨"TagWindows$Plant", "runAssets", "()V"⟩, 8) := ⟨⟨by decide +kernel, by decide +kernel⟩, List.mem_of_getElem? (i := 20) (by decide +kernel), List.mem_of_getElem? (i := 483) (by decide +kernel), List.mem_of_getElem? (i := 484) (by decide +kernel)⟩
theorem lw_p6 : lw_okq (⟨"TagWindows$Plant", "workOnTasks", "()I"⟩, 8) := ⟨⟨by decide +kernel, by decide +kernel⟩, List.mem_of_getElem? (i := 20) (by decide +kernel), List.mem_of_getElem? (i := 496) (by decide +kernel), List.mem_of_getElem? (i := 497) (by decide +kernel)⟩
theorem lw_p7 : lw_okq (⟨"TagWindows$Plant", "mendAsset", "(I)V"⟩, 8) := ⟨⟨by decide +kernel, by decide +kernel⟩, List.mem_of_getElem? (i := 20) (by decide +kernel), List.mem_of_getElem? (i := 500) (by decide +kernel), List.mem_of_getElem? (i := 501) (by decide +kernel)⟩
theorem lw_p8 : lw_okq (⟨"TagWindows$Plant", "slipTasks", "()V"⟩, 8) := ⟨⟨by decide +kernel, by decide +kernel⟩, List.mem_of_getElem? (i := 20) (by decide +kernel), List.mem_of_getElem? (i := 509) (by decide +kernel), List.mem_of_getElem? (i := 510) (by decide +kernel)⟩
theorem lw_p9 : lw_okq (⟨"TagWindows$Orders", "readOrder", "(LTagWindows$Order;)Z"⟩, 5) := ⟨⟨by decide +kernel, by decide +kernel⟩, List.mem_of_getElem? (i := 195) (by decide +kernel), List.mem_of_getElem? (i := 541) (by decide +kernel), List.mem_of_getElem? (i := 542) (by decide +kernel)⟩
theorem lw_p10 : lw_okq (⟨"TagWindows$Orders", "readNumber", "(LTagWindows$Order;)Z"⟩, 5) := ⟨⟨by decide +kernel, by decide +kernel⟩, List.mem_of_getElem? (i := 195) (by decide +kernel), List.mem_of_getElem? (i := 545) (by decide +kernel), List.mem_of_getElem? (i := 546) (by decide +kernel)⟩
theorem lw_p11 : lw_okq (⟨"TagWindows$Orders", "isAtDigit", "()Z"⟩, 5) := ⟨⟨by decide +kernel, by decide +kernel⟩, List.mem_of_getElem? (i := 195) (by decide +kernel), List.mem_of_getElem? (i := 549) (by decide +kernel), List.mem_of_getElem? (i := 550) (by decide +kernel)⟩
theorem lw_p12 : lw_okq (⟨"TagWindows$Orders", "readDigit", "()I"⟩, 5) := ⟨⟨by decide +kernel, by decide +kernel⟩, List.mem_of_getElem? (i := 195) (by decide +kernel), List.mem_of_getElem? (i := 553) (by decide +kernel), List.mem_of_getElem? (i := 554) (by decide +kernel)⟩
theorem lw_p13 : lw_okq (⟨"TagWindows$Orders", "readSign", "(C)Z"⟩, 5) := ⟨⟨by decide +kernel, by decide +kernel⟩, List.mem_of_getElem? (i := 195) (by decide +kernel), List.mem_of_getElem? (i := 557) (by decide +kernel), List.mem_of_getElem? (i := 558) (by decide +kernel)⟩
theorem lw_p14 : lw_okq (⟨"TagWindows$Orders", "readCrew", "(LTagWindows$Order;)Z"⟩, 5) := ⟨⟨by decide +kernel, by decide +kernel⟩, List.mem_of_getElem? (i := 195) (by decide +kernel), List.mem_of_getElem? (i := 561) (by decide +kernel), List.mem_of_getElem? (i := 562) (by decide +kernel)⟩
theorem lw_p15 : lw_okq (⟨"TagWindows$Orders", "readAsset", "(LTagWindows$Order;)Z"⟩, 5) := ⟨⟨by decide +kernel, by decide +kernel⟩, List.mem_of_getElem? (i := 195) (by decide +kernel), List.mem_of_getElem? (i := 565) (by decide +kernel), List.mem_of_getElem? (i := 566) (by decide +kernel)⟩
def lw_privs_1 : List (MethodName × Nat) := [(⟨"TagWindows", "recorded", "(I)I"⟩, 6), (⟨"TagWindows$Plant", "doBar", "(II)Z"⟩, 8), (⟨"TagWindows$Plant", "isRunning", "(I)Z"⟩, 8), (⟨"TagWindows$Plant", "canServe", "(ILTagWindows$Task;)Z"⟩, 8), (⟨"TagWindows$Plant", "areNear", "(II)Z"⟩, 8), (⟨"TagWindows$Plant", "runAssets", "()V"⟩, 8), (⟨"TagWindows$Plant", "workOnTasks", "()I"⟩, 8), (⟨"TagWindows$Plant", "mendAsset", "(I)V"⟩, 8), (⟨"TagWindows$Plant", "slipTasks", "()V"⟩, 8), (⟨"TagWindows$Orders", "readOrder", "(LTagWindows$Order;)Z"⟩, 5), (⟨"TagWindows$Orders", "readNumber", "(LTagWindows$Order;)Z"⟩, 5), (⟨"TagWindows$Orders", "isAtDigit", "()Z"⟩, 5), (⟨"TagWindows$Orders", "readDigit", "()I"⟩, 5), (⟨"TagWindows$Orders", "readSign", "(C)Z"⟩, 5), (⟨"TagWindows$Orders", "readCrew", "(LTagWindows$Order;)Z"⟩, 5), (⟨"TagWindows$Orders", "readAsset", "(LTagWindows$Order;)Z"⟩, 5)]
theorem lw_r1 : ∀ q ∈ lw_privs_1, lw_okq q := List.forall_mem_cons.mpr ⟨lw_p0, List.forall_mem_cons.mpr ⟨lw_p1, List.forall_mem_cons.mpr ⟨lw_p2, List.forall_mem_cons.mpr ⟨lw_p3, List.forall_mem_cons.mpr ⟨lw_p4, List.forall_mem_cons.mpr ⟨lw_p5, List.forall_mem_cons.mpr ⟨lw_p6, List.forall_mem_cons.mpr ⟨lw_p7, List.forall_mem_cons.mpr ⟨lw_p8, List.forall_mem_cons.mpr ⟨lw_p9, List.forall_mem_cons.mpr ⟨lw_p10, List.forall_mem_cons.mpr ⟨lw_p11, List.forall_mem_cons.mpr ⟨lw_p12, List.forall_mem_cons.mpr ⟨lw_p13, List.forall_mem_cons.mpr ⟨lw_p14, List.forall_mem_cons.mpr ⟨lw_p15, fun _ h => absurd h List.not_mem_nil⟩⟩⟩⟩⟩⟩⟩⟩⟩⟩⟩⟩⟩⟩⟩⟩
theorem lw_p16 : lw_okq (⟨"TagWindows", "follow", "(LTagWindows$Order;)I"⟩, 6) := ⟨⟨by decide +kernel, by decide +kernel⟩, List.mem_of_getElem? (i := 12) (by decide +kernel), List.mem_of_getElem? (i := 569) (by decide +kernel), List.mem_of_getElem? (i := 570) (by decide +kernel)⟩
theorem lw_p17 : lw_okq (⟨"TagWindowsModel", "brings", "(I)V"⟩, 15) := ⟨⟨by decide +kernel, by decide +kernel⟩, List.mem_of_getElem? (i := 667) (by decide +kernel), List.mem_of_getElem? (i := 724) (by decide +kernel), List.mem_of_getElem? (i := 725) (by decide +kernel)⟩
theorem lw_p18 : lw_okq (⟨"TagWindowsModel", "keeps", "(I)V"⟩, 15) := ⟨⟨by decide +kernel, by decide +kernel⟩, List.mem_of_getElem? (i := 667) (by decide +kernel), List.mem_of_getElem? (i := 732) (by decide +kernel), List.mem_of_getElem? (i := 733) (by decide +kernel)⟩
theorem lw_p19 : lw_okq (⟨"TagWindowsModel", "records", "()V"⟩, 15) := ⟨⟨by decide +kernel, by decide +kernel⟩, List.mem_of_getElem? (i := 667) (by decide +kernel), List.mem_of_getElem? (i := 740) (by decide +kernel), List.mem_of_getElem? (i := 741) (by decide +kernel)⟩
theorem lw_p20 : lw_okq (⟨"TagWindowsModel", "recordsTrial", "()V"⟩, 15) := ⟨⟨by decide +kernel, by decide +kernel⟩, List.mem_of_getElem? (i := 667) (by decide +kernel), List.mem_of_getElem? (i := 744) (by decide +kernel), List.mem_of_getElem? (i := 745) (by decide +kernel)⟩
theorem lw_p21 : lw_okq (⟨"TagWindowsModel", "copies", "(II)V"⟩, 15) := ⟨⟨by decide +kernel, by decide +kernel⟩, List.mem_of_getElem? (i := 667) (by decide +kernel), List.mem_of_getElem? (i := 748) (by decide +kernel), List.mem_of_getElem? (i := 749) (by decide +kernel)⟩
theorem lw_p22 : lw_okq (⟨"TagWindowsModel", "sets", "(III)V"⟩, 15) := ⟨⟨by decide +kernel, by decide +kernel⟩, List.mem_of_getElem? (i := 667) (by decide +kernel), List.mem_of_getElem? (i := 759) (by decide +kernel), List.mem_of_getElem? (i := 760) (by decide +kernel)⟩
theorem lw_p23 : lw_okq (⟨"TagWindowsModel", "isAsset", "(I)Z"⟩, 15) := ⟨⟨by decide +kernel, by decide +kernel⟩, List.mem_of_getElem? (i := 667) (by decide +kernel), List.mem_of_getElem? (i := 767) (by decide +kernel), List.mem_of_getElem? (i := 768) (by decide +kernel)⟩
theorem lw_p24 : lw_okq (⟨"TagWindowsModel", "of", "(II)I"⟩, 15) := ⟨⟨by decide +kernel, by decide +kernel⟩, List.mem_of_getElem? (i := 667) (by decide +kernel), List.mem_of_getElem? (i := 771) (by decide +kernel), List.mem_of_getElem? (i := 772) (by decide +kernel)⟩
theorem lw_p25 : lw_okq (⟨"TagWindowsModel", "bars", "(II)Z"⟩, 15) := ⟨⟨by decide +kernel, by decide +kernel⟩, List.mem_of_getElem? (i := 667) (by decide +kernel), List.mem_of_getElem? (i := 782) (by decide +kernel), List.mem_of_getElem? (i := 783) (by decide +kernel)⟩
theorem lw_p26 : lw_okq (⟨"TagWindowsModel", "setsTask", "(III)V"⟩, 15) := ⟨⟨by decide +kernel, by decide +kernel⟩, List.mem_of_getElem? (i := 667) (by decide +kernel), List.mem_of_getElem? (i := 794) (by decide +kernel), List.mem_of_getElem? (i := 795) (by decide +kernel)⟩
theorem lw_p27 : lw_okq (⟨"TagWindowsModel", "runError", "(I)I"⟩, 15) := ⟨⟨by decide +kernel, by decide +kernel⟩, List.mem_of_getElem? (i := 667) (by decide +kernel), List.mem_of_getElem? (i := 802) (by decide +kernel), List.mem_of_getElem? (i := 803) (by decide +kernel)⟩
theorem lw_p28 : lw_okq (⟨"TagWindowsModel", "goes", "(II)I"⟩, 15) := ⟨⟨by decide +kernel, by decide +kernel⟩, List.mem_of_getElem? (i := 667) (by decide +kernel), List.mem_of_getElem? (i := 806) (by decide +kernel), List.mem_of_getElem? (i := 807) (by decide +kernel)⟩
theorem lw_p29 : lw_okq (⟨"TagWindowsModel", "running", "()I"⟩, 15) := ⟨⟨by decide +kernel, by decide +kernel⟩, List.mem_of_getElem? (i := 667) (by decide +kernel), List.mem_of_getElem? (i := 810) (by decide +kernel), List.mem_of_getElem? (i := 811) (by decide +kernel)⟩
theorem lw_p30 : lw_okq (⟨"TagWindowsModel", "stopError", "(I)I"⟩, 15) := ⟨⟨by decide +kernel, by decide +kernel⟩, List.mem_of_getElem? (i := 667) (by decide +kernel), List.mem_of_getElem? (i := 818) (by decide +kernel), List.mem_of_getElem? (i := 819) (by decide +kernel)⟩
theorem lw_p31 : lw_okq (⟨"TagWindowsModel", "hangError", "(II)I"⟩, 15) := ⟨⟨by decide +kernel, by decide +kernel⟩, List.mem_of_getElem? (i := 667) (by decide +kernel), List.mem_of_getElem? (i := 826) (by decide +kernel), List.mem_of_getElem? (i := 827) (by decide +kernel)⟩
def lw_privs_2 : List (MethodName × Nat) := [(⟨"TagWindows", "follow", "(LTagWindows$Order;)I"⟩, 6), (⟨"TagWindowsModel", "brings", "(I)V"⟩, 15), (⟨"TagWindowsModel", "keeps", "(I)V"⟩, 15), (⟨"TagWindowsModel", "records", "()V"⟩, 15), (⟨"TagWindowsModel", "recordsTrial", "()V"⟩, 15), (⟨"TagWindowsModel", "copies", "(II)V"⟩, 15), (⟨"TagWindowsModel", "sets", "(III)V"⟩, 15), (⟨"TagWindowsModel", "isAsset", "(I)Z"⟩, 15), (⟨"TagWindowsModel", "of", "(II)I"⟩, 15), (⟨"TagWindowsModel", "bars", "(II)Z"⟩, 15), (⟨"TagWindowsModel", "setsTask", "(III)V"⟩, 15), (⟨"TagWindowsModel", "runError", "(I)I"⟩, 15), (⟨"TagWindowsModel", "goes", "(II)I"⟩, 15), (⟨"TagWindowsModel", "running", "()I"⟩, 15), (⟨"TagWindowsModel", "stopError", "(I)I"⟩, 15), (⟨"TagWindowsModel", "hangError", "(II)I"⟩, 15)]
theorem lw_r2 : ∀ q ∈ lw_privs_2, lw_okq q := List.forall_mem_cons.mpr ⟨lw_p16, List.forall_mem_cons.mpr ⟨lw_p17, List.forall_mem_cons.mpr ⟨lw_p18, List.forall_mem_cons.mpr ⟨lw_p19, List.forall_mem_cons.mpr ⟨lw_p20, List.forall_mem_cons.mpr ⟨lw_p21, List.forall_mem_cons.mpr ⟨lw_p22, List.forall_mem_cons.mpr ⟨lw_p23, List.forall_mem_cons.mpr ⟨lw_p24, List.forall_mem_cons.mpr ⟨lw_p25, List.forall_mem_cons.mpr ⟨lw_p26, List.forall_mem_cons.mpr ⟨lw_p27, List.forall_mem_cons.mpr ⟨lw_p28, List.forall_mem_cons.mpr ⟨lw_p29, List.forall_mem_cons.mpr ⟨lw_p30, List.forall_mem_cons.mpr ⟨lw_p31, fun _ h => absurd h List.not_mem_nil⟩⟩⟩⟩⟩⟩⟩⟩⟩⟩⟩⟩⟩⟩⟩⟩
theorem lw_p32 : lw_okq (⟨"TagWindowsModel", "isTask", "(I)Z"⟩, 15) := ⟨⟨by decide +kernel, by decide +kernel⟩, List.mem_of_getElem? (i := 667) (by decide +kernel), List.mem_of_getElem? (i := 830) (by decide +kernel), List.mem_of_getElem? (i := 831) (by decide +kernel)⟩
theorem lw_p33 : lw_okq (⟨"TagWindowsModel", "isCrew", "(I)Z"⟩, 15) := ⟨⟨by decide +kernel, by decide +kernel⟩, List.mem_of_getElem? (i := 667) (by decide +kernel), List.mem_of_getElem? (i := 834) (by decide +kernel), List.mem_of_getElem? (i := 835) (by decide +kernel)⟩
theorem lw_p34 : lw_okq (⟨"TagWindowsModel", "stateOf", "(I)I"⟩, 15) := ⟨⟨by decide +kernel, by decide +kernel⟩, List.mem_of_getElem? (i := 667) (by decide +kernel), List.mem_of_getElem? (i := 838) (by decide +kernel), List.mem_of_getElem? (i := 839) (by decide +kernel)⟩
theorem lw_p35 : lw_okq (⟨"TagWindowsModel", "ofTask", "(II)I"⟩, 15) := ⟨⟨by decide +kernel, by decide +kernel⟩, List.mem_of_getElem? (i := 667) (by decide +kernel), List.mem_of_getElem? (i := 842) (by decide +kernel), List.mem_of_getElem? (i := 843) (by decide +kernel)⟩
theorem lw_p36 : lw_okq (⟨"TagWindowsModel", "canHang", "(II)Z"⟩, 15) := ⟨⟨by decide +kernel, by decide +kernel⟩, List.mem_of_getElem? (i := 667) (by decide +kernel), List.mem_of_getElem? (i := 846) (by decide +kernel), List.mem_of_getElem? (i := 847) (by decide +kernel)⟩
theorem lw_p37 : lw_okq (⟨"TagWindowsModel", "busy", "(IZ)I"⟩, 15) := ⟨⟨by decide +kernel, by decide +kernel⟩, List.mem_of_getElem? (i := 667) (by decide +kernel), List.mem_of_getElem? (i := 850) (by decide +kernel), List.mem_of_getElem? (i := 851) (by decide +kernel)⟩
theorem lw_p38 : lw_okq (⟨"TagWindowsModel", "isBusy", "(I)Z"⟩, 15) := ⟨⟨by decide +kernel, by decide +kernel⟩, List.mem_of_getElem? (i := 667) (by decide +kernel), List.mem_of_getElem? (i := 854) (by decide +kernel), List.mem_of_getElem? (i := 855) (by decide +kernel)⟩
theorem lw_p39 : lw_okq (⟨"TagWindowsModel", "hangs", "(II)I"⟩, 15) := ⟨⟨by decide +kernel, by decide +kernel⟩, List.mem_of_getElem? (i := 667) (by decide +kernel), List.mem_of_getElem? (i := 858) (by decide +kernel), List.mem_of_getElem? (i := 859) (by decide +kernel)⟩
theorem lw_p40 : lw_okq (⟨"TagWindowsModel", "beginError", "(I)I"⟩, 15) := ⟨⟨by decide +kernel, by decide +kernel⟩, List.mem_of_getElem? (i := 667) (by decide +kernel), List.mem_of_getElem? (i := 866) (by decide +kernel), List.mem_of_getElem? (i := 867) (by decide +kernel)⟩
theorem lw_p41 : lw_okq (⟨"TagWindowsModel", "reasonOf", "(I)I"⟩, 15) := ⟨⟨by decide +kernel, by decide +kernel⟩, List.mem_of_getElem? (i := 667) (by decide +kernel), List.mem_of_getElem? (i := 870) (by decide +kernel), List.mem_of_getElem? (i := 871) (by decide +kernel)⟩
theorem lw_p42 : lw_okq (⟨"TagWindowsModel", "isTooLate", "(I)Z"⟩, 15) := ⟨⟨by decide +kernel, by decide +kernel⟩, List.mem_of_getElem? (i := 667) (by decide +kernel), List.mem_of_getElem? (i := 874) (by decide +kernel), List.mem_of_getElem? (i := 875) (by decide +kernel)⟩
theorem lw_p43 : lw_okq (⟨"TagWindowsModel", "endOf", "(I)I"⟩, 15) := ⟨⟨by decide +kernel, by decide +kernel⟩, List.mem_of_getElem? (i := 667) (by decide +kernel), List.mem_of_getElem? (i := 878) (by decide +kernel), List.mem_of_getElem? (i := 879) (by decide +kernel)⟩
theorem lw_p44 : lw_okq (⟨"TagWindowsModel", "barredBy", "(I)I"⟩, 15) := ⟨⟨by decide +kernel, by decide +kernel⟩, List.mem_of_getElem? (i := 667) (by decide +kernel), List.mem_of_getElem? (i := 882) (by decide +kernel), List.mem_of_getElem? (i := 883) (by decide +kernel)⟩
theorem lw_p45 : lw_okq (⟨"TagWindowsModel", "begins", "(I)I"⟩, 15) := ⟨⟨by decide +kernel, by decide +kernel⟩, List.mem_of_getElem? (i := 667) (by decide +kernel), List.mem_of_getElem? (i := 886) (by decide +kernel), List.mem_of_getElem? (i := 887) (by decide +kernel)⟩
theorem lw_p46 : lw_okq (⟨"TagWindowsModel", "liftError", "(II)I"⟩, 15) := ⟨⟨by decide +kernel, by decide +kernel⟩, List.mem_of_getElem? (i := 667) (by decide +kernel), List.mem_of_getElem? (i := 894) (by decide +kernel), List.mem_of_getElem? (i := 895) (by decide +kernel)⟩
theorem lw_p47 : lw_okq (⟨"TagWindowsModel", "topOf", "(I)I"⟩, 15) := ⟨⟨by decide +kernel, by decide +kernel⟩, List.mem_of_getElem? (i := 667) (by decide +kernel), List.mem_of_getElem? (i := 898) (by decide +kernel), List.mem_of_getElem? (i := 899) (by decide +kernel)⟩
def lw_privs_3 : List (MethodName × Nat) := [(⟨"TagWindowsModel", "isTask", "(I)Z"⟩, 15), (⟨"TagWindowsModel", "isCrew", "(I)Z"⟩, 15), (⟨"TagWindowsModel", "stateOf", "(I)I"⟩, 15), (⟨"TagWindowsModel", "ofTask", "(II)I"⟩, 15), (⟨"TagWindowsModel", "canHang", "(II)Z"⟩, 15), (⟨"TagWindowsModel", "busy", "(IZ)I"⟩, 15), (⟨"TagWindowsModel", "isBusy", "(I)Z"⟩, 15), (⟨"TagWindowsModel", "hangs", "(II)I"⟩, 15), (⟨"TagWindowsModel", "beginError", "(I)I"⟩, 15), (⟨"TagWindowsModel", "reasonOf", "(I)I"⟩, 15), (⟨"TagWindowsModel", "isTooLate", "(I)Z"⟩, 15), (⟨"TagWindowsModel", "endOf", "(I)I"⟩, 15), (⟨"TagWindowsModel", "barredBy", "(I)I"⟩, 15), (⟨"TagWindowsModel", "begins", "(I)I"⟩, 15), (⟨"TagWindowsModel", "liftError", "(II)I"⟩, 15), (⟨"TagWindowsModel", "topOf", "(I)I"⟩, 15)]
theorem lw_r3 : ∀ q ∈ lw_privs_3, lw_okq q := List.forall_mem_cons.mpr ⟨lw_p32, List.forall_mem_cons.mpr ⟨lw_p33, List.forall_mem_cons.mpr ⟨lw_p34, List.forall_mem_cons.mpr ⟨lw_p35, List.forall_mem_cons.mpr ⟨lw_p36, List.forall_mem_cons.mpr ⟨lw_p37, List.forall_mem_cons.mpr ⟨lw_p38, List.forall_mem_cons.mpr ⟨lw_p39, List.forall_mem_cons.mpr ⟨lw_p40, List.forall_mem_cons.mpr ⟨lw_p41, List.forall_mem_cons.mpr ⟨lw_p42, List.forall_mem_cons.mpr ⟨lw_p43, List.forall_mem_cons.mpr ⟨lw_p44, List.forall_mem_cons.mpr ⟨lw_p45, List.forall_mem_cons.mpr ⟨lw_p46, List.forall_mem_cons.mpr ⟨lw_p47, fun _ h => absurd h List.not_mem_nil⟩⟩⟩⟩⟩⟩⟩⟩⟩⟩⟩⟩⟩⟩⟩⟩
theorem lw_p48 : lw_okq (⟨"TagWindowsModel", "lifts", "(I)I"⟩, 15) := ⟨⟨by decide +kernel, by decide +kernel⟩, List.mem_of_getElem? (i := 667) (by decide +kernel), List.mem_of_getElem? (i := 902) (by decide +kernel), List.mem_of_getElem? (i := 903) (by decide +kernel)⟩
theorem lw_p49 : lw_okq (⟨"TagWindowsModel", "passError", "(I)I"⟩, 15) := ⟨⟨by decide +kernel, by decide +kernel⟩, List.mem_of_getElem? (i := 667) (by decide +kernel), List.mem_of_getElem? (i := 914) (by decide +kernel), List.mem_of_getElem? (i := 915) (by decide +kernel)⟩
theorem lw_p50 : lw_okq (⟨"TagWindowsModel", "passes", "(I)I"⟩, 15) := ⟨⟨by decide +kernel, by decide +kernel⟩, List.mem_of_getElem? (i := 667) (by decide +kernel), List.mem_of_getElem? (i := 918) (by decide +kernel), List.mem_of_getElem? (i := 919) (by decide +kernel)⟩
theorem lw_p51 : lw_okq (⟨"TagWindowsModel", "passesHour", "()I"⟩, 15) := ⟨⟨by decide +kernel, by decide +kernel⟩, List.mem_of_getElem? (i := 667) (by decide +kernel), List.mem_of_getElem? (i := 922) (by decide +kernel), List.mem_of_getElem? (i := 923) (by decide +kernel)⟩
theorem lw_p52 : lw_okq (⟨"TagWindowsModel", "runsHour", "(I)V"⟩, 15) := ⟨⟨by decide +kernel, by decide +kernel⟩, List.mem_of_getElem? (i := 667) (by decide +kernel), List.mem_of_getElem? (i := 926) (by decide +kernel), List.mem_of_getElem? (i := 927) (by decide +kernel)⟩
theorem lw_p53 : lw_okq (⟨"TagWindowsModel", "worn", "(IF)F"⟩, 15) := ⟨⟨by decide +kernel, by decide +kernel⟩, List.mem_of_getElem? (i := 667) (by decide +kernel), List.mem_of_getElem? (i := 930) (by decide +kernel), List.mem_of_getElem? (i := 931) (by decide +kernel)⟩
theorem lw_p54 : lw_okq (⟨"TagWindowsModel", "slips", "(I)V"⟩, 15) := ⟨⟨by decide +kernel, by decide +kernel⟩, List.mem_of_getElem? (i := 667) (by decide +kernel), List.mem_of_getElem? (i := 937) (by decide +kernel), List.mem_of_getElem? (i := 938) (by decide +kernel)⟩
theorem lw_p55 : lw_okq (⟨"TagWindowsModel", "faultOf", "()I"⟩, 15) := ⟨⟨by decide +kernel, by decide +kernel⟩, List.mem_of_getElem? (i := 667) (by decide +kernel), List.mem_of_getElem? (i := 953) (by decide +kernel), List.mem_of_getElem? (i := 954) (by decide +kernel)⟩
theorem lw_p56 : lw_okq (⟨"TagWindowsModel", "passesOrder", "()Z"⟩, 15) := ⟨⟨by decide +kernel, by decide +kernel⟩, List.mem_of_getElem? (i := 667) (by decide +kernel), List.mem_of_getElem? (i := 957) (by decide +kernel), List.mem_of_getElem? (i := 958) (by decide +kernel)⟩
theorem lw_p57 : lw_okq (⟨"TagWindowsModel", "passesNumber", "(I)Z"⟩, 15) := ⟨⟨by decide +kernel, by decide +kernel⟩, List.mem_of_getElem? (i := 667) (by decide +kernel), List.mem_of_getElem? (i := 961) (by decide +kernel), List.mem_of_getElem? (i := 962) (by decide +kernel)⟩
theorem lw_p58 : lw_okq (⟨"TagWindowsModel", "isHere", "(II)Z"⟩, 15) := ⟨⟨by decide +kernel, by decide +kernel⟩, List.mem_of_getElem? (i := 667) (by decide +kernel), List.mem_of_getElem? (i := 965) (by decide +kernel), List.mem_of_getElem? (i := 966) (by decide +kernel)⟩
theorem lw_p59 : lw_okq (⟨"TagWindowsModel", "passesSign", "(I)Z"⟩, 15) := ⟨⟨by decide +kernel, by decide +kernel⟩, List.mem_of_getElem? (i := 667) (by decide +kernel), List.mem_of_getElem? (i := 969) (by decide +kernel), List.mem_of_getElem? (i := 970) (by decide +kernel)⟩
theorem lw_p60 : lw_okq (⟨"TagWindowsModel", "orderError", "()I"⟩, 15) := ⟨⟨by decide +kernel, by decide +kernel⟩, List.mem_of_getElem? (i := 667) (by decide +kernel), List.mem_of_getElem? (i := 973) (by decide +kernel), List.mem_of_getElem? (i := 974) (by decide +kernel)⟩
theorem lw_p61 : lw_okq (⟨"TagWindowsModel", "does", "()I"⟩, 15) := ⟨⟨by decide +kernel, by decide +kernel⟩, List.mem_of_getElem? (i := 667) (by decide +kernel), List.mem_of_getElem? (i := 977) (by decide +kernel), List.mem_of_getElem? (i := 978) (by decide +kernel)⟩
theorem lw_p62 : lw_okq (⟨"TagWindowsModel", "tasksAt", "(III)I"⟩, 15) := ⟨⟨by decide +kernel, by decide +kernel⟩, List.mem_of_getElem? (i := 667) (by decide +kernel), List.mem_of_getElem? (i := 999) (by decide +kernel), List.mem_of_getElem? (i := 1000) (by decide +kernel)⟩
theorem lw_p63 : lw_okq (⟨"TagWindowsModel", "doneBy", "(I)I"⟩, 15) := ⟨⟨by decide +kernel, by decide +kernel⟩, List.mem_of_getElem? (i := 667) (by decide +kernel), List.mem_of_getElem? (i := 1011) (by decide +kernel), List.mem_of_getElem? (i := 1012) (by decide +kernel)⟩
def lw_privs_4 : List (MethodName × Nat) := [(⟨"TagWindowsModel", "lifts", "(I)I"⟩, 15), (⟨"TagWindowsModel", "passError", "(I)I"⟩, 15), (⟨"TagWindowsModel", "passes", "(I)I"⟩, 15), (⟨"TagWindowsModel", "passesHour", "()I"⟩, 15), (⟨"TagWindowsModel", "runsHour", "(I)V"⟩, 15), (⟨"TagWindowsModel", "worn", "(IF)F"⟩, 15), (⟨"TagWindowsModel", "slips", "(I)V"⟩, 15), (⟨"TagWindowsModel", "faultOf", "()I"⟩, 15), (⟨"TagWindowsModel", "passesOrder", "()Z"⟩, 15), (⟨"TagWindowsModel", "passesNumber", "(I)Z"⟩, 15), (⟨"TagWindowsModel", "isHere", "(II)Z"⟩, 15), (⟨"TagWindowsModel", "passesSign", "(I)Z"⟩, 15), (⟨"TagWindowsModel", "orderError", "()I"⟩, 15), (⟨"TagWindowsModel", "does", "()I"⟩, 15), (⟨"TagWindowsModel", "tasksAt", "(III)I"⟩, 15), (⟨"TagWindowsModel", "doneBy", "(I)I"⟩, 15)]
theorem lw_r4 : ∀ q ∈ lw_privs_4, lw_okq q := List.forall_mem_cons.mpr ⟨lw_p48, List.forall_mem_cons.mpr ⟨lw_p49, List.forall_mem_cons.mpr ⟨lw_p50, List.forall_mem_cons.mpr ⟨lw_p51, List.forall_mem_cons.mpr ⟨lw_p52, List.forall_mem_cons.mpr ⟨lw_p53, List.forall_mem_cons.mpr ⟨lw_p54, List.forall_mem_cons.mpr ⟨lw_p55, List.forall_mem_cons.mpr ⟨lw_p56, List.forall_mem_cons.mpr ⟨lw_p57, List.forall_mem_cons.mpr ⟨lw_p58, List.forall_mem_cons.mpr ⟨lw_p59, List.forall_mem_cons.mpr ⟨lw_p60, List.forall_mem_cons.mpr ⟨lw_p61, List.forall_mem_cons.mpr ⟨lw_p62, List.forall_mem_cons.mpr ⟨lw_p63, fun _ h => absurd h List.not_mem_nil⟩⟩⟩⟩⟩⟩⟩⟩⟩⟩⟩⟩⟩⟩⟩⟩
theorem lw_p64 : lw_okq (⟨"TagWindowsModel", "inState", "(I)I"⟩, 15) := ⟨⟨by decide +kernel, by decide +kernel⟩, List.mem_of_getElem? (i := 667) (by decide +kernel), List.mem_of_getElem? (i := 1027) (by decide +kernel), List.mem_of_getElem? (i := 1028) (by decide +kernel)⟩
theorem lw_p65 : lw_okq (⟨"TagWindowsModel", "tags", "()I"⟩, 15) := ⟨⟨by decide +kernel, by decide +kernel⟩, List.mem_of_getElem? (i := 667) (by decide +kernel), List.mem_of_getElem? (i := 1031) (by decide +kernel), List.mem_of_getElem? (i := 1032) (by decide +kernel)⟩
theorem lw_p66 : lw_okq (⟨"TagWindowsModel", "allSlips", "()I"⟩, 15) := ⟨⟨by decide +kernel, by decide +kernel⟩, List.mem_of_getElem? (i := 667) (by decide +kernel), List.mem_of_getElem? (i := 1035) (by decide +kernel), List.mem_of_getElem? (i := 1036) (by decide +kernel)⟩
theorem lw_p67 : lw_okq (⟨"TagWindowsModel", "allBusy", "()I"⟩, 15) := ⟨⟨by decide +kernel, by decide +kernel⟩, List.mem_of_getElem? (i := 667) (by decide +kernel), List.mem_of_getElem? (i := 1039) (by decide +kernel), List.mem_of_getElem? (i := 1040) (by decide +kernel)⟩
def lw_privs_5 : List (MethodName × Nat) := [(⟨"TagWindowsModel", "inState", "(I)I"⟩, 15), (⟨"TagWindowsModel", "tags", "()I"⟩, 15), (⟨"TagWindowsModel", "allSlips", "()I"⟩, 15), (⟨"TagWindowsModel", "allBusy", "()I"⟩, 15)]
theorem lw_r5 : ∀ q ∈ lw_privs_5, lw_okq q := List.forall_mem_cons.mpr ⟨lw_p64, List.forall_mem_cons.mpr ⟨lw_p65, List.forall_mem_cons.mpr ⟨lw_p66, List.forall_mem_cons.mpr ⟨lw_p67, fun _ h => absurd h List.not_mem_nil⟩⟩⟩⟩
def lw_privs : List (MethodName × Nat) := lw_privs_1 ++ (lw_privs_2 ++ (lw_privs_3 ++ (lw_privs_4 ++ (lw_privs_5))))
def lw_tbl : List Cond := k2_sels lw_privs ++ tables_1
theorem lw_privs_ok : ∀ q ∈ lw_privs, lw_okq q := by
  show ∀ q ∈ lw_privs_1 ++ (lw_privs_2 ++ (lw_privs_3 ++ (lw_privs_4 ++ (lw_privs_5)))), lw_okq q
  exact List.forall_mem_append.mpr ⟨lw_r1, List.forall_mem_append.mpr ⟨lw_r2, List.forall_mem_append.mpr ⟨lw_r3, List.forall_mem_append.mpr ⟨lw_r4, lw_r5⟩⟩⟩⟩
/-- the streams that the claim lets the run draw from -/
abbrev lw_cs : List Choice := [Jvm.Choice.named "NaN.bits"]
theorem lw_bits : nanBits ∈ lw_cs := by first | decide | exact List.mem_cons_self | simp [lw_cs, nanBits]
-- ===== end of PART A; then your names; then what follows =====
/-! ===== BEGIN words of one list among another's, by their places ===== -/
theorem goodIn_r {big : List Cond} (ws : List Cond) (ps : List Nat) (hp : ws = ps.filterMap (fun i => big[i]?)) (h : ws.all goodWord = true) : GoodIn big ws := by
  intro w hw
  have h1 := List.all_eq_true.mp h w hw
  rw [hp] at hw
  obtain ⟨i, -, hi⟩ := List.mem_filterMap.mp hw
  have hm : w ∈ big := by first | exact List.mem_of_getElem? hi | exact List.getElem?_mem hi
  exact ⟨hm, good_of_word h1⟩
theorem goodIn_app {big a b : List Cond} (ha : GoodIn big a) (hb : GoodIn big b) : GoodIn big (a ++ b) := fun w h => (List.mem_append.mp h).elim (ha w) (hb w)
theorem goodIn_ca {big a b : List Cond} {c : Cond} (ha : GoodIn big (c :: a)) (hb : GoodIn big b) : GoodIn big (c :: (a ++ b)) := fun w h => (List.mem_cons.mp h).elim (fun e => ha w (List.mem_cons.mpr (Or.inl e))) (fun h => (List.mem_append.mp h).elim (fun h => ha w (List.mem_cons.mpr (Or.inr h))) (hb w))
theorem goodIn_sub {big ws : List Cond} (hm : ∀ w ∈ ws, w ∈ big) (h : ws.all goodWord = true) : GoodIn big ws := fun w hw => ⟨hm w hw, good_of_word (List.all_eq_true.mp h w hw)⟩
/-! ===== END ===== -/

/-! ===== BEGIN printed: names, fields, word lists, decode rows ===== -/
def RX0 : String := "TagWindows$Asset"
def TX0 : u_T := fun k => match k with
  | 0 => ("TagWindows$Asset", "rate", "I", false)
  | 1 => ("TagWindows$Asset", "wear", "F", false)
  | 2 => ("TagWindows$Asset", "health", "F", false)
  | 3 => ("TagWindows$Asset", "output", "F", false)
  | 4 => ("TagWindows$Asset", "runs", "Z", false)
  | _ => ("TagWindows$Asset", "links", "I", false)
def tyX0 : Nat → FieldType := fun k => match k with
  | 0 => .int
  | 1 => .float
  | 2 => .float
  | 3 => .float
  | 4 => .boolean
  | _ => .int
abbrev wsX00 : List Cond := u_ws RX0 TX0 6
theorem nmX0 : ∀ a, a < 6 → ∀ b, b < 6 → a ≠ b → (TX0 a).2.1 ≠ (TX0 b).2.1 := by decide +kernel
theorem tyX0_ok : ∀ k, k < 6 → parseFieldDescriptor (TX0 k).2.2.1 = some (tyX0 k) := by decide +kernel
abbrev cX0_init : ByteArray := prog_2_method_1_code
def yX0_init : MethodName := ⟨RX0, "<init>", "()V"⟩
abbrev cX0_setUp : ByteArray := prog_2_method_2_code
def yX0_setUp : MethodName := ⟨RX0, "setUp", "(II)V"⟩
abbrev cX0_copyFrom : ByteArray := prog_2_method_3_code
def yX0_copyFrom : MethodName := ⟨RX0, "copyFrom", "(LTagWindows$Asset;)V"⟩
abbrev cX0_isLinkedTo : ByteArray := prog_2_method_4_code
def yX0_isLinkedTo : MethodName := ⟨RX0, "isLinkedTo", "(I)Z"⟩
abbrev cX0_runForAnHour : ByteArray := prog_2_method_5_code
def yX0_runForAnHour : MethodName := ⟨RX0, "runForAnHour", "()V"⟩
abbrev cX0_mend : ByteArray := prog_2_method_6_code
def yX0_mend : MethodName := ⟨RX0, "mend", "()V"⟩
abbrev cX0_afterAnHour : ByteArray := prog_2_method_7_code
def yX0_afterAnHour : MethodName := ⟨RX0, "afterAnHour", "(F)F"⟩
abbrev cX0_healthAfter : ByteArray := prog_2_method_8_code
def yX0_healthAfter : MethodName := ⟨RX0, "healthAfter", "(I)F"⟩
abbrev cX0_hoursUntilBelow : ByteArray := prog_2_method_9_code
def yX0_hoursUntilBelow : MethodName := ⟨RX0, "hoursUntilBelow", "(F)I"⟩
def RX1 : String := "TagWindows$Crew"
def TX1 : u_T := fun k => match k with
  | 0 => ("TagWindows$Crew", "people", "I", false)
  | _ => ("TagWindows$Crew", "skills", "I", false)
def tyX1 : Nat → FieldType := fun k => match k with
  | 0 => .int
  | _ => .int
abbrev wsX10 : List Cond := u_ws RX1 TX1 2
theorem nmX1 : ∀ a, a < 2 → ∀ b, b < 2 → a ≠ b → (TX1 a).2.1 ≠ (TX1 b).2.1 := by decide +kernel
theorem tyX1_ok : ∀ k, k < 2 → parseFieldDescriptor (TX1 k).2.2.1 = some (tyX1 k) := by decide +kernel
abbrev cX1_init : ByteArray := prog_3_method_1_code
def yX1_init : MethodName := ⟨RX1, "<init>", "()V"⟩
abbrev cX1_setUp : ByteArray := prog_3_method_2_code
def yX1_setUp : MethodName := ⟨RX1, "setUp", "(II)V"⟩
abbrev cX1_copyFrom : ByteArray := prog_3_method_3_code
def yX1_copyFrom : MethodName := ⟨RX1, "copyFrom", "(LTagWindows$Crew;)V"⟩
abbrev cX1_has : ByteArray := prog_3_method_4_code
def yX1_has : MethodName := ⟨RX1, "has", "(I)Z"⟩
def RX2 : String := "TagWindows$History"
def TX2 : u_T := fun k => match k with
  | 0 => ("TagWindows$History", "states", "[LTagWindows$Plant;", true)
  | 1 => ("TagWindows$History", "oldest", "I", false)
  | _ => ("TagWindows$History", "size", "I", false)
def tyX2 : Nat → FieldType := fun k => match k with
  | 0 => .array (.object "TagWindows$Plant")
  | 1 => .int
  | _ => .int
abbrev wsX20 : List Cond := u_ws RX2 TX2 3
theorem nmX2 : ∀ a, a < 3 → ∀ b, b < 3 → a ≠ b → (TX2 a).2.1 ≠ (TX2 b).2.1 := by decide +kernel
theorem tyX2_ok : ∀ k, k < 3 → parseFieldDescriptor (TX2 k).2.2.1 = some (tyX2 k) := by decide +kernel
abbrev cX2_init : ByteArray := prog_4_method_1_code
def yX2_init : MethodName := ⟨RX2, "<init>", "()V"⟩
abbrev cX2_add : ByteArray := prog_4_method_2_code
def yX2_add : MethodName := ⟨RX2, "add", "(LTagWindows$Plant;)V"⟩
abbrev cX2_takeBack : ByteArray := prog_4_method_3_code
def yX2_takeBack : MethodName := ⟨RX2, "takeBack", "(LTagWindows$Plant;)I"⟩
def RX3 : String := "TagWindows$Order"
def TX3 : u_T := fun k => match k with
  | 0 => ("TagWindows$Order", "verb", "C", false)
  | 1 => ("TagWindows$Order", "number", "I", false)
  | _ => ("TagWindows$Order", "crew", "I", false)
def tyX3 : Nat → FieldType := fun k => match k with
  | 0 => .char
  | 1 => .int
  | _ => .int
abbrev wsX30 : List Cond := u_ws RX3 TX3 3
theorem nmX3 : ∀ a, a < 3 → ∀ b, b < 3 → a ≠ b → (TX3 a).2.1 ≠ (TX3 b).2.1 := by decide +kernel
theorem tyX3_ok : ∀ k, k < 3 → parseFieldDescriptor (TX3 k).2.2.1 = some (tyX3 k) := by decide +kernel
abbrev cX3_init : ByteArray := prog_5_method_1_code
def yX3_init : MethodName := ⟨RX3, "<init>", "()V"⟩
def RX4 : String := "TagWindows$Orders"
def TX4 : u_T := fun k => match k with
  | 0 => ("TagWindows$Orders", "text", "[C", true)
  | 1 => ("TagWindows$Orders", "length", "I", false)
  | 2 => ("TagWindows$Orders", "rows", "[LTagWindows$Order;", true)
  | 3 => ("TagWindows$Orders", "count", "I", false)
  | _ => ("TagWindows$Orders", "at", "I", false)
def tyX4 : Nat → FieldType := fun k => match k with
  | 0 => .array .char
  | 1 => .int
  | 2 => .array (.object "TagWindows$Order")
  | 3 => .int
  | _ => .int
abbrev wsX40 : List Cond := u_ws RX4 TX4 5
theorem nmX4 : ∀ a, a < 5 → ∀ b, b < 5 → a ≠ b → (TX4 a).2.1 ≠ (TX4 b).2.1 := by decide +kernel
theorem tyX4_ok : ∀ k, k < 5 → parseFieldDescriptor (TX4 k).2.2.1 = some (tyX4 k) := by decide +kernel
abbrev cX4_init : ByteArray := prog_6_method_1_code
def yX4_init : MethodName := ⟨RX4, "<init>", "()V"⟩
abbrev cX4_append : ByteArray := prog_6_method_2_code
def yX4_append : MethodName := ⟨RX4, "append", "(C)I"⟩
abbrev cX4_clear : ByteArray := prog_6_method_3_code
def yX4_clear : MethodName := ⟨RX4, "clear", "()I"⟩
abbrev cX4_read : ByteArray := prog_6_method_4_code
def yX4_read : MethodName := ⟨RX4, "read", "()I"⟩
abbrev cX4_readOrder : ByteArray := prog_6_method_5_code
def yX4_readOrder : MethodName := ⟨RX4, "readOrder", "(LTagWindows$Order;)Z"⟩
abbrev cX4_readNumber : ByteArray := prog_6_method_6_code
def yX4_readNumber : MethodName := ⟨RX4, "readNumber", "(LTagWindows$Order;)Z"⟩
abbrev cX4_readAsset : ByteArray := prog_6_method_7_code
def yX4_readAsset : MethodName := ⟨RX4, "readAsset", "(LTagWindows$Order;)Z"⟩
abbrev cX4_readCrew : ByteArray := prog_6_method_8_code
def yX4_readCrew : MethodName := ⟨RX4, "readCrew", "(LTagWindows$Order;)Z"⟩
abbrev cX4_readSign : ByteArray := prog_6_method_9_code
def yX4_readSign : MethodName := ⟨RX4, "readSign", "(C)Z"⟩
abbrev cX4_isAtDigit : ByteArray := prog_6_method_10_code
def yX4_isAtDigit : MethodName := ⟨RX4, "isAtDigit", "()Z"⟩
abbrev cX4_readDigit : ByteArray := prog_6_method_11_code
def yX4_readDigit : MethodName := ⟨RX4, "readDigit", "()I"⟩
def RX5 : String := "TagWindows$Plant"
def TX5 : u_T := fun k => match k with
  | 0 => ("TagWindows$Plant", "assets", "[LTagWindows$Asset;", true)
  | 1 => ("TagWindows$Plant", "crews", "[LTagWindows$Crew;", true)
  | 2 => ("TagWindows$Plant", "tasks", "[LTagWindows$Task;", true)
  | 3 => ("TagWindows$Plant", "bars", "[I", true)
  | 4 => ("TagWindows$Plant", "assetCount", "I", false)
  | 5 => ("TagWindows$Plant", "crewCount", "I", false)
  | 6 => ("TagWindows$Plant", "taskCount", "I", false)
  | _ => ("TagWindows$Plant", "hour", "I", false)
def tyX5 : Nat → FieldType := fun k => match k with
  | 0 => .array (.object "TagWindows$Asset")
  | 1 => .array (.object "TagWindows$Crew")
  | 2 => .array (.object "TagWindows$Task")
  | 3 => .array .int
  | 4 => .int
  | 5 => .int
  | 6 => .int
  | _ => .int
abbrev wsX50 : List Cond := u_ws RX5 TX5 8
theorem nmX5 : ∀ a, a < 8 → ∀ b, b < 8 → a ≠ b → (TX5 a).2.1 ≠ (TX5 b).2.1 := by decide +kernel
theorem tyX5_ok : ∀ k, k < 8 → parseFieldDescriptor (TX5 k).2.2.1 = some (tyX5 k) := by decide +kernel
abbrev cX5_init : ByteArray := prog_7_method_1_code
def yX5_init : MethodName := ⟨RX5, "<init>", "()V"⟩
abbrev cX5_copyFrom : ByteArray := prog_7_method_2_code
def yX5_copyFrom : MethodName := ⟨RX5, "copyFrom", "(LTagWindows$Plant;)V"⟩
abbrev cX5_hasAsset : ByteArray := prog_7_method_3_code
def yX5_hasAsset : MethodName := ⟨RX5, "hasAsset", "(I)Z"⟩
abbrev cX5_hasCrew : ByteArray := prog_7_method_4_code
def yX5_hasCrew : MethodName := ⟨RX5, "hasCrew", "(I)Z"⟩
abbrev cX5_hasTask : ByteArray := prog_7_method_5_code
def yX5_hasTask : MethodName := ⟨RX5, "hasTask", "(I)Z"⟩
abbrev cX5_newAsset : ByteArray := prog_7_method_6_code
def yX5_newAsset : MethodName := ⟨RX5, "newAsset", "(II)I"⟩
abbrev cX5_setLink : ByteArray := prog_7_method_7_code
def yX5_setLink : MethodName := ⟨RX5, "setLink", "(IIZ)I"⟩
abbrev cX5_setBar : ByteArray := prog_7_method_8_code
def yX5_setBar : MethodName := ⟨RX5, "setBar", "(IIZ)I"⟩
abbrev cX5_newCrew : ByteArray := prog_7_method_9_code
def yX5_newCrew : MethodName := ⟨RX5, "newCrew", "(II)I"⟩
abbrev cX5_newTask : ByteArray := prog_7_method_10_code
def yX5_newTask : MethodName := ⟨RX5, "newTask", "(IIIIII)I"⟩
abbrev cX5_startAsset : ByteArray := prog_7_method_11_code
def yX5_startAsset : MethodName := ⟨RX5, "startAsset", "(I)I"⟩
abbrev cX5_stopAsset : ByteArray := prog_7_method_12_code
def yX5_stopAsset : MethodName := ⟨RX5, "stopAsset", "(I)I"⟩
abbrev cX5_hangTag : ByteArray := prog_7_method_13_code
def yX5_hangTag : MethodName := ⟨RX5, "hangTag", "(II)I"⟩
abbrev cX5_beginTask : ByteArray := prog_7_method_14_code
def yX5_beginTask : MethodName := ⟨RX5, "beginTask", "(I)I"⟩
abbrev cX5_liftTag : ByteArray := prog_7_method_15_code
def yX5_liftTag : MethodName := ⟨RX5, "liftTag", "(II)I"⟩
abbrev cX5_cancelTask : ByteArray := prog_7_method_16_code
def yX5_cancelTask : MethodName := ⟨RX5, "cancelTask", "(I)I"⟩
abbrev cX5_passHours : ByteArray := prog_7_method_17_code
def yX5_passHours : MethodName := ⟨RX5, "passHours", "(I)I"⟩
abbrev cX5_runAssets : ByteArray := prog_7_method_18_code
def yX5_runAssets : MethodName := ⟨RX5, "runAssets", "()V"⟩
abbrev cX5_workOnTasks : ByteArray := prog_7_method_19_code
def yX5_workOnTasks : MethodName := ⟨RX5, "workOnTasks", "()I"⟩
abbrev cX5_mendAsset : ByteArray := prog_7_method_20_code
def yX5_mendAsset : MethodName := ⟨RX5, "mendAsset", "(I)V"⟩
abbrev cX5_slipTasks : ByteArray := prog_7_method_21_code
def yX5_slipTasks : MethodName := ⟨RX5, "slipTasks", "()V"⟩
abbrev cX5_reasonAgainst : ByteArray := prog_7_method_22_code
def yX5_reasonAgainst : MethodName := ⟨RX5, "reasonAgainst", "(I)I"⟩
abbrev cX5_barrierOf : ByteArray := prog_7_method_23_code
def yX5_barrierOf : MethodName := ⟨RX5, "barrierOf", "(I)I"⟩
abbrev cX5_doBar : ByteArray := prog_7_method_24_code
def yX5_doBar : MethodName := ⟨RX5, "doBar", "(II)Z"⟩
abbrev cX5_areNear : ByteArray := prog_7_method_25_code
def yX5_areNear : MethodName := ⟨RX5, "areNear", "(II)Z"⟩
abbrev cX5_isRunning : ByteArray := prog_7_method_26_code
def yX5_isRunning : MethodName := ⟨RX5, "isRunning", "(I)Z"⟩
abbrev cX5_canServe : ByteArray := prog_7_method_27_code
def yX5_canServe : MethodName := ⟨RX5, "canServe", "(ILTagWindows$Task;)Z"⟩
abbrev cX5_firstCrewFor : ByteArray := prog_7_method_28_code
def yX5_firstCrewFor : MethodName := ⟨RX5, "firstCrewFor", "(I)I"⟩
abbrev cX5_tagsHanging : ByteArray := prog_7_method_29_code
def yX5_tagsHanging : MethodName := ⟨RX5, "tagsHanging", "(I)I"⟩
abbrev cX5_taskOfTag : ByteArray := prog_7_method_30_code
def yX5_taskOfTag : MethodName := ⟨RX5, "taskOfTag", "(II)I"⟩
abbrev cX5_tasksOfAsset : ByteArray := prog_7_method_31_code
def yX5_tasksOfAsset : MethodName := ⟨RX5, "tasksOfAsset", "(III)I"⟩
abbrev cX5_tasksOfCrew : ByteArray := prog_7_method_32_code
def yX5_tasksOfCrew : MethodName := ⟨RX5, "tasksOfCrew", "(III)I"⟩
abbrev cX5_tasksIn : ByteArray := prog_7_method_33_code
def yX5_tasksIn : MethodName := ⟨RX5, "tasksIn", "(II)I"⟩
abbrev cX5_busyPeople : ByteArray := prog_7_method_34_code
def yX5_busyPeople : MethodName := ⟨RX5, "busyPeople", "(I)I"⟩
abbrev cX5_allBusyPeople : ByteArray := prog_7_method_35_code
def yX5_allBusyPeople : MethodName := ⟨RX5, "allBusyPeople", "()I"⟩
abbrev cX5_assetsRunning : ByteArray := prog_7_method_36_code
def yX5_assetsRunning : MethodName := ⟨RX5, "assetsRunning", "()I"⟩
abbrev cX5_slipsSoFar : ByteArray := prog_7_method_37_code
def yX5_slipsSoFar : MethodName := ⟨RX5, "slipsSoFar", "()I"⟩
def RX6 : String := "TagWindows$Task"
def TX6 : u_T := fun k => match k with
  | 0 => ("TagWindows$Task", "asset", "I", false)
  | 1 => ("TagWindows$Task", "skill", "I", false)
  | 2 => ("TagWindows$Task", "people", "I", false)
  | 3 => ("TagWindows$Task", "kind", "I", false)
  | 4 => ("TagWindows$Task", "hours", "I", false)
  | 5 => ("TagWindows$Task", "from", "I", false)
  | 6 => ("TagWindows$Task", "end", "I", false)
  | 7 => ("TagWindows$Task", "state", "I", false)
  | 8 => ("TagWindows$Task", "crew", "I", false)
  | 9 => ("TagWindows$Task", "left", "I", false)
  | 10 => ("TagWindows$Task", "slips", "I", false)
  | _ => ("TagWindows$Task", "height", "I", false)
def tyX6 : Nat → FieldType := fun k => match k with
  | 0 => .int
  | 1 => .int
  | 2 => .int
  | 3 => .int
  | 4 => .int
  | 5 => .int
  | 6 => .int
  | 7 => .int
  | 8 => .int
  | 9 => .int
  | 10 => .int
  | _ => .int
abbrev wsX60 : List Cond := u_ws RX6 TX6 12
theorem nmX6 : ∀ a, a < 12 → ∀ b, b < 12 → a ≠ b → (TX6 a).2.1 ≠ (TX6 b).2.1 := by decide +kernel
theorem tyX6_ok : ∀ k, k < 12 → parseFieldDescriptor (TX6 k).2.2.1 = some (tyX6 k) := by decide +kernel
abbrev cX6_init : ByteArray := prog_8_method_1_code
def yX6_init : MethodName := ⟨RX6, "<init>", "()V"⟩
abbrev cX6_setUp : ByteArray := prog_8_method_2_code
def yX6_setUp : MethodName := ⟨RX6, "setUp", "(IIIIII)V"⟩
abbrev cX6_copyFrom : ByteArray := prog_8_method_3_code
def yX6_copyFrom : MethodName := ⟨RX6, "copyFrom", "(LTagWindows$Task;)V"⟩
abbrev cX6_isIn : ByteArray := prog_8_method_4_code
def yX6_isIn : MethodName := ⟨RX6, "isIn", "(II)Z"⟩
abbrev cX6_tagHangs : ByteArray := prog_8_method_5_code
def yX6_tagHangs : MethodName := ⟨RX6, "tagHangs", "()Z"⟩
abbrev cX6_isTooLateAt : ByteArray := prog_8_method_6_code
def yX6_isTooLateAt : MethodName := ⟨RX6, "isTooLateAt", "(I)Z"⟩
abbrev cX6_slip : ByteArray := prog_8_method_7_code
def yX6_slip : MethodName := ⟨RX6, "slip", "()V"⟩
def RX7 : String := "TagWindows"
def TX7 : u_T := fun k => match k with
  | 0 => ("TagWindows", "now", "LTagWindows$Plant;", true)
  | 1 => ("TagWindows", "before", "LTagWindows$Plant;", true)
  | 2 => ("TagWindows", "kept", "LTagWindows$Plant;", true)
  | 3 => ("TagWindows", "hasKept", "Z", false)
  | 4 => ("TagWindows", "history", "LTagWindows$History;", true)
  | _ => ("TagWindows", "orders", "LTagWindows$Orders;", true)
def tyX7 : Nat → FieldType := fun k => match k with
  | 0 => .object "TagWindows$Plant"
  | 1 => .object "TagWindows$Plant"
  | 2 => .object "TagWindows$Plant"
  | 3 => .boolean
  | 4 => .object "TagWindows$History"
  | _ => .object "TagWindows$Orders"
abbrev wsX70 : List Cond := u_ws RX7 TX7 6
theorem nmX7 : ∀ a, a < 6 → ∀ b, b < 6 → a ≠ b → (TX7 a).2.1 ≠ (TX7 b).2.1 := by decide +kernel
theorem tyX7_ok : ∀ k, k < 6 → parseFieldDescriptor (TX7 k).2.2.1 = some (tyX7 k) := by decide +kernel
abbrev cX7_init : ByteArray := prog_1_method_1_code
def yX7_init : MethodName := ⟨RX7, "<init>", "()V"⟩
abbrev cX7_addAsset : ByteArray := prog_1_method_2_code
def yX7_addAsset : MethodName := ⟨RX7, "addAsset", "(II)I"⟩
abbrev cX7_link : ByteArray := prog_1_method_3_code
def yX7_link : MethodName := ⟨RX7, "link", "(IIZ)I"⟩
abbrev cX7_bar : ByteArray := prog_1_method_4_code
def yX7_bar : MethodName := ⟨RX7, "bar", "(IIZ)I"⟩
abbrev cX7_addCrew : ByteArray := prog_1_method_5_code
def yX7_addCrew : MethodName := ⟨RX7, "addCrew", "(II)I"⟩
abbrev cX7_addTask : ByteArray := prog_1_method_6_code
def yX7_addTask : MethodName := ⟨RX7, "addTask", "(IIIIII)I"⟩
abbrev cX7_run : ByteArray := prog_1_method_7_code
def yX7_run : MethodName := ⟨RX7, "run", "(I)I"⟩
abbrev cX7_stop : ByteArray := prog_1_method_8_code
def yX7_stop : MethodName := ⟨RX7, "stop", "(I)I"⟩
abbrev cX7_hang : ByteArray := prog_1_method_9_code
def yX7_hang : MethodName := ⟨RX7, "hang", "(II)I"⟩
abbrev cX7_begin : ByteArray := prog_1_method_10_code
def yX7_begin : MethodName := ⟨RX7, "begin", "(I)I"⟩
abbrev cX7_lift : ByteArray := prog_1_method_11_code
def yX7_lift : MethodName := ⟨RX7, "lift", "(II)I"⟩
abbrev cX7_cancel : ByteArray := prog_1_method_12_code
def yX7_cancel : MethodName := ⟨RX7, "cancel", "(I)I"⟩
abbrev cX7_pass : ByteArray := prog_1_method_13_code
def yX7_pass : MethodName := ⟨RX7, "pass", "(I)I"⟩
abbrev cX7_type : ByteArray := prog_1_method_14_code
def yX7_type : MethodName := ⟨RX7, "type", "(C)I"⟩
abbrev cX7_clearText : ByteArray := prog_1_method_15_code
def yX7_clearText : MethodName := ⟨RX7, "clearText", "()I"⟩
abbrev cX7_perform : ByteArray := prog_1_method_16_code
def yX7_perform : MethodName := ⟨RX7, "perform", "()I"⟩
abbrev cX7_undo : ByteArray := prog_1_method_17_code
def yX7_undo : MethodName := ⟨RX7, "undo", "()I"⟩
abbrev cX7_keep : ByteArray := prog_1_method_18_code
def yX7_keep : MethodName := ⟨RX7, "keep", "()I"⟩
abbrev cX7_restore : ByteArray := prog_1_method_19_code
def yX7_restore : MethodName := ⟨RX7, "restore", "()I"⟩
abbrev cX7_real : ByteArray := prog_1_method_20_code
def yX7_real : MethodName := ⟨RX7, "real", "(II)F"⟩
abbrev cX7_healthIn : ByteArray := prog_1_method_21_code
def yX7_healthIn : MethodName := ⟨RX7, "healthIn", "(II)F"⟩
abbrev cX7_hoursTo : ByteArray := prog_1_method_22_code
def yX7_hoursTo : MethodName := ⟨RX7, "hoursTo", "(II)I"⟩
abbrev cX7_asset : ByteArray := prog_1_method_23_code
def yX7_asset : MethodName := ⟨RX7, "asset", "(II)I"⟩
abbrev cX7_tagAt : ByteArray := prog_1_method_24_code
def yX7_tagAt : MethodName := ⟨RX7, "tagAt", "(II)I"⟩
abbrev cX7_crew : ByteArray := prog_1_method_25_code
def yX7_crew : MethodName := ⟨RX7, "crew", "(II)I"⟩
abbrev cX7_task : ByteArray := prog_1_method_26_code
def yX7_task : MethodName := ⟨RX7, "task", "(II)I"⟩
abbrev cX7_crewFor : ByteArray := prog_1_method_27_code
def yX7_crewFor : MethodName := ⟨RX7, "crewFor", "(I)I"⟩
abbrev cX7_count : ByteArray := prog_1_method_28_code
def yX7_count : MethodName := ⟨RX7, "count", "(I)I"⟩
abbrev cX7_recorded : ByteArray := prog_1_method_29_code
def yX7_recorded : MethodName := ⟨RX7, "recorded", "(I)I"⟩
abbrev cX7_follow : ByteArray := prog_1_method_30_code
def yX7_follow : MethodName := ⟨RX7, "follow", "(LTagWindows$Order;)I"⟩
abbrev cX7_within : ByteArray := prog_1_method_31_code
def yX7_within : MethodName := ⟨RX7, "within", "(III)Z"⟩
def RX8 : String := "TagWindowsModel"
def TX8 : u_T := fun k => match k with
  | 0 => ("TagWindowsModel", "now", "[I", true)
  | 1 => ("TagWindowsModel", "health", "[F", true)
  | 2 => ("TagWindowsModel", "output", "[F", true)
  | 3 => ("TagWindowsModel", "kept", "[I", true)
  | 4 => ("TagWindowsModel", "keptHealth", "[F", true)
  | 5 => ("TagWindowsModel", "keptOutput", "[F", true)
  | 6 => ("TagWindowsModel", "states", "I", false)
  | 7 => ("TagWindowsModel", "hasSnapshot", "Z", false)
  | 8 => ("TagWindowsModel", "text", "[I", true)
  | 9 => ("TagWindowsModel", "length", "I", false)
  | 10 => ("TagWindowsModel", "at", "I", false)
  | 11 => ("TagWindowsModel", "number", "I", false)
  | 12 => ("TagWindowsModel", "order", "I", false)
  | 13 => ("TagWindowsModel", "first", "I", false)
  | _ => ("TagWindowsModel", "second", "I", false)
def tyX8 : Nat → FieldType := fun k => match k with
  | 0 => .array .int
  | 1 => .array .float
  | 2 => .array .float
  | 3 => .array .int
  | 4 => .array .float
  | 5 => .array .float
  | 6 => .int
  | 7 => .boolean
  | 8 => .array .int
  | 9 => .int
  | 10 => .int
  | 11 => .int
  | 12 => .int
  | 13 => .int
  | _ => .int
abbrev wsX80 : List Cond := u_ws RX8 TX8 15
theorem nmX8 : ∀ a, a < 15 → ∀ b, b < 15 → a ≠ b → (TX8 a).2.1 ≠ (TX8 b).2.1 := by decide +kernel
theorem tyX8_ok : ∀ k, k < 15 → parseFieldDescriptor (TX8 k).2.2.1 = some (tyX8 k) := by decide +kernel
abbrev cX8_init : ByteArray := prog_10_method_1_code
def yX8_init : MethodName := ⟨RX8, "<init>", "()V"⟩
abbrev cX8_isIn : ByteArray := prog_10_method_2_code
def yX8_isIn : MethodName := ⟨RX8, "isIn", "(III)Z"⟩
abbrev cX8_of : ByteArray := prog_10_method_3_code
def yX8_of : MethodName := ⟨RX8, "of", "(II)I"⟩
abbrev cX8_sets : ByteArray := prog_10_method_4_code
def yX8_sets : MethodName := ⟨RX8, "sets", "(III)V"⟩
abbrev cX8_ofTask : ByteArray := prog_10_method_5_code
def yX8_ofTask : MethodName := ⟨RX8, "ofTask", "(II)I"⟩
abbrev cX8_setsTask : ByteArray := prog_10_method_6_code
def yX8_setsTask : MethodName := ⟨RX8, "setsTask", "(III)V"⟩
abbrev cX8_isAsset : ByteArray := prog_10_method_7_code
def yX8_isAsset : MethodName := ⟨RX8, "isAsset", "(I)Z"⟩
abbrev cX8_isCrew : ByteArray := prog_10_method_8_code
def yX8_isCrew : MethodName := ⟨RX8, "isCrew", "(I)Z"⟩
abbrev cX8_isTask : ByteArray := prog_10_method_9_code
def yX8_isTask : MethodName := ⟨RX8, "isTask", "(I)Z"⟩
abbrev cX8_ones : ByteArray := prog_10_method_10_code
def yX8_ones : MethodName := ⟨RX8, "ones", "(I)I"⟩
abbrev cX8_keeps : ByteArray := prog_10_method_11_code
def yX8_keeps : MethodName := ⟨RX8, "keeps", "(I)V"⟩
abbrev cX8_brings : ByteArray := prog_10_method_12_code
def yX8_brings : MethodName := ⟨RX8, "brings", "(I)V"⟩
abbrev cX8_copies : ByteArray := prog_10_method_13_code
def yX8_copies : MethodName := ⟨RX8, "copies", "(II)V"⟩
abbrev cX8_recordsTrial : ByteArray := prog_10_method_14_code
def yX8_recordsTrial : MethodName := ⟨RX8, "recordsTrial", "()V"⟩
abbrev cX8_records : ByteArray := prog_10_method_15_code
def yX8_records : MethodName := ⟨RX8, "records", "()V"⟩
abbrev cX8_undo : ByteArray := prog_10_method_16_code
def yX8_undo : MethodName := ⟨RX8, "undo", "()I"⟩
abbrev cX8_keep : ByteArray := prog_10_method_17_code
def yX8_keep : MethodName := ⟨RX8, "keep", "()I"⟩
abbrev cX8_restore : ByteArray := prog_10_method_18_code
def yX8_restore : MethodName := ⟨RX8, "restore", "()I"⟩
abbrev cX8_addAsset : ByteArray := prog_10_method_19_code
def yX8_addAsset : MethodName := ⟨RX8, "addAsset", "(II)I"⟩
abbrev cX8_link : ByteArray := prog_10_method_20_code
def yX8_link : MethodName := ⟨RX8, "link", "(IIZ)I"⟩
abbrev cX8_bars : ByteArray := prog_10_method_21_code
def yX8_bars : MethodName := ⟨RX8, "bars", "(II)Z"⟩
abbrev cX8_bar : ByteArray := prog_10_method_22_code
def yX8_bar : MethodName := ⟨RX8, "bar", "(IIZ)I"⟩
abbrev cX8_addCrew : ByteArray := prog_10_method_23_code
def yX8_addCrew : MethodName := ⟨RX8, "addCrew", "(II)I"⟩
abbrev cX8_addTask : ByteArray := prog_10_method_24_code
def yX8_addTask : MethodName := ⟨RX8, "addTask", "(IIIIII)I"⟩
abbrev cX8_stateOf : ByteArray := prog_10_method_25_code
def yX8_stateOf : MethodName := ⟨RX8, "stateOf", "(I)I"⟩
abbrev cX8_isBusy : ByteArray := prog_10_method_26_code
def yX8_isBusy : MethodName := ⟨RX8, "isBusy", "(I)Z"⟩
abbrev cX8_busy : ByteArray := prog_10_method_27_code
def yX8_busy : MethodName := ⟨RX8, "busy", "(IZ)I"⟩
abbrev cX8_canHang : ByteArray := prog_10_method_28_code
def yX8_canHang : MethodName := ⟨RX8, "canHang", "(II)Z"⟩
abbrev cX8_endOf : ByteArray := prog_10_method_29_code
def yX8_endOf : MethodName := ⟨RX8, "endOf", "(I)I"⟩
abbrev cX8_barredBy : ByteArray := prog_10_method_30_code
def yX8_barredBy : MethodName := ⟨RX8, "barredBy", "(I)I"⟩
abbrev cX8_isTooLate : ByteArray := prog_10_method_31_code
def yX8_isTooLate : MethodName := ⟨RX8, "isTooLate", "(I)Z"⟩
abbrev cX8_reasonOf : ByteArray := prog_10_method_32_code
def yX8_reasonOf : MethodName := ⟨RX8, "reasonOf", "(I)I"⟩
abbrev cX8_running : ByteArray := prog_10_method_33_code
def yX8_running : MethodName := ⟨RX8, "running", "()I"⟩
abbrev cX8_runError : ByteArray := prog_10_method_34_code
def yX8_runError : MethodName := ⟨RX8, "runError", "(I)I"⟩
abbrev cX8_stopError : ByteArray := prog_10_method_35_code
def yX8_stopError : MethodName := ⟨RX8, "stopError", "(I)I"⟩
abbrev cX8_goes : ByteArray := prog_10_method_36_code
def yX8_goes : MethodName := ⟨RX8, "goes", "(II)I"⟩
abbrev cX8_run : ByteArray := prog_10_method_37_code
def yX8_run : MethodName := ⟨RX8, "run", "(I)I"⟩
abbrev cX8_stop : ByteArray := prog_10_method_38_code
def yX8_stop : MethodName := ⟨RX8, "stop", "(I)I"⟩
abbrev cX8_hangError : ByteArray := prog_10_method_39_code
def yX8_hangError : MethodName := ⟨RX8, "hangError", "(II)I"⟩
abbrev cX8_hangs : ByteArray := prog_10_method_40_code
def yX8_hangs : MethodName := ⟨RX8, "hangs", "(II)I"⟩
abbrev cX8_hang : ByteArray := prog_10_method_41_code
def yX8_hang : MethodName := ⟨RX8, "hang", "(II)I"⟩
abbrev cX8_beginError : ByteArray := prog_10_method_42_code
def yX8_beginError : MethodName := ⟨RX8, "beginError", "(I)I"⟩
abbrev cX8_begins : ByteArray := prog_10_method_43_code
def yX8_begins : MethodName := ⟨RX8, "begins", "(I)I"⟩
abbrev cX8_begin : ByteArray := prog_10_method_44_code
def yX8_begin : MethodName := ⟨RX8, "begin", "(I)I"⟩
abbrev cX8_topOf : ByteArray := prog_10_method_45_code
def yX8_topOf : MethodName := ⟨RX8, "topOf", "(I)I"⟩
abbrev cX8_liftError : ByteArray := prog_10_method_46_code
def yX8_liftError : MethodName := ⟨RX8, "liftError", "(II)I"⟩
abbrev cX8_lifts : ByteArray := prog_10_method_47_code
def yX8_lifts : MethodName := ⟨RX8, "lifts", "(I)I"⟩
abbrev cX8_lift : ByteArray := prog_10_method_48_code
def yX8_lift : MethodName := ⟨RX8, "lift", "(II)I"⟩
abbrev cX8_cancel : ByteArray := prog_10_method_49_code
def yX8_cancel : MethodName := ⟨RX8, "cancel", "(I)I"⟩
abbrev cX8_worn : ByteArray := prog_10_method_50_code
def yX8_worn : MethodName := ⟨RX8, "worn", "(IF)F"⟩
abbrev cX8_runsHour : ByteArray := prog_10_method_51_code
def yX8_runsHour : MethodName := ⟨RX8, "runsHour", "(I)V"⟩
abbrev cX8_slips : ByteArray := prog_10_method_52_code
def yX8_slips : MethodName := ⟨RX8, "slips", "(I)V"⟩
abbrev cX8_passesHour : ByteArray := prog_10_method_53_code
def yX8_passesHour : MethodName := ⟨RX8, "passesHour", "()I"⟩
abbrev cX8_passError : ByteArray := prog_10_method_54_code
def yX8_passError : MethodName := ⟨RX8, "passError", "(I)I"⟩
abbrev cX8_passes : ByteArray := prog_10_method_55_code
def yX8_passes : MethodName := ⟨RX8, "passes", "(I)I"⟩
abbrev cX8_pass : ByteArray := prog_10_method_56_code
def yX8_pass : MethodName := ⟨RX8, "pass", "(I)I"⟩
abbrev cX8_type : ByteArray := prog_10_method_57_code
def yX8_type : MethodName := ⟨RX8, "type", "(C)I"⟩
abbrev cX8_clearText : ByteArray := prog_10_method_58_code
def yX8_clearText : MethodName := ⟨RX8, "clearText", "()I"⟩
abbrev cX8_isHere : ByteArray := prog_10_method_59_code
def yX8_isHere : MethodName := ⟨RX8, "isHere", "(II)Z"⟩
abbrev cX8_passesSign : ByteArray := prog_10_method_60_code
def yX8_passesSign : MethodName := ⟨RX8, "passesSign", "(I)Z"⟩
abbrev cX8_passesNumber : ByteArray := prog_10_method_61_code
def yX8_passesNumber : MethodName := ⟨RX8, "passesNumber", "(I)Z"⟩
abbrev cX8_passesOrder : ByteArray := prog_10_method_62_code
def yX8_passesOrder : MethodName := ⟨RX8, "passesOrder", "()Z"⟩
abbrev cX8_faultOf : ByteArray := prog_10_method_63_code
def yX8_faultOf : MethodName := ⟨RX8, "faultOf", "()I"⟩
abbrev cX8_orderError : ByteArray := prog_10_method_64_code
def yX8_orderError : MethodName := ⟨RX8, "orderError", "()I"⟩
abbrev cX8_does : ByteArray := prog_10_method_65_code
def yX8_does : MethodName := ⟨RX8, "does", "()I"⟩
abbrev cX8_perform : ByteArray := prog_10_method_66_code
def yX8_perform : MethodName := ⟨RX8, "perform", "()I"⟩
abbrev cX8_real : ByteArray := prog_10_method_67_code
def yX8_real : MethodName := ⟨RX8, "real", "(II)F"⟩
abbrev cX8_healthIn : ByteArray := prog_10_method_68_code
def yX8_healthIn : MethodName := ⟨RX8, "healthIn", "(II)F"⟩
abbrev cX8_hoursTo : ByteArray := prog_10_method_69_code
def yX8_hoursTo : MethodName := ⟨RX8, "hoursTo", "(II)I"⟩
abbrev cX8_tasksAt : ByteArray := prog_10_method_70_code
def yX8_tasksAt : MethodName := ⟨RX8, "tasksAt", "(III)I"⟩
abbrev cX8_asset : ByteArray := prog_10_method_71_code
def yX8_asset : MethodName := ⟨RX8, "asset", "(II)I"⟩
abbrev cX8_tagAt : ByteArray := prog_10_method_72_code
def yX8_tagAt : MethodName := ⟨RX8, "tagAt", "(II)I"⟩
abbrev cX8_doneBy : ByteArray := prog_10_method_73_code
def yX8_doneBy : MethodName := ⟨RX8, "doneBy", "(I)I"⟩
abbrev cX8_crew : ByteArray := prog_10_method_74_code
def yX8_crew : MethodName := ⟨RX8, "crew", "(II)I"⟩
abbrev cX8_task : ByteArray := prog_10_method_75_code
def yX8_task : MethodName := ⟨RX8, "task", "(II)I"⟩
abbrev cX8_crewFor : ByteArray := prog_10_method_76_code
def yX8_crewFor : MethodName := ⟨RX8, "crewFor", "(I)I"⟩
abbrev cX8_inState : ByteArray := prog_10_method_77_code
def yX8_inState : MethodName := ⟨RX8, "inState", "(I)I"⟩
abbrev cX8_tags : ByteArray := prog_10_method_78_code
def yX8_tags : MethodName := ⟨RX8, "tags", "()I"⟩
abbrev cX8_allSlips : ByteArray := prog_10_method_79_code
def yX8_allSlips : MethodName := ⟨RX8, "allSlips", "()I"⟩
abbrev cX8_allBusy : ByteArray := prog_10_method_80_code
def yX8_allBusy : MethodName := ⟨RX8, "allBusy", "()I"⟩
abbrev cX8_count : ByteArray := prog_10_method_81_code
def yX8_count : MethodName := ⟨RX8, "count", "(I)I"⟩
def RJ6 : String := "java/lang/Integer"
def TJ6 : u_T := fun k => match k with
  | _ => ("", "", "", false)
def tyJ6 : Nat → FieldType := fun k => match k with
  | _ => .int
abbrev wsJ60 : List Cond := u_ws RJ6 TJ6 0
theorem nmJ6 : ∀ a, a < 0 → ∀ b, b < 0 → a ≠ b → (TJ6 a).2.1 ≠ (TJ6 b).2.1 := by decide +kernel
theorem tyJ6_ok : ∀ k, k < 0 → parseFieldDescriptor (TJ6 k).2.2.1 = some (tyJ6 k) := by decide +kernel
abbrev cJ6_bitCount_0f7a4 : ByteArray := prog_11_method_49_code
def yJ6_bitCount_0f7a4 : MethodName := ⟨RJ6, "bitCount", "(I)I"⟩
def RL : String := "TagWindowsLaw"
abbrev cL_law : ByteArray := code
def yL_law : MethodName := ⟨RL, "law", "([I)Z"⟩
abbrev vwCl : List vw_C := [(RX0, TX0, 6), (RX1, TX1, 2), (RX2, TX2, 3), (RX3, TX3, 3), (RX4, TX4, 5), (RX5, TX5, 8), (RX6, TX6, 12), (RX7, TX7, 6), (RX8, TX8, 15)]
