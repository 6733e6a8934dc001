theorem dX0_init_0 : decode cX0_init 0 = .ok (.aload_n 0, 1) := by decide +kernel
theorem dX0_init_1 : decode cX0_init 1 = .ok (.invokespecial 3, 3) := by decide +kernel
theorem dX0_init_4 : decode cX0_init 4 = .ok (.aload_n 0, 1) := by decide +kernel
theorem dX0_init_5 : decode cX0_init 5 = .ok (.iconst 0, 1) := by decide +kernel
theorem dX0_init_6 : decode cX0_init 6 = .ok (.putfield 9, 3) := by decide +kernel
theorem dX0_init_9 : decode cX0_init 9 = .ok (.aload_n 0, 1) := by decide +kernel
theorem dX0_init_10 : decode cX0_init 10 = .ok (.fconst 0, 1) := by decide +kernel
theorem dX0_init_11 : decode cX0_init 11 = .ok (.putfield 15, 3) := by decide +kernel
theorem dX0_init_14 : decode cX0_init 14 = .ok (.aload_n 0, 1) := by decide +kernel
theorem dX0_init_15 : decode cX0_init 15 = .ok (.fconst 1, 1) := by decide +kernel
theorem dX0_init_16 : decode cX0_init 16 = .ok (.putfield 19, 3) := by decide +kernel
theorem dX0_init_19 : decode cX0_init 19 = .ok (.aload_n 0, 1) := by decide +kernel
theorem dX0_init_20 : decode cX0_init 20 = .ok (.fconst 0, 1) := by decide +kernel
theorem dX0_init_21 : decode cX0_init 21 = .ok (.putfield 22, 3) := by decide +kernel
theorem dX0_init_24 : decode cX0_init 24 = .ok (.aload_n 0, 1) := by decide +kernel
theorem dX0_init_25 : decode cX0_init 25 = .ok (.iconst 0, 1) := by decide +kernel
theorem dX0_init_26 : decode cX0_init 26 = .ok (.putfield 25, 3) := by decide +kernel
theorem dX0_init_29 : decode cX0_init 29 = .ok (.aload_n 0, 1) := by decide +kernel
theorem dX0_init_30 : decode cX0_init 30 = .ok (.iconst 0, 1) := by decide +kernel
theorem dX0_init_31 : decode cX0_init 31 = .ok (.putfield 29, 3) := by decide +kernel
theorem dX0_init_34 : decode cX0_init 34 = .ok (.return_, 1) := by decide +kernel
theorem dX0_setUp_0 : decode cX0_setUp 0 = .ok (.aload_n 0, 1) := by decide +kernel
theorem dX0_setUp_1 : decode cX0_setUp 1 = .ok (.iload_n 1, 1) := by decide +kernel
theorem dX0_setUp_2 : decode cX0_setUp 2 = .ok (.putfield 9, 3) := by decide +kernel
theorem dX0_setUp_5 : decode cX0_setUp 5 = .ok (.aload_n 0, 1) := by decide +kernel
theorem dX0_setUp_6 : decode cX0_setUp 6 = .ok (.iload_n 2, 1) := by decide +kernel
theorem dX0_setUp_7 : decode cX0_setUp 7 = .ok (.i2f, 1) := by decide +kernel
theorem dX0_setUp_8 : decode cX0_setUp 8 = .ok (.ldc 32, 2) := by decide +kernel
theorem dX0_setUp_10 : decode cX0_setUp 10 = .ok (.fdiv, 1) := by decide +kernel
theorem dX0_setUp_11 : decode cX0_setUp 11 = .ok (.putfield 15, 3) := by decide +kernel
theorem dX0_setUp_14 : decode cX0_setUp 14 = .ok (.aload_n 0, 1) := by decide +kernel
theorem dX0_setUp_15 : decode cX0_setUp 15 = .ok (.fconst 1, 1) := by decide +kernel
theorem dX0_setUp_16 : decode cX0_setUp 16 = .ok (.putfield 19, 3) := by decide +kernel
theorem dX0_setUp_19 : decode cX0_setUp 19 = .ok (.aload_n 0, 1) := by decide +kernel
theorem dX0_setUp_20 : decode cX0_setUp 20 = .ok (.fconst 0, 1) := by decide +kernel
theorem dX0_setUp_21 : decode cX0_setUp 21 = .ok (.putfield 22, 3) := by decide +kernel
theorem dX0_setUp_24 : decode cX0_setUp 24 = .ok (.aload_n 0, 1) := by decide +kernel
theorem dX0_setUp_25 : decode cX0_setUp 25 = .ok (.iconst 0, 1) := by decide +kernel
theorem dX0_setUp_26 : decode cX0_setUp 26 = .ok (.putfield 25, 3) := by decide +kernel
theorem dX0_setUp_29 : decode cX0_setUp 29 = .ok (.aload_n 0, 1) := by decide +kernel
theorem dX0_setUp_30 : decode cX0_setUp 30 = .ok (.iconst 0, 1) := by decide +kernel
theorem dX0_setUp_31 : decode cX0_setUp 31 = .ok (.putfield 29, 3) := by decide +kernel
theorem dX0_setUp_34 : decode cX0_setUp 34 = .ok (.return_, 1) := by decide +kernel
theorem dX0_copyFrom_0 : decode cX0_copyFrom 0 = .ok (.aload_n 0, 1) := by decide +kernel
theorem dX0_copyFrom_1 : decode cX0_copyFrom 1 = .ok (.aload_n 1, 1) := by decide +kernel
theorem dX0_copyFrom_2 : decode cX0_copyFrom 2 = .ok (.getfield 9, 3) := by decide +kernel
theorem dX0_copyFrom_5 : decode cX0_copyFrom 5 = .ok (.putfield 9, 3) := by decide +kernel
theorem dX0_copyFrom_8 : decode cX0_copyFrom 8 = .ok (.aload_n 0, 1) := by decide +kernel
theorem dX0_copyFrom_9 : decode cX0_copyFrom 9 = .ok (.aload_n 1, 1) := by decide +kernel
theorem dX0_copyFrom_10 : decode cX0_copyFrom 10 = .ok (.getfield 15, 3) := by decide +kernel
theorem dX0_copyFrom_13 : decode cX0_copyFrom 13 = .ok (.putfield 15, 3) := by decide +kernel
theorem dX0_copyFrom_16 : decode cX0_copyFrom 16 = .ok (.aload_n 0, 1) := by decide +kernel
theorem dX0_copyFrom_17 : decode cX0_copyFrom 17 = .ok (.aload_n 1, 1) := by decide +kernel
theorem dX0_copyFrom_18 : decode cX0_copyFrom 18 = .ok (.getfield 19, 3) := by decide +kernel
theorem dX0_copyFrom_21 : decode cX0_copyFrom 21 = .ok (.putfield 19, 3) := by decide +kernel
theorem dX0_copyFrom_24 : decode cX0_copyFrom 24 = .ok (.aload_n 0, 1) := by decide +kernel
theorem dX0_copyFrom_25 : decode cX0_copyFrom 25 = .ok (.aload_n 1, 1) := by decide +kernel
theorem dX0_copyFrom_26 : decode cX0_copyFrom 26 = .ok (.getfield 22, 3) := by decide +kernel
theorem dX0_copyFrom_29 : decode cX0_copyFrom 29 = .ok (.putfield 22, 3) := by decide +kernel
theorem dX0_copyFrom_32 : decode cX0_copyFrom 32 = .ok (.aload_n 0, 1) := by decide +kernel
theorem dX0_copyFrom_33 : decode cX0_copyFrom 33 = .ok (.aload_n 1, 1) := by decide +kernel
theorem dX0_copyFrom_34 : decode cX0_copyFrom 34 = .ok (.getfield 25, 3) := by decide +kernel
theorem dX0_copyFrom_37 : decode cX0_copyFrom 37 = .ok (.putfield 25, 3) := by decide +kernel
theorem dX0_copyFrom_40 : decode cX0_copyFrom 40 = .ok (.aload_n 0, 1) := by decide +kernel
theorem dX0_copyFrom_41 : decode cX0_copyFrom 41 = .ok (.aload_n 1, 1) := by decide +kernel
theorem dX0_copyFrom_42 : decode cX0_copyFrom 42 = .ok (.getfield 29, 3) := by decide +kernel
theorem dX0_copyFrom_45 : decode cX0_copyFrom 45 = .ok (.putfield 29, 3) := by decide +kernel
theorem dX0_copyFrom_48 : decode cX0_copyFrom 48 = .ok (.return_, 1) := by decide +kernel
theorem dX0_isLinkedTo_0 : decode cX0_isLinkedTo 0 = .ok (.aload_n 0, 1) := by decide +kernel
theorem dX0_isLinkedTo_1 : decode cX0_isLinkedTo 1 = .ok (.getfield 29, 3) := by decide +kernel
theorem dX0_isLinkedTo_4 : decode cX0_isLinkedTo 4 = .ok (.iload_n 1, 1) := by decide +kernel
theorem dX0_isLinkedTo_5 : decode cX0_isLinkedTo 5 = .ok (.ishr, 1) := by decide +kernel
theorem dX0_isLinkedTo_6 : decode cX0_isLinkedTo 6 = .ok (.iconst 1, 1) := by decide +kernel
theorem dX0_isLinkedTo_7 : decode cX0_isLinkedTo 7 = .ok (.iand, 1) := by decide +kernel
theorem dX0_isLinkedTo_8 : decode cX0_isLinkedTo 8 = .ok (.iconst 1, 1) := by decide +kernel
theorem dX0_isLinkedTo_9 : decode cX0_isLinkedTo 9 = .ok (.if_icmp .ne 7, 3) := by decide +kernel
theorem dX0_isLinkedTo_12 : decode cX0_isLinkedTo 12 = .ok (.iconst 1, 1) := by decide +kernel
theorem dX0_isLinkedTo_13 : decode cX0_isLinkedTo 13 = .ok (.goto 4, 3) := by decide +kernel
theorem dX0_isLinkedTo_16 : decode cX0_isLinkedTo 16 = .ok (.iconst 0, 1) := by decide +kernel
theorem dX0_isLinkedTo_17 : decode cX0_isLinkedTo 17 = .ok (.ireturn, 1) := by decide +kernel
theorem dX0_runForAnHour_0 : decode cX0_runForAnHour 0 = .ok (.aload_n 0, 1) := by decide +kernel
theorem dX0_runForAnHour_1 : decode cX0_runForAnHour 1 = .ok (.aload_n 0, 1) := by decide +kernel
theorem dX0_runForAnHour_2 : decode cX0_runForAnHour 2 = .ok (.getfield 22, 3) := by decide +kernel
theorem dX0_runForAnHour_5 : decode cX0_runForAnHour 5 = .ok (.aload_n 0, 1) := by decide +kernel
theorem dX0_runForAnHour_6 : decode cX0_runForAnHour 6 = .ok (.getfield 9, 3) := by decide +kernel
theorem dX0_runForAnHour_9 : decode cX0_runForAnHour 9 = .ok (.i2f, 1) := by decide +kernel
theorem dX0_runForAnHour_10 : decode cX0_runForAnHour 10 = .ok (.aload_n 0, 1) := by decide +kernel
theorem dX0_runForAnHour_11 : decode cX0_runForAnHour 11 = .ok (.getfield 19, 3) := by decide +kernel
theorem dX0_runForAnHour_14 : decode cX0_runForAnHour 14 = .ok (.fmul, 1) := by decide +kernel
theorem dX0_runForAnHour_15 : decode cX0_runForAnHour 15 = .ok (.fadd, 1) := by decide +kernel
theorem dX0_runForAnHour_16 : decode cX0_runForAnHour 16 = .ok (.putfield 22, 3) := by decide +kernel
theorem dX0_runForAnHour_19 : decode cX0_runForAnHour 19 = .ok (.aload_n 0, 1) := by decide +kernel
theorem dX0_runForAnHour_20 : decode cX0_runForAnHour 20 = .ok (.aload_n 0, 1) := by decide +kernel
theorem dX0_runForAnHour_21 : decode cX0_runForAnHour 21 = .ok (.aload_n 0, 1) := by decide +kernel
theorem dX0_runForAnHour_22 : decode cX0_runForAnHour 22 = .ok (.getfield 19, 3) := by decide +kernel
theorem dX0_runForAnHour_25 : decode cX0_runForAnHour 25 = .ok (.invokevirtual 33, 3) := by decide +kernel
theorem dX0_runForAnHour_28 : decode cX0_runForAnHour 28 = .ok (.putfield 19, 3) := by decide +kernel
theorem dX0_runForAnHour_31 : decode cX0_runForAnHour 31 = .ok (.return_, 1) := by decide +kernel
theorem dX0_mend_0 : decode cX0_mend 0 = .ok (.aload_n 0, 1) := by decide +kernel
theorem dX0_mend_1 : decode cX0_mend 1 = .ok (.aload_n 0, 1) := by decide +kernel
theorem dX0_mend_2 : decode cX0_mend 2 = .ok (.getfield 19, 3) := by decide +kernel
theorem dX0_mend_5 : decode cX0_mend 5 = .ok (.fconst 1, 1) := by decide +kernel
theorem dX0_mend_6 : decode cX0_mend 6 = .ok (.aload_n 0, 1) := by decide +kernel
theorem dX0_mend_7 : decode cX0_mend 7 = .ok (.getfield 19, 3) := by decide +kernel
theorem dX0_mend_10 : decode cX0_mend 10 = .ok (.fsub, 1) := by decide +kernel
theorem dX0_mend_11 : decode cX0_mend 11 = .ok (.ldc 37, 2) := by decide +kernel
theorem dX0_mend_13 : decode cX0_mend 13 = .ok (.fmul, 1) := by decide +kernel
theorem dX0_mend_14 : decode cX0_mend 14 = .ok (.fadd, 1) := by decide +kernel
theorem dX0_mend_15 : decode cX0_mend 15 = .ok (.putfield 19, 3) := by decide +kernel
theorem dX0_mend_18 : decode cX0_mend 18 = .ok (.return_, 1) := by decide +kernel
theorem dX0_afterAnHour_0 : decode cX0_afterAnHour 0 = .ok (.fload_n 1, 1) := by decide +kernel
theorem dX0_afterAnHour_1 : decode cX0_afterAnHour 1 = .ok (.fload_n 1, 1) := by decide +kernel
theorem dX0_afterAnHour_2 : decode cX0_afterAnHour 2 = .ok (.aload_n 0, 1) := by decide +kernel
theorem dX0_afterAnHour_3 : decode cX0_afterAnHour 3 = .ok (.getfield 15, 3) := by decide +kernel
theorem dX0_afterAnHour_6 : decode cX0_afterAnHour 6 = .ok (.fmul, 1) := by decide +kernel
theorem dX0_afterAnHour_7 : decode cX0_afterAnHour 7 = .ok (.fsub, 1) := by decide +kernel
theorem dX0_afterAnHour_8 : decode cX0_afterAnHour 8 = .ok (.fstore_n 2, 1) := by decide +kernel
theorem dX0_afterAnHour_9 : decode cX0_afterAnHour 9 = .ok (.fload_n 2, 1) := by decide +kernel
theorem dX0_afterAnHour_10 : decode cX0_afterAnHour 10 = .ok (.ldc 38, 2) := by decide +kernel
theorem dX0_afterAnHour_12 : decode cX0_afterAnHour 12 = .ok (.fcmp .g, 1) := by decide +kernel
theorem dX0_afterAnHour_13 : decode cX0_afterAnHour 13 = .ok (.ifCond .ge 8, 3) := by decide +kernel
theorem dX0_afterAnHour_16 : decode cX0_afterAnHour 16 = .ok (.ldc 38, 2) := by decide +kernel
theorem dX0_afterAnHour_18 : decode cX0_afterAnHour 18 = .ok (.goto 4, 3) := by decide +kernel
theorem dX0_afterAnHour_21 : decode cX0_afterAnHour 21 = .ok (.fload_n 2, 1) := by decide +kernel
theorem dX0_afterAnHour_22 : decode cX0_afterAnHour 22 = .ok (.freturn, 1) := by decide +kernel
theorem dX0_healthAfter_0 : decode cX0_healthAfter 0 = .ok (.aload_n 0, 1) := by decide +kernel
theorem dX0_healthAfter_1 : decode cX0_healthAfter 1 = .ok (.getfield 19, 3) := by decide +kernel
theorem dX0_healthAfter_4 : decode cX0_healthAfter 4 = .ok (.fstore_n 2, 1) := by decide +kernel
theorem dX0_healthAfter_5 : decode cX0_healthAfter 5 = .ok (.iconst 0, 1) := by decide +kernel
theorem dX0_healthAfter_6 : decode cX0_healthAfter 6 = .ok (.istore_n 3, 1) := by decide +kernel
theorem dX0_healthAfter_7 : decode cX0_healthAfter 7 = .ok (.iload_n 3, 1) := by decide +kernel
theorem dX0_healthAfter_8 : decode cX0_healthAfter 8 = .ok (.iload_n 1, 1) := by decide +kernel
theorem dX0_healthAfter_9 : decode cX0_healthAfter 9 = .ok (.if_icmp .ge 15, 3) := by decide +kernel
theorem dX0_healthAfter_12 : decode cX0_healthAfter 12 = .ok (.aload_n 0, 1) := by decide +kernel
theorem dX0_healthAfter_13 : decode cX0_healthAfter 13 = .ok (.fload_n 2, 1) := by decide +kernel
theorem dX0_healthAfter_14 : decode cX0_healthAfter 14 = .ok (.invokevirtual 33, 3) := by decide +kernel
theorem dX0_healthAfter_17 : decode cX0_healthAfter 17 = .ok (.fstore_n 2, 1) := by decide +kernel
theorem dX0_healthAfter_18 : decode cX0_healthAfter 18 = .ok (.iinc 3 1, 3) := by decide +kernel
theorem dX0_healthAfter_21 : decode cX0_healthAfter 21 = .ok (.goto (-14), 3) := by decide +kernel
theorem dX0_healthAfter_24 : decode cX0_healthAfter 24 = .ok (.fload_n 2, 1) := by decide +kernel
theorem dX0_healthAfter_25 : decode cX0_healthAfter 25 = .ok (.freturn, 1) := by decide +kernel
theorem dX0_hoursUntilBelow_0 : decode cX0_hoursUntilBelow 0 = .ok (.aload_n 0, 1) := by decide +kernel
theorem dX0_hoursUntilBelow_1 : decode cX0_hoursUntilBelow 1 = .ok (.getfield 19, 3) := by decide +kernel
theorem dX0_hoursUntilBelow_4 : decode cX0_hoursUntilBelow 4 = .ok (.fstore_n 2, 1) := by decide +kernel
theorem dX0_hoursUntilBelow_5 : decode cX0_hoursUntilBelow 5 = .ok (.iconst 0, 1) := by decide +kernel
theorem dX0_hoursUntilBelow_6 : decode cX0_hoursUntilBelow 6 = .ok (.istore_n 3, 1) := by decide +kernel
theorem dX0_hoursUntilBelow_7 : decode cX0_hoursUntilBelow 7 = .ok (.iload_n 3, 1) := by decide +kernel
theorem dX0_hoursUntilBelow_8 : decode cX0_hoursUntilBelow 8 = .ok (.sipush 200, 3) := by decide +kernel
theorem dX0_hoursUntilBelow_11 : decode cX0_hoursUntilBelow 11 = .ok (.if_icmp .gt 23, 3) := by decide +kernel
theorem dX0_hoursUntilBelow_14 : decode cX0_hoursUntilBelow 14 = .ok (.fload_n 2, 1) := by decide +kernel
theorem dX0_hoursUntilBelow_15 : decode cX0_hoursUntilBelow 15 = .ok (.fload_n 1, 1) := by decide +kernel
theorem dX0_hoursUntilBelow_16 : decode cX0_hoursUntilBelow 16 = .ok (.fcmp .g, 1) := by decide +kernel
theorem dX0_hoursUntilBelow_17 : decode cX0_hoursUntilBelow 17 = .ok (.ifCond .ge 5, 3) := by decide +kernel
theorem dX0_hoursUntilBelow_20 : decode cX0_hoursUntilBelow 20 = .ok (.iload_n 3, 1) := by decide +kernel
theorem dX0_hoursUntilBelow_21 : decode cX0_hoursUntilBelow 21 = .ok (.ireturn, 1) := by decide +kernel
theorem dX0_hoursUntilBelow_22 : decode cX0_hoursUntilBelow 22 = .ok (.aload_n 0, 1) := by decide +kernel
theorem dX0_hoursUntilBelow_23 : decode cX0_hoursUntilBelow 23 = .ok (.fload_n 2, 1) := by decide +kernel
theorem dX0_hoursUntilBelow_24 : decode cX0_hoursUntilBelow 24 = .ok (.invokevirtual 33, 3) := by decide +kernel
theorem dX0_hoursUntilBelow_27 : decode cX0_hoursUntilBelow 27 = .ok (.fstore_n 2, 1) := by decide +kernel
theorem dX0_hoursUntilBelow_28 : decode cX0_hoursUntilBelow 28 = .ok (.iinc 3 1, 3) := by decide +kernel
theorem dX0_hoursUntilBelow_31 : decode cX0_hoursUntilBelow 31 = .ok (.goto (-24), 3) := by decide +kernel
theorem dX0_hoursUntilBelow_34 : decode cX0_hoursUntilBelow 34 = .ok (.bipush (-5), 2) := by decide +kernel
theorem dX0_hoursUntilBelow_36 : decode cX0_hoursUntilBelow 36 = .ok (.ireturn, 1) := by decide +kernel
theorem dX1_init_0 : decode cX1_init 0 = .ok (.aload_n 0, 1) := by decide +kernel
theorem dX1_init_1 : decode cX1_init 1 = .ok (.invokespecial 1, 3) := by decide +kernel
theorem dX1_init_4 : decode cX1_init 4 = .ok (.aload_n 0, 1) := by decide +kernel
theorem dX1_init_5 : decode cX1_init 5 = .ok (.iconst 0, 1) := by decide +kernel
theorem dX1_init_6 : decode cX1_init 6 = .ok (.putfield 7, 3) := by decide +kernel
theorem dX1_init_9 : decode cX1_init 9 = .ok (.aload_n 0, 1) := by decide +kernel
theorem dX1_init_10 : decode cX1_init 10 = .ok (.iconst 0, 1) := by decide +kernel
theorem dX1_init_11 : decode cX1_init 11 = .ok (.putfield 13, 3) := by decide +kernel
theorem dX1_init_14 : decode cX1_init 14 = .ok (.return_, 1) := by decide +kernel
theorem dX1_setUp_0 : decode cX1_setUp 0 = .ok (.aload_n 0, 1) := by decide +kernel
theorem dX1_setUp_1 : decode cX1_setUp 1 = .ok (.iload_n 1, 1) := by decide +kernel
theorem dX1_setUp_2 : decode cX1_setUp 2 = .ok (.putfield 7, 3) := by decide +kernel
theorem dX1_setUp_5 : decode cX1_setUp 5 = .ok (.aload_n 0, 1) := by decide +kernel
theorem dX1_setUp_6 : decode cX1_setUp 6 = .ok (.iload_n 2, 1) := by decide +kernel
theorem dX1_setUp_7 : decode cX1_setUp 7 = .ok (.putfield 13, 3) := by decide +kernel
theorem dX1_setUp_10 : decode cX1_setUp 10 = .ok (.return_, 1) := by decide +kernel
theorem dX1_copyFrom_0 : decode cX1_copyFrom 0 = .ok (.aload_n 0, 1) := by decide +kernel
theorem dX1_copyFrom_1 : decode cX1_copyFrom 1 = .ok (.aload_n 1, 1) := by decide +kernel
theorem dX1_copyFrom_2 : decode cX1_copyFrom 2 = .ok (.getfield 7, 3) := by decide +kernel
theorem dX1_copyFrom_5 : decode cX1_copyFrom 5 = .ok (.putfield 7, 3) := by decide +kernel
theorem dX1_copyFrom_8 : decode cX1_copyFrom 8 = .ok (.aload_n 0, 1) := by decide +kernel
theorem dX1_copyFrom_9 : decode cX1_copyFrom 9 = .ok (.aload_n 1, 1) := by decide +kernel
theorem dX1_copyFrom_10 : decode cX1_copyFrom 10 = .ok (.getfield 13, 3) := by decide +kernel
theorem dX1_copyFrom_13 : decode cX1_copyFrom 13 = .ok (.putfield 13, 3) := by decide +kernel
theorem dX1_copyFrom_16 : decode cX1_copyFrom 16 = .ok (.return_, 1) := by decide +kernel
theorem dX1_has_0 : decode cX1_has 0 = .ok (.aload_n 0, 1) := by decide +kernel
theorem dX1_has_1 : decode cX1_has 1 = .ok (.getfield 13, 3) := by decide +kernel
theorem dX1_has_4 : decode cX1_has 4 = .ok (.iload_n 1, 1) := by decide +kernel
theorem dX1_has_5 : decode cX1_has 5 = .ok (.ishr, 1) := by decide +kernel
theorem dX1_has_6 : decode cX1_has 6 = .ok (.iconst 1, 1) := by decide +kernel
theorem dX1_has_7 : decode cX1_has 7 = .ok (.iand, 1) := by decide +kernel
theorem dX1_has_8 : decode cX1_has 8 = .ok (.iconst 1, 1) := by decide +kernel
theorem dX1_has_9 : decode cX1_has 9 = .ok (.if_icmp .ne 7, 3) := by decide +kernel
theorem dX1_has_12 : decode cX1_has 12 = .ok (.iconst 1, 1) := by decide +kernel
theorem dX1_has_13 : decode cX1_has 13 = .ok (.goto 4, 3) := by decide +kernel
theorem dX1_has_16 : decode cX1_has 16 = .ok (.iconst 0, 1) := by decide +kernel
theorem dX1_has_17 : decode cX1_has 17 = .ok (.ireturn, 1) := by decide +kernel
theorem dX2_init_0 : decode cX2_init 0 = .ok (.aload_n 0, 1) := by decide +kernel
theorem dX2_init_1 : decode cX2_init 1 = .ok (.invokespecial 3, 3) := by decide +kernel
theorem dX2_init_4 : decode cX2_init 4 = .ok (.aload_n 0, 1) := by decide +kernel
theorem dX2_init_5 : decode cX2_init 5 = .ok (.iconst 4, 1) := by decide +kernel
theorem dX2_init_6 : decode cX2_init 6 = .ok (.anewarray 9, 3) := by decide +kernel
theorem dX2_init_9 : decode cX2_init 9 = .ok (.putfield 11, 3) := by decide +kernel
theorem dX2_init_12 : decode cX2_init 12 = .ok (.aload_n 0, 1) := by decide +kernel
theorem dX2_init_13 : decode cX2_init 13 = .ok (.iconst 0, 1) := by decide +kernel
theorem dX2_init_14 : decode cX2_init 14 = .ok (.putfield 17, 3) := by decide +kernel
theorem dX2_init_17 : decode cX2_init 17 = .ok (.aload_n 0, 1) := by decide +kernel
theorem dX2_init_18 : decode cX2_init 18 = .ok (.iconst 0, 1) := by decide +kernel
theorem dX2_init_19 : decode cX2_init 19 = .ok (.putfield 21, 3) := by decide +kernel
theorem dX2_init_22 : decode cX2_init 22 = .ok (.iconst 0, 1) := by decide +kernel
theorem dX2_init_23 : decode cX2_init 23 = .ok (.istore_n 1, 1) := by decide +kernel
theorem dX2_init_24 : decode cX2_init 24 = .ok (.iload_n 1, 1) := by decide +kernel
theorem dX2_init_25 : decode cX2_init 25 = .ok (.aload_n 0, 1) := by decide +kernel
theorem dX2_init_26 : decode cX2_init 26 = .ok (.getfield 11, 3) := by decide +kernel
theorem dX2_init_29 : decode cX2_init 29 = .ok (.arraylength, 1) := by decide +kernel
theorem dX2_init_30 : decode cX2_init 30 = .ok (.if_icmp .ge 22, 3) := by decide +kernel
theorem dX2_init_33 : decode cX2_init 33 = .ok (.aload_n 0, 1) := by decide +kernel
theorem dX2_init_34 : decode cX2_init 34 = .ok (.getfield 11, 3) := by decide +kernel
theorem dX2_init_37 : decode cX2_init 37 = .ok (.iload_n 1, 1) := by decide +kernel
theorem dX2_init_38 : decode cX2_init 38 = .ok (.new 9, 3) := by decide +kernel
theorem dX2_init_41 : decode cX2_init 41 = .ok (.dup, 1) := by decide +kernel
theorem dX2_init_42 : decode cX2_init 42 = .ok (.invokespecial 24, 3) := by decide +kernel
theorem dX2_init_45 : decode cX2_init 45 = .ok (.aastore, 1) := by decide +kernel
theorem dX2_init_46 : decode cX2_init 46 = .ok (.iinc 1 1, 3) := by decide +kernel
theorem dX2_init_49 : decode cX2_init 49 = .ok (.goto (-25), 3) := by decide +kernel
theorem dX2_init_52 : decode cX2_init 52 = .ok (.return_, 1) := by decide +kernel
theorem dX2_add_0 : decode cX2_add 0 = .ok (.aload_n 0, 1) := by decide +kernel
theorem dX2_add_1 : decode cX2_add 1 = .ok (.getfield 11, 3) := by decide +kernel
theorem dX2_add_4 : decode cX2_add 4 = .ok (.aload_n 0, 1) := by decide +kernel
theorem dX2_add_5 : decode cX2_add 5 = .ok (.getfield 17, 3) := by decide +kernel
theorem dX2_add_8 : decode cX2_add 8 = .ok (.aload_n 0, 1) := by decide +kernel
theorem dX2_add_9 : decode cX2_add 9 = .ok (.getfield 21, 3) := by decide +kernel
theorem dX2_add_12 : decode cX2_add 12 = .ok (.iadd, 1) := by decide +kernel
theorem dX2_add_13 : decode cX2_add 13 = .ok (.iconst 4, 1) := by decide +kernel
theorem dX2_add_14 : decode cX2_add 14 = .ok (.irem, 1) := by decide +kernel
theorem dX2_add_15 : decode cX2_add 15 = .ok (.aaload, 1) := by decide +kernel
theorem dX2_add_16 : decode cX2_add 16 = .ok (.aload_n 1, 1) := by decide +kernel
theorem dX2_add_17 : decode cX2_add 17 = .ok (.invokevirtual 25, 3) := by decide +kernel
theorem dX2_add_20 : decode cX2_add 20 = .ok (.aload_n 0, 1) := by decide +kernel
theorem dX2_add_21 : decode cX2_add 21 = .ok (.getfield 21, 3) := by decide +kernel
theorem dX2_add_24 : decode cX2_add 24 = .ok (.iconst 4, 1) := by decide +kernel
theorem dX2_add_25 : decode cX2_add 25 = .ok (.if_icmp .ge 16, 3) := by decide +kernel
theorem dX2_add_28 : decode cX2_add 28 = .ok (.aload_n 0, 1) := by decide +kernel
theorem dX2_add_29 : decode cX2_add 29 = .ok (.dup, 1) := by decide +kernel
theorem dX2_add_30 : decode cX2_add 30 = .ok (.getfield 21, 3) := by decide +kernel
theorem dX2_add_33 : decode cX2_add 33 = .ok (.iconst 1, 1) := by decide +kernel
theorem dX2_add_34 : decode cX2_add 34 = .ok (.iadd, 1) := by decide +kernel
theorem dX2_add_35 : decode cX2_add 35 = .ok (.putfield 21, 3) := by decide +kernel
theorem dX2_add_38 : decode cX2_add 38 = .ok (.goto 15, 3) := by decide +kernel
theorem dX2_add_41 : decode cX2_add 41 = .ok (.aload_n 0, 1) := by decide +kernel
theorem dX2_add_42 : decode cX2_add 42 = .ok (.aload_n 0, 1) := by decide +kernel
theorem dX2_add_43 : decode cX2_add 43 = .ok (.getfield 17, 3) := by decide +kernel
theorem dX2_add_46 : decode cX2_add 46 = .ok (.iconst 1, 1) := by decide +kernel
theorem dX2_add_47 : decode cX2_add 47 = .ok (.iadd, 1) := by decide +kernel
theorem dX2_add_48 : decode cX2_add 48 = .ok (.iconst 4, 1) := by decide +kernel
theorem dX2_add_49 : decode cX2_add 49 = .ok (.irem, 1) := by decide +kernel
theorem dX2_add_50 : decode cX2_add 50 = .ok (.putfield 17, 3) := by decide +kernel
theorem dX2_add_53 : decode cX2_add 53 = .ok (.return_, 1) := by decide +kernel
theorem dX2_takeBack_0 : decode cX2_takeBack 0 = .ok (.aload_n 0, 1) := by decide +kernel
theorem dX2_takeBack_1 : decode cX2_takeBack 1 = .ok (.getfield 21, 3) := by decide +kernel
theorem dX2_takeBack_4 : decode cX2_takeBack 4 = .ok (.ifCond .gt 6, 3) := by decide +kernel
theorem dX2_takeBack_7 : decode cX2_takeBack 7 = .ok (.bipush (-5), 2) := by decide +kernel
theorem dX2_takeBack_9 : decode cX2_takeBack 9 = .ok (.ireturn, 1) := by decide +kernel
theorem dX2_takeBack_10 : decode cX2_takeBack 10 = .ok (.aload_n 0, 1) := by decide +kernel
theorem dX2_takeBack_11 : decode cX2_takeBack 11 = .ok (.dup, 1) := by decide +kernel
theorem dX2_takeBack_12 : decode cX2_takeBack 12 = .ok (.getfield 21, 3) := by decide +kernel
theorem dX2_takeBack_15 : decode cX2_takeBack 15 = .ok (.iconst 1, 1) := by decide +kernel
theorem dX2_takeBack_16 : decode cX2_takeBack 16 = .ok (.isub, 1) := by decide +kernel
theorem dX2_takeBack_17 : decode cX2_takeBack 17 = .ok (.putfield 21, 3) := by decide +kernel
theorem dX2_takeBack_20 : decode cX2_takeBack 20 = .ok (.aload_n 1, 1) := by decide +kernel
theorem dX2_takeBack_21 : decode cX2_takeBack 21 = .ok (.aload_n 0, 1) := by decide +kernel
theorem dX2_takeBack_22 : decode cX2_takeBack 22 = .ok (.getfield 11, 3) := by decide +kernel
theorem dX2_takeBack_25 : decode cX2_takeBack 25 = .ok (.aload_n 0, 1) := by decide +kernel
theorem dX2_takeBack_26 : decode cX2_takeBack 26 = .ok (.getfield 17, 3) := by decide +kernel
theorem dX2_takeBack_29 : decode cX2_takeBack 29 = .ok (.aload_n 0, 1) := by decide +kernel
theorem dX2_takeBack_30 : decode cX2_takeBack 30 = .ok (.getfield 21, 3) := by decide +kernel
theorem dX2_takeBack_33 : decode cX2_takeBack 33 = .ok (.iadd, 1) := by decide +kernel
theorem dX2_takeBack_34 : decode cX2_takeBack 34 = .ok (.iconst 4, 1) := by decide +kernel
theorem dX2_takeBack_35 : decode cX2_takeBack 35 = .ok (.irem, 1) := by decide +kernel
theorem dX2_takeBack_36 : decode cX2_takeBack 36 = .ok (.aaload, 1) := by decide +kernel
theorem dX2_takeBack_37 : decode cX2_takeBack 37 = .ok (.invokevirtual 25, 3) := by decide +kernel
theorem dX2_takeBack_40 : decode cX2_takeBack 40 = .ok (.aload_n 0, 1) := by decide +kernel
theorem dX2_takeBack_41 : decode cX2_takeBack 41 = .ok (.getfield 21, 3) := by decide +kernel
theorem dX2_takeBack_44 : decode cX2_takeBack 44 = .ok (.ireturn, 1) := by decide +kernel
theorem dX3_init_0 : decode cX3_init 0 = .ok (.aload_n 0, 1) := by decide +kernel
theorem dX3_init_1 : decode cX3_init 1 = .ok (.invokespecial 1, 3) := by decide +kernel
theorem dX3_init_4 : decode cX3_init 4 = .ok (.aload_n 0, 1) := by decide +kernel
theorem dX3_init_5 : decode cX3_init 5 = .ok (.bipush 112, 2) := by decide +kernel
theorem dX3_init_7 : decode cX3_init 7 = .ok (.putfield 7, 3) := by decide +kernel
theorem dX3_init_10 : decode cX3_init 10 = .ok (.aload_n 0, 1) := by decide +kernel
theorem dX3_init_11 : decode cX3_init 11 = .ok (.iconst 0, 1) := by decide +kernel
theorem dX3_init_12 : decode cX3_init 12 = .ok (.putfield 13, 3) := by decide +kernel
theorem dX3_init_15 : decode cX3_init 15 = .ok (.aload_n 0, 1) := by decide +kernel
theorem dX3_init_16 : decode cX3_init 16 = .ok (.iconst 0, 1) := by decide +kernel
theorem dX3_init_17 : decode cX3_init 17 = .ok (.putfield 17, 3) := by decide +kernel
theorem dX3_init_20 : decode cX3_init 20 = .ok (.return_, 1) := by decide +kernel
theorem dX4_init_0 : decode cX4_init 0 = .ok (.aload_n 0, 1) := by decide +kernel
theorem dX4_init_1 : decode cX4_init 1 = .ok (.invokespecial 3, 3) := by decide +kernel
theorem dX4_init_4 : decode cX4_init 4 = .ok (.aload_n 0, 1) := by decide +kernel
theorem dX4_init_5 : decode cX4_init 5 = .ok (.bipush 60, 2) := by decide +kernel
theorem dX4_init_7 : decode cX4_init 7 = .ok (.newarray .char, 2) := by decide +kernel
theorem dX4_init_9 : decode cX4_init 9 = .ok (.putfield 9, 3) := by decide +kernel
theorem dX4_init_12 : decode cX4_init 12 = .ok (.aload_n 0, 1) := by decide +kernel
theorem dX4_init_13 : decode cX4_init 13 = .ok (.iconst 0, 1) := by decide +kernel
theorem dX4_init_14 : decode cX4_init 14 = .ok (.putfield 15, 3) := by decide +kernel
theorem dX4_init_17 : decode cX4_init 17 = .ok (.aload_n 0, 1) := by decide +kernel
theorem dX4_init_18 : decode cX4_init 18 = .ok (.bipush 20, 2) := by decide +kernel
theorem dX4_init_20 : decode cX4_init 20 = .ok (.anewarray 19, 3) := by decide +kernel
theorem dX4_init_23 : decode cX4_init 23 = .ok (.putfield 21, 3) := by decide +kernel
theorem dX4_init_26 : decode cX4_init 26 = .ok (.aload_n 0, 1) := by decide +kernel
theorem dX4_init_27 : decode cX4_init 27 = .ok (.iconst 0, 1) := by decide +kernel
theorem dX4_init_28 : decode cX4_init 28 = .ok (.putfield 25, 3) := by decide +kernel
theorem dX4_init_31 : decode cX4_init 31 = .ok (.aload_n 0, 1) := by decide +kernel
theorem dX4_init_32 : decode cX4_init 32 = .ok (.iconst 0, 1) := by decide +kernel
theorem dX4_init_33 : decode cX4_init 33 = .ok (.putfield 28, 3) := by decide +kernel
theorem dX4_init_36 : decode cX4_init 36 = .ok (.iconst 0, 1) := by decide +kernel
theorem dX4_init_37 : decode cX4_init 37 = .ok (.istore_n 1, 1) := by decide +kernel
theorem dX4_init_38 : decode cX4_init 38 = .ok (.iload_n 1, 1) := by decide +kernel
theorem dX4_init_39 : decode cX4_init 39 = .ok (.aload_n 0, 1) := by decide +kernel
theorem dX4_init_40 : decode cX4_init 40 = .ok (.getfield 21, 3) := by decide +kernel
theorem dX4_init_43 : decode cX4_init 43 = .ok (.arraylength, 1) := by decide +kernel
theorem dX4_init_44 : decode cX4_init 44 = .ok (.if_icmp .ge 22, 3) := by decide +kernel
theorem dX4_init_47 : decode cX4_init 47 = .ok (.aload_n 0, 1) := by decide +kernel
theorem dX4_init_48 : decode cX4_init 48 = .ok (.getfield 21, 3) := by decide +kernel
theorem dX4_init_51 : decode cX4_init 51 = .ok (.iload_n 1, 1) := by decide +kernel
theorem dX4_init_52 : decode cX4_init 52 = .ok (.new 19, 3) := by decide +kernel
theorem dX4_init_55 : decode cX4_init 55 = .ok (.dup, 1) := by decide +kernel
theorem dX4_init_56 : decode cX4_init 56 = .ok (.invokespecial 31, 3) := by decide +kernel
theorem dX4_init_59 : decode cX4_init 59 = .ok (.aastore, 1) := by decide +kernel
theorem dX4_init_60 : decode cX4_init 60 = .ok (.iinc 1 1, 3) := by decide +kernel
theorem dX4_init_63 : decode cX4_init 63 = .ok (.goto (-25), 3) := by decide +kernel
theorem dX4_init_66 : decode cX4_init 66 = .ok (.return_, 1) := by decide +kernel
theorem dX4_append_0 : decode cX4_append 0 = .ok (.aload_n 0, 1) := by decide +kernel
theorem dX4_append_1 : decode cX4_append 1 = .ok (.getfield 15, 3) := by decide +kernel
theorem dX4_append_4 : decode cX4_append 4 = .ok (.aload_n 0, 1) := by decide +kernel
theorem dX4_append_5 : decode cX4_append 5 = .ok (.getfield 9, 3) := by decide +kernel
theorem dX4_append_8 : decode cX4_append 8 = .ok (.arraylength, 1) := by decide +kernel
theorem dX4_append_9 : decode cX4_append 9 = .ok (.if_icmp .lt 6, 3) := by decide +kernel
theorem dX4_append_12 : decode cX4_append 12 = .ok (.bipush (-3), 2) := by decide +kernel
theorem dX4_append_14 : decode cX4_append 14 = .ok (.ireturn, 1) := by decide +kernel
theorem dX4_append_15 : decode cX4_append 15 = .ok (.aload_n 0, 1) := by decide +kernel
theorem dX4_append_16 : decode cX4_append 16 = .ok (.getfield 9, 3) := by decide +kernel
theorem dX4_append_19 : decode cX4_append 19 = .ok (.aload_n 0, 1) := by decide +kernel
theorem dX4_append_20 : decode cX4_append 20 = .ok (.getfield 15, 3) := by decide +kernel
theorem dX4_append_23 : decode cX4_append 23 = .ok (.iload_n 1, 1) := by decide +kernel
theorem dX4_append_24 : decode cX4_append 24 = .ok (.castore, 1) := by decide +kernel
theorem dX4_append_25 : decode cX4_append 25 = .ok (.aload_n 0, 1) := by decide +kernel
theorem dX4_append_26 : decode cX4_append 26 = .ok (.dup, 1) := by decide +kernel
theorem dX4_append_27 : decode cX4_append 27 = .ok (.getfield 15, 3) := by decide +kernel
theorem dX4_append_30 : decode cX4_append 30 = .ok (.iconst 1, 1) := by decide +kernel
theorem dX4_append_31 : decode cX4_append 31 = .ok (.iadd, 1) := by decide +kernel
theorem dX4_append_32 : decode cX4_append 32 = .ok (.putfield 15, 3) := by decide +kernel
theorem dX4_append_35 : decode cX4_append 35 = .ok (.aload_n 0, 1) := by decide +kernel
theorem dX4_append_36 : decode cX4_append 36 = .ok (.getfield 15, 3) := by decide +kernel
theorem dX4_append_39 : decode cX4_append 39 = .ok (.ireturn, 1) := by decide +kernel
theorem dX4_clear_0 : decode cX4_clear 0 = .ok (.aload_n 0, 1) := by decide +kernel
theorem dX4_clear_1 : decode cX4_clear 1 = .ok (.getfield 15, 3) := by decide +kernel
theorem dX4_clear_4 : decode cX4_clear 4 = .ok (.istore_n 1, 1) := by decide +kernel
theorem dX4_clear_5 : decode cX4_clear 5 = .ok (.aload_n 0, 1) := by decide +kernel
theorem dX4_clear_6 : decode cX4_clear 6 = .ok (.iconst 0, 1) := by decide +kernel
theorem dX4_clear_7 : decode cX4_clear 7 = .ok (.putfield 15, 3) := by decide +kernel
theorem dX4_clear_10 : decode cX4_clear 10 = .ok (.iload_n 1, 1) := by decide +kernel
theorem dX4_clear_11 : decode cX4_clear 11 = .ok (.ireturn, 1) := by decide +kernel
theorem dX4_read_0 : decode cX4_read 0 = .ok (.aload_n 0, 1) := by decide +kernel
theorem dX4_read_1 : decode cX4_read 1 = .ok (.iconst 0, 1) := by decide +kernel
theorem dX4_read_2 : decode cX4_read 2 = .ok (.putfield 28, 3) := by decide +kernel
theorem dX4_read_5 : decode cX4_read 5 = .ok (.aload_n 0, 1) := by decide +kernel
theorem dX4_read_6 : decode cX4_read 6 = .ok (.iconst 0, 1) := by decide +kernel
theorem dX4_read_7 : decode cX4_read 7 = .ok (.putfield 25, 3) := by decide +kernel
theorem dX4_read_10 : decode cX4_read 10 = .ok (.iconst 0, 1) := by decide +kernel
theorem dX4_read_11 : decode cX4_read 11 = .ok (.istore_n 1, 1) := by decide +kernel
theorem dX4_read_12 : decode cX4_read 12 = .ok (.iload_n 1, 1) := by decide +kernel
theorem dX4_read_13 : decode cX4_read 13 = .ok (.aload_n 0, 1) := by decide +kernel
theorem dX4_read_14 : decode cX4_read 14 = .ok (.getfield 21, 3) := by decide +kernel
theorem dX4_read_17 : decode cX4_read 17 = .ok (.arraylength, 1) := by decide +kernel
theorem dX4_read_18 : decode cX4_read 18 = .ok (.if_icmp .ge 61, 3) := by decide +kernel
theorem dX4_read_21 : decode cX4_read 21 = .ok (.aload_n 0, 1) := by decide +kernel
theorem dX4_read_22 : decode cX4_read 22 = .ok (.aload_n 0, 1) := by decide +kernel
theorem dX4_read_23 : decode cX4_read 23 = .ok (.getfield 21, 3) := by decide +kernel
theorem dX4_read_26 : decode cX4_read 26 = .ok (.iload_n 1, 1) := by decide +kernel
theorem dX4_read_27 : decode cX4_read 27 = .ok (.aaload, 1) := by decide +kernel
theorem dX4_read_28 : decode cX4_read 28 = .ok (.invokevirtual 32, 3) := by decide +kernel
theorem dX4_read_31 : decode cX4_read 31 = .ok (.ifCond .ne 8, 3) := by decide +kernel
theorem dX4_read_34 : decode cX4_read 34 = .ok (.aload_n 0, 1) := by decide +kernel
theorem dX4_read_35 : decode cX4_read 35 = .ok (.getfield 28, 3) := by decide +kernel
theorem dX4_read_38 : decode cX4_read 38 = .ok (.ireturn, 1) := by decide +kernel
theorem dX4_read_39 : decode cX4_read 39 = .ok (.aload_n 0, 1) := by decide +kernel
theorem dX4_read_40 : decode cX4_read 40 = .ok (.iload_n 1, 1) := by decide +kernel
theorem dX4_read_41 : decode cX4_read 41 = .ok (.iconst 1, 1) := by decide +kernel
theorem dX4_read_42 : decode cX4_read 42 = .ok (.iadd, 1) := by decide +kernel
theorem dX4_read_43 : decode cX4_read 43 = .ok (.putfield 25, 3) := by decide +kernel
theorem dX4_read_46 : decode cX4_read 46 = .ok (.aload_n 0, 1) := by decide +kernel
theorem dX4_read_47 : decode cX4_read 47 = .ok (.getfield 28, 3) := by decide +kernel
theorem dX4_read_50 : decode cX4_read 50 = .ok (.aload_n 0, 1) := by decide +kernel
theorem dX4_read_51 : decode cX4_read 51 = .ok (.getfield 15, 3) := by decide +kernel
theorem dX4_read_54 : decode cX4_read 54 = .ok (.if_icmp .lt 5, 3) := by decide +kernel
theorem dX4_read_57 : decode cX4_read 57 = .ok (.iconst (-1), 1) := by decide +kernel
theorem dX4_read_58 : decode cX4_read 58 = .ok (.ireturn, 1) := by decide +kernel
theorem dX4_read_59 : decode cX4_read 59 = .ok (.aload_n 0, 1) := by decide +kernel
theorem dX4_read_60 : decode cX4_read 60 = .ok (.bipush 59, 2) := by decide +kernel
theorem dX4_read_62 : decode cX4_read 62 = .ok (.invokevirtual 36, 3) := by decide +kernel
theorem dX4_read_65 : decode cX4_read 65 = .ok (.ifCond .ne 8, 3) := by decide +kernel
theorem dX4_read_68 : decode cX4_read 68 = .ok (.aload_n 0, 1) := by decide +kernel
theorem dX4_read_69 : decode cX4_read 69 = .ok (.getfield 28, 3) := by decide +kernel
theorem dX4_read_72 : decode cX4_read 72 = .ok (.ireturn, 1) := by decide +kernel
theorem dX4_read_73 : decode cX4_read 73 = .ok (.iinc 1 1, 3) := by decide +kernel
theorem dX4_read_76 : decode cX4_read 76 = .ok (.goto (-64), 3) := by decide +kernel
theorem dX4_read_79 : decode cX4_read 79 = .ok (.aload_n 0, 1) := by decide +kernel
theorem dX4_read_80 : decode cX4_read 80 = .ok (.getfield 28, 3) := by decide +kernel
theorem dX4_read_83 : decode cX4_read 83 = .ok (.ireturn, 1) := by decide +kernel
theorem dX4_readOrder_0 : decode cX4_readOrder 0 = .ok (.aload_n 0, 1) := by decide +kernel
theorem dX4_readOrder_1 : decode cX4_readOrder 1 = .ok (.getfield 28, 3) := by decide +kernel
theorem dX4_readOrder_4 : decode cX4_readOrder 4 = .ok (.aload_n 0, 1) := by decide +kernel
theorem dX4_readOrder_5 : decode cX4_readOrder 5 = .ok (.getfield 15, 3) := by decide +kernel
theorem dX4_readOrder_8 : decode cX4_readOrder 8 = .ok (.if_icmp .ge 15, 3) := by decide +kernel
theorem dX4_readOrder_11 : decode cX4_readOrder 11 = .ok (.aload_n 0, 1) := by decide +kernel
theorem dX4_readOrder_12 : decode cX4_readOrder 12 = .ok (.getfield 28, 3) := by decide +kernel
theorem dX4_readOrder_15 : decode cX4_readOrder 15 = .ok (.aload_n 0, 1) := by decide +kernel
theorem dX4_readOrder_16 : decode cX4_readOrder 16 = .ok (.getfield 9, 3) := by decide +kernel
theorem dX4_readOrder_19 : decode cX4_readOrder 19 = .ok (.arraylength, 1) := by decide +kernel
theorem dX4_readOrder_20 : decode cX4_readOrder 20 = .ok (.if_icmp .lt 5, 3) := by decide +kernel
theorem dX4_readOrder_23 : decode cX4_readOrder 23 = .ok (.iconst 0, 1) := by decide +kernel
theorem dX4_readOrder_24 : decode cX4_readOrder 24 = .ok (.ireturn, 1) := by decide +kernel
theorem dX4_readOrder_25 : decode cX4_readOrder 25 = .ok (.aload_n 0, 1) := by decide +kernel
theorem dX4_readOrder_26 : decode cX4_readOrder 26 = .ok (.getfield 9, 3) := by decide +kernel
theorem dX4_readOrder_29 : decode cX4_readOrder 29 = .ok (.aload_n 0, 1) := by decide +kernel
theorem dX4_readOrder_30 : decode cX4_readOrder 30 = .ok (.getfield 28, 3) := by decide +kernel
theorem dX4_readOrder_33 : decode cX4_readOrder 33 = .ok (.caload, 1) := by decide +kernel
theorem dX4_readOrder_34 : decode cX4_readOrder 34 = .ok (.istore_n 2, 1) := by decide +kernel
theorem dX4_readOrder_35 : decode cX4_readOrder 35 = .ok (.aload_n 1, 1) := by decide +kernel
theorem dX4_readOrder_36 : decode cX4_readOrder 36 = .ok (.iload_n 2, 1) := by decide +kernel
theorem dX4_readOrder_37 : decode cX4_readOrder 37 = .ok (.putfield 40, 3) := by decide +kernel
theorem dX4_readOrder_40 : decode cX4_readOrder 40 = .ok (.iload_n 2, 1) := by decide +kernel
theorem dX4_readOrder_41 : decode cX4_readOrder 41 = .ok (.bipush 104, 2) := by decide +kernel
theorem dX4_readOrder_43 : decode cX4_readOrder 43 = .ok (.if_icmp .eq 9, 3) := by decide +kernel
theorem dX4_readOrder_46 : decode cX4_readOrder 46 = .ok (.iload_n 2, 1) := by decide +kernel
theorem dX4_readOrder_47 : decode cX4_readOrder 47 = .ok (.bipush 108, 2) := by decide +kernel
theorem dX4_readOrder_49 : decode cX4_readOrder 49 = .ok (.if_icmp .ne 44, 3) := by decide +kernel
theorem dX4_readOrder_52 : decode cX4_readOrder 52 = .ok (.aload_n 0, 1) := by decide +kernel
theorem dX4_readOrder_53 : decode cX4_readOrder 53 = .ok (.dup, 1) := by decide +kernel
theorem dX4_readOrder_54 : decode cX4_readOrder 54 = .ok (.getfield 28, 3) := by decide +kernel
theorem dX4_readOrder_57 : decode cX4_readOrder 57 = .ok (.iconst 1, 1) := by decide +kernel
theorem dX4_readOrder_58 : decode cX4_readOrder 58 = .ok (.iadd, 1) := by decide +kernel
theorem dX4_readOrder_59 : decode cX4_readOrder 59 = .ok (.putfield 28, 3) := by decide +kernel
theorem dX4_readOrder_62 : decode cX4_readOrder 62 = .ok (.aload_n 0, 1) := by decide +kernel
theorem dX4_readOrder_63 : decode cX4_readOrder 63 = .ok (.aload_n 1, 1) := by decide +kernel
theorem dX4_readOrder_64 : decode cX4_readOrder 64 = .ok (.invokevirtual 44, 3) := by decide +kernel
theorem dX4_readOrder_67 : decode cX4_readOrder 67 = .ok (.ifCond .eq 24, 3) := by decide +kernel
theorem dX4_readOrder_70 : decode cX4_readOrder 70 = .ok (.aload_n 0, 1) := by decide +kernel
theorem dX4_readOrder_71 : decode cX4_readOrder 71 = .ok (.bipush 99, 2) := by decide +kernel
theorem dX4_readOrder_73 : decode cX4_readOrder 73 = .ok (.invokevirtual 36, 3) := by decide +kernel
theorem dX4_readOrder_76 : decode cX4_readOrder 76 = .ok (.ifCond .eq 15, 3) := by decide +kernel
theorem dX4_readOrder_79 : decode cX4_readOrder 79 = .ok (.aload_n 0, 1) := by decide +kernel
theorem dX4_readOrder_80 : decode cX4_readOrder 80 = .ok (.aload_n 1, 1) := by decide +kernel
theorem dX4_readOrder_81 : decode cX4_readOrder 81 = .ok (.invokevirtual 47, 3) := by decide +kernel
theorem dX4_readOrder_84 : decode cX4_readOrder 84 = .ok (.ifCond .eq 7, 3) := by decide +kernel
theorem dX4_readOrder_87 : decode cX4_readOrder 87 = .ok (.iconst 1, 1) := by decide +kernel
theorem dX4_readOrder_88 : decode cX4_readOrder 88 = .ok (.goto 4, 3) := by decide +kernel
theorem dX4_readOrder_91 : decode cX4_readOrder 91 = .ok (.iconst 0, 1) := by decide +kernel
theorem dX4_readOrder_92 : decode cX4_readOrder 92 = .ok (.ireturn, 1) := by decide +kernel
theorem dX4_readOrder_93 : decode cX4_readOrder 93 = .ok (.iload_n 2, 1) := by decide +kernel
theorem dX4_readOrder_94 : decode cX4_readOrder 94 = .ok (.bipush 98, 2) := by decide +kernel
theorem dX4_readOrder_96 : decode cX4_readOrder 96 = .ok (.if_icmp .eq 9, 3) := by decide +kernel
theorem dX4_readOrder_99 : decode cX4_readOrder 99 = .ok (.iload_n 2, 1) := by decide +kernel
theorem dX4_readOrder_100 : decode cX4_readOrder 100 = .ok (.bipush 112, 2) := by decide +kernel
theorem dX4_readOrder_102 : decode cX4_readOrder 102 = .ok (.if_icmp .ne 19, 3) := by decide +kernel
theorem dX4_readOrder_105 : decode cX4_readOrder 105 = .ok (.aload_n 0, 1) := by decide +kernel
theorem dX4_readOrder_106 : decode cX4_readOrder 106 = .ok (.dup, 1) := by decide +kernel
theorem dX4_readOrder_107 : decode cX4_readOrder 107 = .ok (.getfield 28, 3) := by decide +kernel
theorem dX4_readOrder_110 : decode cX4_readOrder 110 = .ok (.iconst 1, 1) := by decide +kernel
theorem dX4_readOrder_111 : decode cX4_readOrder 111 = .ok (.iadd, 1) := by decide +kernel
theorem dX4_readOrder_112 : decode cX4_readOrder 112 = .ok (.putfield 28, 3) := by decide +kernel
theorem dX4_readOrder_115 : decode cX4_readOrder 115 = .ok (.aload_n 0, 1) := by decide +kernel
theorem dX4_readOrder_116 : decode cX4_readOrder 116 = .ok (.aload_n 1, 1) := by decide +kernel
theorem dX4_readOrder_117 : decode cX4_readOrder 117 = .ok (.invokevirtual 44, 3) := by decide +kernel
theorem dX4_readOrder_120 : decode cX4_readOrder 120 = .ok (.ireturn, 1) := by decide +kernel
theorem dX4_readOrder_121 : decode cX4_readOrder 121 = .ok (.iload_n 2, 1) := by decide +kernel
theorem dX4_readOrder_122 : decode cX4_readOrder 122 = .ok (.bipush 114, 2) := by decide +kernel
theorem dX4_readOrder_124 : decode cX4_readOrder 124 = .ok (.if_icmp .eq 9, 3) := by decide +kernel
theorem dX4_readOrder_127 : decode cX4_readOrder 127 = .ok (.iload_n 2, 1) := by decide +kernel
theorem dX4_readOrder_128 : decode cX4_readOrder 128 = .ok (.bipush 115, 2) := by decide +kernel
theorem dX4_readOrder_130 : decode cX4_readOrder 130 = .ok (.if_icmp .ne 19, 3) := by decide +kernel
theorem dX4_readOrder_133 : decode cX4_readOrder 133 = .ok (.aload_n 0, 1) := by decide +kernel
theorem dX4_readOrder_134 : decode cX4_readOrder 134 = .ok (.dup, 1) := by decide +kernel
theorem dX4_readOrder_135 : decode cX4_readOrder 135 = .ok (.getfield 28, 3) := by decide +kernel
theorem dX4_readOrder_138 : decode cX4_readOrder 138 = .ok (.iconst 1, 1) := by decide +kernel
theorem dX4_readOrder_139 : decode cX4_readOrder 139 = .ok (.iadd, 1) := by decide +kernel
theorem dX4_readOrder_140 : decode cX4_readOrder 140 = .ok (.putfield 28, 3) := by decide +kernel
theorem dX4_readOrder_143 : decode cX4_readOrder 143 = .ok (.aload_n 0, 1) := by decide +kernel
theorem dX4_readOrder_144 : decode cX4_readOrder 144 = .ok (.aload_n 1, 1) := by decide +kernel
theorem dX4_readOrder_145 : decode cX4_readOrder 145 = .ok (.invokevirtual 50, 3) := by decide +kernel
theorem dX4_readOrder_148 : decode cX4_readOrder 148 = .ok (.ireturn, 1) := by decide +kernel
theorem dX4_readOrder_149 : decode cX4_readOrder 149 = .ok (.iconst 0, 1) := by decide +kernel
theorem dX4_readOrder_150 : decode cX4_readOrder 150 = .ok (.ireturn, 1) := by decide +kernel
theorem dX4_readNumber_0 : decode cX4_readNumber 0 = .ok (.aload_n 0, 1) := by decide +kernel
theorem dX4_readNumber_1 : decode cX4_readNumber 1 = .ok (.invokevirtual 53, 3) := by decide +kernel
theorem dX4_readNumber_4 : decode cX4_readNumber 4 = .ok (.ifCond .ne 5, 3) := by decide +kernel
theorem dX4_readNumber_7 : decode cX4_readNumber 7 = .ok (.iconst 0, 1) := by decide +kernel
theorem dX4_readNumber_8 : decode cX4_readNumber 8 = .ok (.ireturn, 1) := by decide +kernel
theorem dX4_readNumber_9 : decode cX4_readNumber 9 = .ok (.aload_n 1, 1) := by decide +kernel
theorem dX4_readNumber_10 : decode cX4_readNumber 10 = .ok (.aload_n 0, 1) := by decide +kernel
theorem dX4_readNumber_11 : decode cX4_readNumber 11 = .ok (.invokevirtual 57, 3) := by decide +kernel
theorem dX4_readNumber_14 : decode cX4_readNumber 14 = .ok (.putfield 61, 3) := by decide +kernel
theorem dX4_readNumber_17 : decode cX4_readNumber 17 = .ok (.aload_n 1, 1) := by decide +kernel
theorem dX4_readNumber_18 : decode cX4_readNumber 18 = .ok (.getfield 61, 3) := by decide +kernel
theorem dX4_readNumber_21 : decode cX4_readNumber 21 = .ok (.ifCond .eq 26, 3) := by decide +kernel
theorem dX4_readNumber_24 : decode cX4_readNumber 24 = .ok (.aload_n 0, 1) := by decide +kernel
theorem dX4_readNumber_25 : decode cX4_readNumber 25 = .ok (.invokevirtual 53, 3) := by decide +kernel
theorem dX4_readNumber_28 : decode cX4_readNumber 28 = .ok (.ifCond .eq 19, 3) := by decide +kernel
theorem dX4_readNumber_31 : decode cX4_readNumber 31 = .ok (.aload_n 1, 1) := by decide +kernel
theorem dX4_readNumber_32 : decode cX4_readNumber 32 = .ok (.bipush 10, 2) := by decide +kernel
theorem dX4_readNumber_34 : decode cX4_readNumber 34 = .ok (.aload_n 1, 1) := by decide +kernel
theorem dX4_readNumber_35 : decode cX4_readNumber 35 = .ok (.getfield 61, 3) := by decide +kernel
theorem dX4_readNumber_38 : decode cX4_readNumber 38 = .ok (.imul, 1) := by decide +kernel
theorem dX4_readNumber_39 : decode cX4_readNumber 39 = .ok (.aload_n 0, 1) := by decide +kernel
theorem dX4_readNumber_40 : decode cX4_readNumber 40 = .ok (.invokevirtual 57, 3) := by decide +kernel
theorem dX4_readNumber_43 : decode cX4_readNumber 43 = .ok (.iadd, 1) := by decide +kernel
theorem dX4_readNumber_44 : decode cX4_readNumber 44 = .ok (.putfield 61, 3) := by decide +kernel
theorem dX4_readNumber_47 : decode cX4_readNumber 47 = .ok (.iconst 1, 1) := by decide +kernel
theorem dX4_readNumber_48 : decode cX4_readNumber 48 = .ok (.ireturn, 1) := by decide +kernel
theorem dX4_readAsset_0 : decode cX4_readAsset 0 = .ok (.aload_n 0, 1) := by decide +kernel
theorem dX4_readAsset_1 : decode cX4_readAsset 1 = .ok (.invokevirtual 53, 3) := by decide +kernel
theorem dX4_readAsset_4 : decode cX4_readAsset 4 = .ok (.ifCond .ne 5, 3) := by decide +kernel
theorem dX4_readAsset_7 : decode cX4_readAsset 7 = .ok (.iconst 0, 1) := by decide +kernel
theorem dX4_readAsset_8 : decode cX4_readAsset 8 = .ok (.ireturn, 1) := by decide +kernel
theorem dX4_readAsset_9 : decode cX4_readAsset 9 = .ok (.aload_n 1, 1) := by decide +kernel
theorem dX4_readAsset_10 : decode cX4_readAsset 10 = .ok (.aload_n 0, 1) := by decide +kernel
theorem dX4_readAsset_11 : decode cX4_readAsset 11 = .ok (.invokevirtual 57, 3) := by decide +kernel
theorem dX4_readAsset_14 : decode cX4_readAsset 14 = .ok (.putfield 61, 3) := by decide +kernel
theorem dX4_readAsset_17 : decode cX4_readAsset 17 = .ok (.iconst 1, 1) := by decide +kernel
theorem dX4_readAsset_18 : decode cX4_readAsset 18 = .ok (.ireturn, 1) := by decide +kernel
theorem dX4_readCrew_0 : decode cX4_readCrew 0 = .ok (.aload_n 0, 1) := by decide +kernel
theorem dX4_readCrew_1 : decode cX4_readCrew 1 = .ok (.invokevirtual 53, 3) := by decide +kernel
theorem dX4_readCrew_4 : decode cX4_readCrew 4 = .ok (.ifCond .ne 5, 3) := by decide +kernel
theorem dX4_readCrew_7 : decode cX4_readCrew 7 = .ok (.iconst 0, 1) := by decide +kernel
theorem dX4_readCrew_8 : decode cX4_readCrew 8 = .ok (.ireturn, 1) := by decide +kernel
theorem dX4_readCrew_9 : decode cX4_readCrew 9 = .ok (.aload_n 1, 1) := by decide +kernel
theorem dX4_readCrew_10 : decode cX4_readCrew 10 = .ok (.aload_n 0, 1) := by decide +kernel
theorem dX4_readCrew_11 : decode cX4_readCrew 11 = .ok (.invokevirtual 57, 3) := by decide +kernel
theorem dX4_readCrew_14 : decode cX4_readCrew 14 = .ok (.putfield 64, 3) := by decide +kernel
theorem dX4_readCrew_17 : decode cX4_readCrew 17 = .ok (.iconst 1, 1) := by decide +kernel
theorem dX4_readCrew_18 : decode cX4_readCrew 18 = .ok (.ireturn, 1) := by decide +kernel
theorem dX4_readSign_0 : decode cX4_readSign 0 = .ok (.aload_n 0, 1) := by decide +kernel
theorem dX4_readSign_1 : decode cX4_readSign 1 = .ok (.getfield 28, 3) := by decide +kernel
theorem dX4_readSign_4 : decode cX4_readSign 4 = .ok (.aload_n 0, 1) := by decide +kernel
theorem dX4_readSign_5 : decode cX4_readSign 5 = .ok (.getfield 15, 3) := by decide +kernel
theorem dX4_readSign_8 : decode cX4_readSign 8 = .ok (.if_icmp .ge 28, 3) := by decide +kernel
theorem dX4_readSign_11 : decode cX4_readSign 11 = .ok (.aload_n 0, 1) := by decide +kernel
theorem dX4_readSign_12 : decode cX4_readSign 12 = .ok (.getfield 28, 3) := by decide +kernel
theorem dX4_readSign_15 : decode cX4_readSign 15 = .ok (.aload_n 0, 1) := by decide +kernel
theorem dX4_readSign_16 : decode cX4_readSign 16 = .ok (.getfield 9, 3) := by decide +kernel
theorem dX4_readSign_19 : decode cX4_readSign 19 = .ok (.arraylength, 1) := by decide +kernel
theorem dX4_readSign_20 : decode cX4_readSign 20 = .ok (.if_icmp .ge 16, 3) := by decide +kernel
theorem dX4_readSign_23 : decode cX4_readSign 23 = .ok (.aload_n 0, 1) := by decide +kernel
theorem dX4_readSign_24 : decode cX4_readSign 24 = .ok (.getfield 9, 3) := by decide +kernel
theorem dX4_readSign_27 : decode cX4_readSign 27 = .ok (.aload_n 0, 1) := by decide +kernel
theorem dX4_readSign_28 : decode cX4_readSign 28 = .ok (.getfield 28, 3) := by decide +kernel
theorem dX4_readSign_31 : decode cX4_readSign 31 = .ok (.caload, 1) := by decide +kernel
theorem dX4_readSign_32 : decode cX4_readSign 32 = .ok (.iload_n 1, 1) := by decide +kernel
theorem dX4_readSign_33 : decode cX4_readSign 33 = .ok (.if_icmp .eq 5, 3) := by decide +kernel
theorem dX4_readSign_36 : decode cX4_readSign 36 = .ok (.iconst 0, 1) := by decide +kernel
theorem dX4_readSign_37 : decode cX4_readSign 37 = .ok (.ireturn, 1) := by decide +kernel
theorem dX4_readSign_38 : decode cX4_readSign 38 = .ok (.aload_n 0, 1) := by decide +kernel
theorem dX4_readSign_39 : decode cX4_readSign 39 = .ok (.dup, 1) := by decide +kernel
theorem dX4_readSign_40 : decode cX4_readSign 40 = .ok (.getfield 28, 3) := by decide +kernel
theorem dX4_readSign_43 : decode cX4_readSign 43 = .ok (.iconst 1, 1) := by decide +kernel
theorem dX4_readSign_44 : decode cX4_readSign 44 = .ok (.iadd, 1) := by decide +kernel
theorem dX4_readSign_45 : decode cX4_readSign 45 = .ok (.putfield 28, 3) := by decide +kernel
theorem dX4_readSign_48 : decode cX4_readSign 48 = .ok (.iconst 1, 1) := by decide +kernel
theorem dX4_readSign_49 : decode cX4_readSign 49 = .ok (.ireturn, 1) := by decide +kernel
theorem dX4_isAtDigit_0 : decode cX4_isAtDigit 0 = .ok (.aload_n 0, 1) := by decide +kernel
theorem dX4_isAtDigit_1 : decode cX4_isAtDigit 1 = .ok (.getfield 28, 3) := by decide +kernel
theorem dX4_isAtDigit_4 : decode cX4_isAtDigit 4 = .ok (.aload_n 0, 1) := by decide +kernel
theorem dX4_isAtDigit_5 : decode cX4_isAtDigit 5 = .ok (.getfield 15, 3) := by decide +kernel
theorem dX4_isAtDigit_8 : decode cX4_isAtDigit 8 = .ok (.if_icmp .ge 47, 3) := by decide +kernel
theorem dX4_isAtDigit_11 : decode cX4_isAtDigit 11 = .ok (.aload_n 0, 1) := by decide +kernel
theorem dX4_isAtDigit_12 : decode cX4_isAtDigit 12 = .ok (.getfield 28, 3) := by decide +kernel
theorem dX4_isAtDigit_15 : decode cX4_isAtDigit 15 = .ok (.aload_n 0, 1) := by decide +kernel
theorem dX4_isAtDigit_16 : decode cX4_isAtDigit 16 = .ok (.getfield 9, 3) := by decide +kernel
theorem dX4_isAtDigit_19 : decode cX4_isAtDigit 19 = .ok (.arraylength, 1) := by decide +kernel
theorem dX4_isAtDigit_20 : decode cX4_isAtDigit 20 = .ok (.if_icmp .ge 35, 3) := by decide +kernel
theorem dX4_isAtDigit_23 : decode cX4_isAtDigit 23 = .ok (.aload_n 0, 1) := by decide +kernel
theorem dX4_isAtDigit_24 : decode cX4_isAtDigit 24 = .ok (.getfield 9, 3) := by decide +kernel
theorem dX4_isAtDigit_27 : decode cX4_isAtDigit 27 = .ok (.aload_n 0, 1) := by decide +kernel
theorem dX4_isAtDigit_28 : decode cX4_isAtDigit 28 = .ok (.getfield 28, 3) := by decide +kernel
theorem dX4_isAtDigit_31 : decode cX4_isAtDigit 31 = .ok (.caload, 1) := by decide +kernel
theorem dX4_isAtDigit_32 : decode cX4_isAtDigit 32 = .ok (.bipush 48, 2) := by decide +kernel
theorem dX4_isAtDigit_34 : decode cX4_isAtDigit 34 = .ok (.if_icmp .lt 21, 3) := by decide +kernel
theorem dX4_isAtDigit_37 : decode cX4_isAtDigit 37 = .ok (.aload_n 0, 1) := by decide +kernel
theorem dX4_isAtDigit_38 : decode cX4_isAtDigit 38 = .ok (.getfield 9, 3) := by decide +kernel
theorem dX4_isAtDigit_41 : decode cX4_isAtDigit 41 = .ok (.aload_n 0, 1) := by decide +kernel
theorem dX4_isAtDigit_42 : decode cX4_isAtDigit 42 = .ok (.getfield 28, 3) := by decide +kernel
theorem dX4_isAtDigit_45 : decode cX4_isAtDigit 45 = .ok (.caload, 1) := by decide +kernel
theorem dX4_isAtDigit_46 : decode cX4_isAtDigit 46 = .ok (.bipush 57, 2) := by decide +kernel
theorem dX4_isAtDigit_48 : decode cX4_isAtDigit 48 = .ok (.if_icmp .gt 7, 3) := by decide +kernel
theorem dX4_isAtDigit_51 : decode cX4_isAtDigit 51 = .ok (.iconst 1, 1) := by decide +kernel
theorem dX4_isAtDigit_52 : decode cX4_isAtDigit 52 = .ok (.goto 4, 3) := by decide +kernel
theorem dX4_isAtDigit_55 : decode cX4_isAtDigit 55 = .ok (.iconst 0, 1) := by decide +kernel
theorem dX4_isAtDigit_56 : decode cX4_isAtDigit 56 = .ok (.ireturn, 1) := by decide +kernel
theorem dX4_readDigit_0 : decode cX4_readDigit 0 = .ok (.aload_n 0, 1) := by decide +kernel
theorem dX4_readDigit_1 : decode cX4_readDigit 1 = .ok (.getfield 28, 3) := by decide +kernel
theorem dX4_readDigit_4 : decode cX4_readDigit 4 = .ok (.aload_n 0, 1) := by decide +kernel
theorem dX4_readDigit_5 : decode cX4_readDigit 5 = .ok (.getfield 9, 3) := by decide +kernel
theorem dX4_readDigit_8 : decode cX4_readDigit 8 = .ok (.arraylength, 1) := by decide +kernel
theorem dX4_readDigit_9 : decode cX4_readDigit 9 = .ok (.if_icmp .lt 5, 3) := by decide +kernel
theorem dX4_readDigit_12 : decode cX4_readDigit 12 = .ok (.iconst 0, 1) := by decide +kernel
theorem dX4_readDigit_13 : decode cX4_readDigit 13 = .ok (.ireturn, 1) := by decide +kernel
theorem dX4_readDigit_14 : decode cX4_readDigit 14 = .ok (.aload_n 0, 1) := by decide +kernel
theorem dX4_readDigit_15 : decode cX4_readDigit 15 = .ok (.dup, 1) := by decide +kernel
theorem dX4_readDigit_16 : decode cX4_readDigit 16 = .ok (.getfield 28, 3) := by decide +kernel
theorem dX4_readDigit_19 : decode cX4_readDigit 19 = .ok (.iconst 1, 1) := by decide +kernel
theorem dX4_readDigit_20 : decode cX4_readDigit 20 = .ok (.iadd, 1) := by decide +kernel
theorem dX4_readDigit_21 : decode cX4_readDigit 21 = .ok (.putfield 28, 3) := by decide +kernel
theorem dX4_readDigit_24 : decode cX4_readDigit 24 = .ok (.aload_n 0, 1) := by decide +kernel
theorem dX4_readDigit_25 : decode cX4_readDigit 25 = .ok (.getfield 9, 3) := by decide +kernel
theorem dX4_readDigit_28 : decode cX4_readDigit 28 = .ok (.aload_n 0, 1) := by decide +kernel
theorem dX4_readDigit_29 : decode cX4_readDigit 29 = .ok (.getfield 28, 3) := by decide +kernel
theorem dX4_readDigit_32 : decode cX4_readDigit 32 = .ok (.iconst 1, 1) := by decide +kernel
theorem dX4_readDigit_33 : decode cX4_readDigit 33 = .ok (.isub, 1) := by decide +kernel
theorem dX4_readDigit_34 : decode cX4_readDigit 34 = .ok (.caload, 1) := by decide +kernel
theorem dX4_readDigit_35 : decode cX4_readDigit 35 = .ok (.bipush 48, 2) := by decide +kernel
theorem dX4_readDigit_37 : decode cX4_readDigit 37 = .ok (.isub, 1) := by decide +kernel
theorem dX4_readDigit_38 : decode cX4_readDigit 38 = .ok (.ireturn, 1) := by decide +kernel
theorem dX5_init_0 : decode cX5_init 0 = .ok (.aload_n 0, 1) := by decide +kernel
theorem dX5_init_1 : decode cX5_init 1 = .ok (.invokespecial 3, 3) := by decide +kernel
theorem dX5_init_4 : decode cX5_init 4 = .ok (.aload_n 0, 1) := by decide +kernel
theorem dX5_init_5 : decode cX5_init 5 = .ok (.bipush 8, 2) := by decide +kernel
theorem dX5_init_7 : decode cX5_init 7 = .ok (.anewarray 9, 3) := by decide +kernel
theorem dX5_init_10 : decode cX5_init 10 = .ok (.putfield 11, 3) := by decide +kernel
theorem dX5_init_13 : decode cX5_init 13 = .ok (.aload_n 0, 1) := by decide +kernel
theorem dX5_init_14 : decode cX5_init 14 = .ok (.iconst 5, 1) := by decide +kernel
theorem dX5_init_15 : decode cX5_init 15 = .ok (.anewarray 17, 3) := by decide +kernel
theorem dX5_init_18 : decode cX5_init 18 = .ok (.putfield 19, 3) := by decide +kernel
theorem dX5_init_21 : decode cX5_init 21 = .ok (.aload_n 0, 1) := by decide +kernel
theorem dX5_init_22 : decode cX5_init 22 = .ok (.bipush 24, 2) := by decide +kernel
theorem dX5_init_24 : decode cX5_init 24 = .ok (.anewarray 23, 3) := by decide +kernel
theorem dX5_init_27 : decode cX5_init 27 = .ok (.putfield 25, 3) := by decide +kernel
theorem dX5_init_30 : decode cX5_init 30 = .ok (.aload_n 0, 1) := by decide +kernel
theorem dX5_init_31 : decode cX5_init 31 = .ok (.iconst 5, 1) := by decide +kernel
theorem dX5_init_32 : decode cX5_init 32 = .ok (.newarray .int, 2) := by decide +kernel
theorem dX5_init_34 : decode cX5_init 34 = .ok (.putfield 29, 3) := by decide +kernel
theorem dX5_init_37 : decode cX5_init 37 = .ok (.aload_n 0, 1) := by decide +kernel
theorem dX5_init_38 : decode cX5_init 38 = .ok (.iconst 0, 1) := by decide +kernel
theorem dX5_init_39 : decode cX5_init 39 = .ok (.putfield 33, 3) := by decide +kernel
theorem dX5_init_42 : decode cX5_init 42 = .ok (.aload_n 0, 1) := by decide +kernel
theorem dX5_init_43 : decode cX5_init 43 = .ok (.iconst 0, 1) := by decide +kernel
theorem dX5_init_44 : decode cX5_init 44 = .ok (.putfield 37, 3) := by decide +kernel
theorem dX5_init_47 : decode cX5_init 47 = .ok (.aload_n 0, 1) := by decide +kernel
theorem dX5_init_48 : decode cX5_init 48 = .ok (.iconst 0, 1) := by decide +kernel
theorem dX5_init_49 : decode cX5_init 49 = .ok (.putfield 40, 3) := by decide +kernel
theorem dX5_init_52 : decode cX5_init 52 = .ok (.aload_n 0, 1) := by decide +kernel
theorem dX5_init_53 : decode cX5_init 53 = .ok (.iconst 0, 1) := by decide +kernel
theorem dX5_init_54 : decode cX5_init 54 = .ok (.putfield 43, 3) := by decide +kernel
theorem dX5_init_57 : decode cX5_init 57 = .ok (.iconst 0, 1) := by decide +kernel
theorem dX5_init_58 : decode cX5_init 58 = .ok (.istore_n 1, 1) := by decide +kernel
theorem dX5_init_59 : decode cX5_init 59 = .ok (.iload_n 1, 1) := by decide +kernel
theorem dX5_init_60 : decode cX5_init 60 = .ok (.aload_n 0, 1) := by decide +kernel
theorem dX5_init_61 : decode cX5_init 61 = .ok (.getfield 11, 3) := by decide +kernel
theorem dX5_init_64 : decode cX5_init 64 = .ok (.arraylength, 1) := by decide +kernel
theorem dX5_init_65 : decode cX5_init 65 = .ok (.if_icmp .ge 22, 3) := by decide +kernel
theorem dX5_init_68 : decode cX5_init 68 = .ok (.aload_n 0, 1) := by decide +kernel
theorem dX5_init_69 : decode cX5_init 69 = .ok (.getfield 11, 3) := by decide +kernel
theorem dX5_init_72 : decode cX5_init 72 = .ok (.iload_n 1, 1) := by decide +kernel
theorem dX5_init_73 : decode cX5_init 73 = .ok (.new 9, 3) := by decide +kernel
theorem dX5_init_76 : decode cX5_init 76 = .ok (.dup, 1) := by decide +kernel
theorem dX5_init_77 : decode cX5_init 77 = .ok (.invokespecial 46, 3) := by decide +kernel
theorem dX5_init_80 : decode cX5_init 80 = .ok (.aastore, 1) := by decide +kernel
theorem dX5_init_81 : decode cX5_init 81 = .ok (.iinc 1 1, 3) := by decide +kernel
theorem dX5_init_84 : decode cX5_init 84 = .ok (.goto (-25), 3) := by decide +kernel
theorem dX5_init_87 : decode cX5_init 87 = .ok (.iconst 0, 1) := by decide +kernel
theorem dX5_init_88 : decode cX5_init 88 = .ok (.istore_n 1, 1) := by decide +kernel
theorem dX5_init_89 : decode cX5_init 89 = .ok (.iload_n 1, 1) := by decide +kernel
theorem dX5_init_90 : decode cX5_init 90 = .ok (.aload_n 0, 1) := by decide +kernel
theorem dX5_init_91 : decode cX5_init 91 = .ok (.getfield 19, 3) := by decide +kernel
theorem dX5_init_94 : decode cX5_init 94 = .ok (.arraylength, 1) := by decide +kernel
theorem dX5_init_95 : decode cX5_init 95 = .ok (.if_icmp .ge 22, 3) := by decide +kernel
theorem dX5_init_98 : decode cX5_init 98 = .ok (.aload_n 0, 1) := by decide +kernel
theorem dX5_init_99 : decode cX5_init 99 = .ok (.getfield 19, 3) := by decide +kernel
theorem dX5_init_102 : decode cX5_init 102 = .ok (.iload_n 1, 1) := by decide +kernel
theorem dX5_init_103 : decode cX5_init 103 = .ok (.new 17, 3) := by decide +kernel
theorem dX5_init_106 : decode cX5_init 106 = .ok (.dup, 1) := by decide +kernel
theorem dX5_init_107 : decode cX5_init 107 = .ok (.invokespecial 47, 3) := by decide +kernel
theorem dX5_init_110 : decode cX5_init 110 = .ok (.aastore, 1) := by decide +kernel
theorem dX5_init_111 : decode cX5_init 111 = .ok (.iinc 1 1, 3) := by decide +kernel
theorem dX5_init_114 : decode cX5_init 114 = .ok (.goto (-25), 3) := by decide +kernel
theorem dX5_init_117 : decode cX5_init 117 = .ok (.iconst 0, 1) := by decide +kernel
theorem dX5_init_118 : decode cX5_init 118 = .ok (.istore_n 1, 1) := by decide +kernel
theorem dX5_init_119 : decode cX5_init 119 = .ok (.iload_n 1, 1) := by decide +kernel
theorem dX5_init_120 : decode cX5_init 120 = .ok (.aload_n 0, 1) := by decide +kernel
theorem dX5_init_121 : decode cX5_init 121 = .ok (.getfield 25, 3) := by decide +kernel
theorem dX5_init_124 : decode cX5_init 124 = .ok (.arraylength, 1) := by decide +kernel
theorem dX5_init_125 : decode cX5_init 125 = .ok (.if_icmp .ge 22, 3) := by decide +kernel
theorem dX5_init_128 : decode cX5_init 128 = .ok (.aload_n 0, 1) := by decide +kernel
theorem dX5_init_129 : decode cX5_init 129 = .ok (.getfield 25, 3) := by decide +kernel
theorem dX5_init_132 : decode cX5_init 132 = .ok (.iload_n 1, 1) := by decide +kernel
theorem dX5_init_133 : decode cX5_init 133 = .ok (.new 23, 3) := by decide +kernel
theorem dX5_init_136 : decode cX5_init 136 = .ok (.dup, 1) := by decide +kernel
theorem dX5_init_137 : decode cX5_init 137 = .ok (.invokespecial 48, 3) := by decide +kernel
theorem dX5_init_140 : decode cX5_init 140 = .ok (.aastore, 1) := by decide +kernel
theorem dX5_init_141 : decode cX5_init 141 = .ok (.iinc 1 1, 3) := by decide +kernel
theorem dX5_init_144 : decode cX5_init 144 = .ok (.goto (-25), 3) := by decide +kernel
theorem dX5_init_147 : decode cX5_init 147 = .ok (.return_, 1) := by decide +kernel
theorem dX5_copyFrom_0 : decode cX5_copyFrom 0 = .ok (.iconst 0, 1) := by decide +kernel
theorem dX5_copyFrom_1 : decode cX5_copyFrom 1 = .ok (.istore_n 2, 1) := by decide +kernel
theorem dX5_copyFrom_2 : decode cX5_copyFrom 2 = .ok (.iload_n 2, 1) := by decide +kernel
theorem dX5_copyFrom_3 : decode cX5_copyFrom 3 = .ok (.aload_n 0, 1) := by decide +kernel
theorem dX5_copyFrom_4 : decode cX5_copyFrom 4 = .ok (.getfield 11, 3) := by decide +kernel
theorem dX5_copyFrom_7 : decode cX5_copyFrom 7 = .ok (.arraylength, 1) := by decide +kernel
theorem dX5_copyFrom_8 : decode cX5_copyFrom 8 = .ok (.if_icmp .ge 24, 3) := by decide +kernel
theorem dX5_copyFrom_11 : decode cX5_copyFrom 11 = .ok (.aload_n 0, 1) := by decide +kernel
theorem dX5_copyFrom_12 : decode cX5_copyFrom 12 = .ok (.getfield 11, 3) := by decide +kernel
theorem dX5_copyFrom_15 : decode cX5_copyFrom 15 = .ok (.iload_n 2, 1) := by decide +kernel
theorem dX5_copyFrom_16 : decode cX5_copyFrom 16 = .ok (.aaload, 1) := by decide +kernel
theorem dX5_copyFrom_17 : decode cX5_copyFrom 17 = .ok (.aload_n 1, 1) := by decide +kernel
theorem dX5_copyFrom_18 : decode cX5_copyFrom 18 = .ok (.getfield 11, 3) := by decide +kernel
theorem dX5_copyFrom_21 : decode cX5_copyFrom 21 = .ok (.iload_n 2, 1) := by decide +kernel
theorem dX5_copyFrom_22 : decode cX5_copyFrom 22 = .ok (.aaload, 1) := by decide +kernel
theorem dX5_copyFrom_23 : decode cX5_copyFrom 23 = .ok (.invokevirtual 49, 3) := by decide +kernel
theorem dX5_copyFrom_26 : decode cX5_copyFrom 26 = .ok (.iinc 2 1, 3) := by decide +kernel
theorem dX5_copyFrom_29 : decode cX5_copyFrom 29 = .ok (.goto (-27), 3) := by decide +kernel
theorem dX5_copyFrom_32 : decode cX5_copyFrom 32 = .ok (.iconst 0, 1) := by decide +kernel
theorem dX5_copyFrom_33 : decode cX5_copyFrom 33 = .ok (.istore_n 2, 1) := by decide +kernel
theorem dX5_copyFrom_34 : decode cX5_copyFrom 34 = .ok (.iload_n 2, 1) := by decide +kernel
theorem dX5_copyFrom_35 : decode cX5_copyFrom 35 = .ok (.aload_n 0, 1) := by decide +kernel
theorem dX5_copyFrom_36 : decode cX5_copyFrom 36 = .ok (.getfield 19, 3) := by decide +kernel
theorem dX5_copyFrom_39 : decode cX5_copyFrom 39 = .ok (.arraylength, 1) := by decide +kernel
theorem dX5_copyFrom_40 : decode cX5_copyFrom 40 = .ok (.if_icmp .ge 24, 3) := by decide +kernel
theorem dX5_copyFrom_43 : decode cX5_copyFrom 43 = .ok (.aload_n 0, 1) := by decide +kernel
theorem dX5_copyFrom_44 : decode cX5_copyFrom 44 = .ok (.getfield 19, 3) := by decide +kernel
theorem dX5_copyFrom_47 : decode cX5_copyFrom 47 = .ok (.iload_n 2, 1) := by decide +kernel
theorem dX5_copyFrom_48 : decode cX5_copyFrom 48 = .ok (.aaload, 1) := by decide +kernel
theorem dX5_copyFrom_49 : decode cX5_copyFrom 49 = .ok (.aload_n 1, 1) := by decide +kernel
theorem dX5_copyFrom_50 : decode cX5_copyFrom 50 = .ok (.getfield 19, 3) := by decide +kernel
theorem dX5_copyFrom_53 : decode cX5_copyFrom 53 = .ok (.iload_n 2, 1) := by decide +kernel
theorem dX5_copyFrom_54 : decode cX5_copyFrom 54 = .ok (.aaload, 1) := by decide +kernel
theorem dX5_copyFrom_55 : decode cX5_copyFrom 55 = .ok (.invokevirtual 53, 3) := by decide +kernel
theorem dX5_copyFrom_58 : decode cX5_copyFrom 58 = .ok (.iinc 2 1, 3) := by decide +kernel
theorem dX5_copyFrom_61 : decode cX5_copyFrom 61 = .ok (.goto (-27), 3) := by decide +kernel
theorem dX5_copyFrom_64 : decode cX5_copyFrom 64 = .ok (.iconst 0, 1) := by decide +kernel
theorem dX5_copyFrom_65 : decode cX5_copyFrom 65 = .ok (.istore_n 2, 1) := by decide +kernel
theorem dX5_copyFrom_66 : decode cX5_copyFrom 66 = .ok (.iload_n 2, 1) := by decide +kernel
theorem dX5_copyFrom_67 : decode cX5_copyFrom 67 = .ok (.aload_n 0, 1) := by decide +kernel
theorem dX5_copyFrom_68 : decode cX5_copyFrom 68 = .ok (.getfield 25, 3) := by decide +kernel
theorem dX5_copyFrom_71 : decode cX5_copyFrom 71 = .ok (.arraylength, 1) := by decide +kernel
theorem dX5_copyFrom_72 : decode cX5_copyFrom 72 = .ok (.if_icmp .ge 24, 3) := by decide +kernel
theorem dX5_copyFrom_75 : decode cX5_copyFrom 75 = .ok (.aload_n 0, 1) := by decide +kernel
theorem dX5_copyFrom_76 : decode cX5_copyFrom 76 = .ok (.getfield 25, 3) := by decide +kernel
theorem dX5_copyFrom_79 : decode cX5_copyFrom 79 = .ok (.iload_n 2, 1) := by decide +kernel
theorem dX5_copyFrom_80 : decode cX5_copyFrom 80 = .ok (.aaload, 1) := by decide +kernel
theorem dX5_copyFrom_81 : decode cX5_copyFrom 81 = .ok (.aload_n 1, 1) := by decide +kernel
theorem dX5_copyFrom_82 : decode cX5_copyFrom 82 = .ok (.getfield 25, 3) := by decide +kernel
theorem dX5_copyFrom_85 : decode cX5_copyFrom 85 = .ok (.iload_n 2, 1) := by decide +kernel
theorem dX5_copyFrom_86 : decode cX5_copyFrom 86 = .ok (.aaload, 1) := by decide +kernel
theorem dX5_copyFrom_87 : decode cX5_copyFrom 87 = .ok (.invokevirtual 56, 3) := by decide +kernel
theorem dX5_copyFrom_90 : decode cX5_copyFrom 90 = .ok (.iinc 2 1, 3) := by decide +kernel
theorem dX5_copyFrom_93 : decode cX5_copyFrom 93 = .ok (.goto (-27), 3) := by decide +kernel
theorem dX5_copyFrom_96 : decode cX5_copyFrom 96 = .ok (.iconst 0, 1) := by decide +kernel
theorem dX5_copyFrom_97 : decode cX5_copyFrom 97 = .ok (.istore_n 2, 1) := by decide +kernel
theorem dX5_copyFrom_98 : decode cX5_copyFrom 98 = .ok (.iload_n 2, 1) := by decide +kernel
theorem dX5_copyFrom_99 : decode cX5_copyFrom 99 = .ok (.aload_n 0, 1) := by decide +kernel
theorem dX5_copyFrom_100 : decode cX5_copyFrom 100 = .ok (.getfield 29, 3) := by decide +kernel
theorem dX5_copyFrom_103 : decode cX5_copyFrom 103 = .ok (.arraylength, 1) := by decide +kernel
theorem dX5_copyFrom_104 : decode cX5_copyFrom 104 = .ok (.if_icmp .ge 21, 3) := by decide +kernel
theorem dX5_copyFrom_107 : decode cX5_copyFrom 107 = .ok (.aload_n 0, 1) := by decide +kernel
theorem dX5_copyFrom_108 : decode cX5_copyFrom 108 = .ok (.getfield 29, 3) := by decide +kernel
theorem dX5_copyFrom_111 : decode cX5_copyFrom 111 = .ok (.iload_n 2, 1) := by decide +kernel
theorem dX5_copyFrom_112 : decode cX5_copyFrom 112 = .ok (.aload_n 1, 1) := by decide +kernel
theorem dX5_copyFrom_113 : decode cX5_copyFrom 113 = .ok (.getfield 29, 3) := by decide +kernel
theorem dX5_copyFrom_116 : decode cX5_copyFrom 116 = .ok (.iload_n 2, 1) := by decide +kernel
theorem dX5_copyFrom_117 : decode cX5_copyFrom 117 = .ok (.iaload, 1) := by decide +kernel
theorem dX5_copyFrom_118 : decode cX5_copyFrom 118 = .ok (.iastore, 1) := by decide +kernel
theorem dX5_copyFrom_119 : decode cX5_copyFrom 119 = .ok (.iinc 2 1, 3) := by decide +kernel
theorem dX5_copyFrom_122 : decode cX5_copyFrom 122 = .ok (.goto (-24), 3) := by decide +kernel
theorem dX5_copyFrom_125 : decode cX5_copyFrom 125 = .ok (.aload_n 0, 1) := by decide +kernel
theorem dX5_copyFrom_126 : decode cX5_copyFrom 126 = .ok (.aload_n 1, 1) := by decide +kernel
theorem dX5_copyFrom_127 : decode cX5_copyFrom 127 = .ok (.getfield 33, 3) := by decide +kernel
theorem dX5_copyFrom_130 : decode cX5_copyFrom 130 = .ok (.putfield 33, 3) := by decide +kernel
theorem dX5_copyFrom_133 : decode cX5_copyFrom 133 = .ok (.aload_n 0, 1) := by decide +kernel
theorem dX5_copyFrom_134 : decode cX5_copyFrom 134 = .ok (.aload_n 1, 1) := by decide +kernel
theorem dX5_copyFrom_135 : decode cX5_copyFrom 135 = .ok (.getfield 37, 3) := by decide +kernel
theorem dX5_copyFrom_138 : decode cX5_copyFrom 138 = .ok (.putfield 37, 3) := by decide +kernel
theorem dX5_copyFrom_141 : decode cX5_copyFrom 141 = .ok (.aload_n 0, 1) := by decide +kernel
theorem dX5_copyFrom_142 : decode cX5_copyFrom 142 = .ok (.aload_n 1, 1) := by decide +kernel
theorem dX5_copyFrom_143 : decode cX5_copyFrom 143 = .ok (.getfield 40, 3) := by decide +kernel
theorem dX5_copyFrom_146 : decode cX5_copyFrom 146 = .ok (.putfield 40, 3) := by decide +kernel
theorem dX5_copyFrom_149 : decode cX5_copyFrom 149 = .ok (.aload_n 0, 1) := by decide +kernel
theorem dX5_copyFrom_150 : decode cX5_copyFrom 150 = .ok (.aload_n 1, 1) := by decide +kernel
theorem dX5_copyFrom_151 : decode cX5_copyFrom 151 = .ok (.getfield 43, 3) := by decide +kernel
theorem dX5_copyFrom_154 : decode cX5_copyFrom 154 = .ok (.putfield 43, 3) := by decide +kernel
theorem dX5_copyFrom_157 : decode cX5_copyFrom 157 = .ok (.return_, 1) := by decide +kernel
theorem dX5_hasAsset_0 : decode cX5_hasAsset 0 = .ok (.iload_n 1, 1) := by decide +kernel
theorem dX5_hasAsset_1 : decode cX5_hasAsset 1 = .ok (.ifCond .lt 15, 3) := by decide +kernel
theorem dX5_hasAsset_4 : decode cX5_hasAsset 4 = .ok (.iload_n 1, 1) := by decide +kernel
theorem dX5_hasAsset_5 : decode cX5_hasAsset 5 = .ok (.aload_n 0, 1) := by decide +kernel
theorem dX5_hasAsset_6 : decode cX5_hasAsset 6 = .ok (.getfield 33, 3) := by decide +kernel
theorem dX5_hasAsset_9 : decode cX5_hasAsset 9 = .ok (.if_icmp .ge 7, 3) := by decide +kernel
theorem dX5_hasAsset_12 : decode cX5_hasAsset 12 = .ok (.iconst 1, 1) := by decide +kernel
theorem dX5_hasAsset_13 : decode cX5_hasAsset 13 = .ok (.goto 4, 3) := by decide +kernel
theorem dX5_hasAsset_16 : decode cX5_hasAsset 16 = .ok (.iconst 0, 1) := by decide +kernel
theorem dX5_hasAsset_17 : decode cX5_hasAsset 17 = .ok (.ireturn, 1) := by decide +kernel
theorem dX5_hasCrew_0 : decode cX5_hasCrew 0 = .ok (.iload_n 1, 1) := by decide +kernel
theorem dX5_hasCrew_1 : decode cX5_hasCrew 1 = .ok (.ifCond .lt 15, 3) := by decide +kernel
theorem dX5_hasCrew_4 : decode cX5_hasCrew 4 = .ok (.iload_n 1, 1) := by decide +kernel
theorem dX5_hasCrew_5 : decode cX5_hasCrew 5 = .ok (.aload_n 0, 1) := by decide +kernel
theorem dX5_hasCrew_6 : decode cX5_hasCrew 6 = .ok (.getfield 37, 3) := by decide +kernel
theorem dX5_hasCrew_9 : decode cX5_hasCrew 9 = .ok (.if_icmp .ge 7, 3) := by decide +kernel
theorem dX5_hasCrew_12 : decode cX5_hasCrew 12 = .ok (.iconst 1, 1) := by decide +kernel
theorem dX5_hasCrew_13 : decode cX5_hasCrew 13 = .ok (.goto 4, 3) := by decide +kernel
theorem dX5_hasCrew_16 : decode cX5_hasCrew 16 = .ok (.iconst 0, 1) := by decide +kernel
theorem dX5_hasCrew_17 : decode cX5_hasCrew 17 = .ok (.ireturn, 1) := by decide +kernel
theorem dX5_hasTask_0 : decode cX5_hasTask 0 = .ok (.iload_n 1, 1) := by decide +kernel
theorem dX5_hasTask_1 : decode cX5_hasTask 1 = .ok (.ifCond .lt 15, 3) := by decide +kernel
theorem dX5_hasTask_4 : decode cX5_hasTask 4 = .ok (.iload_n 1, 1) := by decide +kernel
theorem dX5_hasTask_5 : decode cX5_hasTask 5 = .ok (.aload_n 0, 1) := by decide +kernel
theorem dX5_hasTask_6 : decode cX5_hasTask 6 = .ok (.getfield 40, 3) := by decide +kernel
theorem dX5_hasTask_9 : decode cX5_hasTask 9 = .ok (.if_icmp .ge 7, 3) := by decide +kernel
theorem dX5_hasTask_12 : decode cX5_hasTask 12 = .ok (.iconst 1, 1) := by decide +kernel
theorem dX5_hasTask_13 : decode cX5_hasTask 13 = .ok (.goto 4, 3) := by decide +kernel
theorem dX5_hasTask_16 : decode cX5_hasTask 16 = .ok (.iconst 0, 1) := by decide +kernel
theorem dX5_hasTask_17 : decode cX5_hasTask 17 = .ok (.ireturn, 1) := by decide +kernel
theorem dX5_newAsset_0 : decode cX5_newAsset 0 = .ok (.iload_n 1, 1) := by decide +kernel
theorem dX5_newAsset_1 : decode cX5_newAsset 1 = .ok (.iconst 1, 1) := by decide +kernel
theorem dX5_newAsset_2 : decode cX5_newAsset 2 = .ok (.bipush 100, 2) := by decide +kernel
theorem dX5_newAsset_4 : decode cX5_newAsset 4 = .ok (.invokestatic 59, 3) := by decide +kernel
theorem dX5_newAsset_7 : decode cX5_newAsset 7 = .ok (.ifCond .eq 14, 3) := by decide +kernel
theorem dX5_newAsset_10 : decode cX5_newAsset 10 = .ok (.iload_n 2, 1) := by decide +kernel
theorem dX5_newAsset_11 : decode cX5_newAsset 11 = .ok (.iconst 1, 1) := by decide +kernel
theorem dX5_newAsset_12 : decode cX5_newAsset 12 = .ok (.sipush 200, 3) := by decide +kernel
theorem dX5_newAsset_15 : decode cX5_newAsset 15 = .ok (.invokestatic 59, 3) := by decide +kernel
theorem dX5_newAsset_18 : decode cX5_newAsset 18 = .ok (.ifCond .ne 6, 3) := by decide +kernel
theorem dX5_newAsset_21 : decode cX5_newAsset 21 = .ok (.bipush (-2), 2) := by decide +kernel
theorem dX5_newAsset_23 : decode cX5_newAsset 23 = .ok (.ireturn, 1) := by decide +kernel
theorem dX5_newAsset_24 : decode cX5_newAsset 24 = .ok (.aload_n 0, 1) := by decide +kernel
theorem dX5_newAsset_25 : decode cX5_newAsset 25 = .ok (.getfield 33, 3) := by decide +kernel
theorem dX5_newAsset_28 : decode cX5_newAsset 28 = .ok (.aload_n 0, 1) := by decide +kernel
theorem dX5_newAsset_29 : decode cX5_newAsset 29 = .ok (.getfield 11, 3) := by decide +kernel
theorem dX5_newAsset_32 : decode cX5_newAsset 32 = .ok (.arraylength, 1) := by decide +kernel
theorem dX5_newAsset_33 : decode cX5_newAsset 33 = .ok (.if_icmp .lt 6, 3) := by decide +kernel
theorem dX5_newAsset_36 : decode cX5_newAsset 36 = .ok (.bipush (-3), 2) := by decide +kernel
theorem dX5_newAsset_38 : decode cX5_newAsset 38 = .ok (.ireturn, 1) := by decide +kernel
theorem dX5_newAsset_39 : decode cX5_newAsset 39 = .ok (.aload_n 0, 1) := by decide +kernel
theorem dX5_newAsset_40 : decode cX5_newAsset 40 = .ok (.getfield 11, 3) := by decide +kernel
theorem dX5_newAsset_43 : decode cX5_newAsset 43 = .ok (.aload_n 0, 1) := by decide +kernel
theorem dX5_newAsset_44 : decode cX5_newAsset 44 = .ok (.getfield 33, 3) := by decide +kernel
theorem dX5_newAsset_47 : decode cX5_newAsset 47 = .ok (.aaload, 1) := by decide +kernel
theorem dX5_newAsset_48 : decode cX5_newAsset 48 = .ok (.iload_n 1, 1) := by decide +kernel
theorem dX5_newAsset_49 : decode cX5_newAsset 49 = .ok (.iload_n 2, 1) := by decide +kernel
theorem dX5_newAsset_50 : decode cX5_newAsset 50 = .ok (.invokevirtual 63, 3) := by decide +kernel
theorem dX5_newAsset_53 : decode cX5_newAsset 53 = .ok (.aload_n 0, 1) := by decide +kernel
theorem dX5_newAsset_54 : decode cX5_newAsset 54 = .ok (.dup, 1) := by decide +kernel
theorem dX5_newAsset_55 : decode cX5_newAsset 55 = .ok (.getfield 33, 3) := by decide +kernel
theorem dX5_newAsset_58 : decode cX5_newAsset 58 = .ok (.iconst 1, 1) := by decide +kernel
theorem dX5_newAsset_59 : decode cX5_newAsset 59 = .ok (.iadd, 1) := by decide +kernel
theorem dX5_newAsset_60 : decode cX5_newAsset 60 = .ok (.putfield 33, 3) := by decide +kernel
theorem dX5_newAsset_63 : decode cX5_newAsset 63 = .ok (.aload_n 0, 1) := by decide +kernel
theorem dX5_newAsset_64 : decode cX5_newAsset 64 = .ok (.getfield 33, 3) := by decide +kernel
theorem dX5_newAsset_67 : decode cX5_newAsset 67 = .ok (.iconst 1, 1) := by decide +kernel
theorem dX5_newAsset_68 : decode cX5_newAsset 68 = .ok (.isub, 1) := by decide +kernel
theorem dX5_newAsset_69 : decode cX5_newAsset 69 = .ok (.ireturn, 1) := by decide +kernel
theorem dX5_setLink_0 : decode cX5_setLink 0 = .ok (.aload_n 0, 1) := by decide +kernel
theorem dX5_setLink_1 : decode cX5_setLink 1 = .ok (.iload_n 1, 1) := by decide +kernel
theorem dX5_setLink_2 : decode cX5_setLink 2 = .ok (.invokevirtual 67, 3) := by decide +kernel
theorem dX5_setLink_5 : decode cX5_setLink 5 = .ok (.ifCond .eq 11, 3) := by decide +kernel
theorem dX5_setLink_8 : decode cX5_setLink 8 = .ok (.aload_n 0, 1) := by decide +kernel
theorem dX5_setLink_9 : decode cX5_setLink 9 = .ok (.iload_n 2, 1) := by decide +kernel
theorem dX5_setLink_10 : decode cX5_setLink 10 = .ok (.invokevirtual 67, 3) := by decide +kernel
theorem dX5_setLink_13 : decode cX5_setLink 13 = .ok (.ifCond .ne 5, 3) := by decide +kernel
theorem dX5_setLink_16 : decode cX5_setLink 16 = .ok (.iconst (-1), 1) := by decide +kernel
theorem dX5_setLink_17 : decode cX5_setLink 17 = .ok (.ireturn, 1) := by decide +kernel
theorem dX5_setLink_18 : decode cX5_setLink 18 = .ok (.iload_n 1, 1) := by decide +kernel
theorem dX5_setLink_19 : decode cX5_setLink 19 = .ok (.iload_n 2, 1) := by decide +kernel
theorem dX5_setLink_20 : decode cX5_setLink 20 = .ok (.if_icmp .ne 6, 3) := by decide +kernel
theorem dX5_setLink_23 : decode cX5_setLink 23 = .ok (.bipush (-2), 2) := by decide +kernel
theorem dX5_setLink_25 : decode cX5_setLink 25 = .ok (.ireturn, 1) := by decide +kernel
theorem dX5_setLink_26 : decode cX5_setLink 26 = .ok (.aload_n 0, 1) := by decide +kernel
theorem dX5_setLink_27 : decode cX5_setLink 27 = .ok (.getfield 11, 3) := by decide +kernel
theorem dX5_setLink_30 : decode cX5_setLink 30 = .ok (.iload_n 1, 1) := by decide +kernel
theorem dX5_setLink_31 : decode cX5_setLink 31 = .ok (.aaload, 1) := by decide +kernel
theorem dX5_setLink_32 : decode cX5_setLink 32 = .ok (.iload_n 2, 1) := by decide +kernel
theorem dX5_setLink_33 : decode cX5_setLink 33 = .ok (.invokevirtual 71, 3) := by decide +kernel
theorem dX5_setLink_36 : decode cX5_setLink 36 = .ok (.iload_n 3, 1) := by decide +kernel
theorem dX5_setLink_37 : decode cX5_setLink 37 = .ok (.if_icmp .ne 6, 3) := by decide +kernel
theorem dX5_setLink_40 : decode cX5_setLink 40 = .ok (.bipush (-5), 2) := by decide +kernel
theorem dX5_setLink_42 : decode cX5_setLink 42 = .ok (.ireturn, 1) := by decide +kernel
theorem dX5_setLink_43 : decode cX5_setLink 43 = .ok (.aload_n 0, 1) := by decide +kernel
theorem dX5_setLink_44 : decode cX5_setLink 44 = .ok (.getfield 11, 3) := by decide +kernel
theorem dX5_setLink_47 : decode cX5_setLink 47 = .ok (.iload_n 1, 1) := by decide +kernel
theorem dX5_setLink_48 : decode cX5_setLink 48 = .ok (.aaload, 1) := by decide +kernel
theorem dX5_setLink_49 : decode cX5_setLink 49 = .ok (.dup, 1) := by decide +kernel
theorem dX5_setLink_50 : decode cX5_setLink 50 = .ok (.getfield 74, 3) := by decide +kernel
theorem dX5_setLink_53 : decode cX5_setLink 53 = .ok (.iconst 1, 1) := by decide +kernel
theorem dX5_setLink_54 : decode cX5_setLink 54 = .ok (.iload_n 2, 1) := by decide +kernel
theorem dX5_setLink_55 : decode cX5_setLink 55 = .ok (.ishl, 1) := by decide +kernel
theorem dX5_setLink_56 : decode cX5_setLink 56 = .ok (.ixor, 1) := by decide +kernel
theorem dX5_setLink_57 : decode cX5_setLink 57 = .ok (.putfield 74, 3) := by decide +kernel
theorem dX5_setLink_60 : decode cX5_setLink 60 = .ok (.aload_n 0, 1) := by decide +kernel
theorem dX5_setLink_61 : decode cX5_setLink 61 = .ok (.getfield 11, 3) := by decide +kernel
theorem dX5_setLink_64 : decode cX5_setLink 64 = .ok (.iload_n 2, 1) := by decide +kernel
theorem dX5_setLink_65 : decode cX5_setLink 65 = .ok (.aaload, 1) := by decide +kernel
theorem dX5_setLink_66 : decode cX5_setLink 66 = .ok (.dup, 1) := by decide +kernel
theorem dX5_setLink_67 : decode cX5_setLink 67 = .ok (.getfield 74, 3) := by decide +kernel
theorem dX5_setLink_70 : decode cX5_setLink 70 = .ok (.iconst 1, 1) := by decide +kernel
theorem dX5_setLink_71 : decode cX5_setLink 71 = .ok (.iload_n 1, 1) := by decide +kernel
theorem dX5_setLink_72 : decode cX5_setLink 72 = .ok (.ishl, 1) := by decide +kernel
theorem dX5_setLink_73 : decode cX5_setLink 73 = .ok (.ixor, 1) := by decide +kernel
theorem dX5_setLink_74 : decode cX5_setLink 74 = .ok (.putfield 74, 3) := by decide +kernel
theorem dX5_setLink_77 : decode cX5_setLink 77 = .ok (.aload_n 0, 1) := by decide +kernel
theorem dX5_setLink_78 : decode cX5_setLink 78 = .ok (.getfield 11, 3) := by decide +kernel
theorem dX5_setLink_81 : decode cX5_setLink 81 = .ok (.iload_n 1, 1) := by decide +kernel
theorem dX5_setLink_82 : decode cX5_setLink 82 = .ok (.aaload, 1) := by decide +kernel
theorem dX5_setLink_83 : decode cX5_setLink 83 = .ok (.getfield 74, 3) := by decide +kernel
theorem dX5_setLink_86 : decode cX5_setLink 86 = .ok (.invokestatic 77, 3) := by decide +kernel
theorem dX5_setLink_89 : decode cX5_setLink 89 = .ok (.ireturn, 1) := by decide +kernel
theorem dX5_setBar_0 : decode cX5_setBar 0 = .ok (.iload_n 1, 1) := by decide +kernel
theorem dX5_setBar_1 : decode cX5_setBar 1 = .ok (.iconst 0, 1) := by decide +kernel
theorem dX5_setBar_2 : decode cX5_setBar 2 = .ok (.aload_n 0, 1) := by decide +kernel
theorem dX5_setBar_3 : decode cX5_setBar 3 = .ok (.getfield 29, 3) := by decide +kernel
theorem dX5_setBar_6 : decode cX5_setBar 6 = .ok (.arraylength, 1) := by decide +kernel
theorem dX5_setBar_7 : decode cX5_setBar 7 = .ok (.iconst 1, 1) := by decide +kernel
theorem dX5_setBar_8 : decode cX5_setBar 8 = .ok (.isub, 1) := by decide +kernel
theorem dX5_setBar_9 : decode cX5_setBar 9 = .ok (.invokestatic 59, 3) := by decide +kernel
theorem dX5_setBar_12 : decode cX5_setBar 12 = .ok (.ifCond .eq 18, 3) := by decide +kernel
theorem dX5_setBar_15 : decode cX5_setBar 15 = .ok (.iload_n 2, 1) := by decide +kernel
theorem dX5_setBar_16 : decode cX5_setBar 16 = .ok (.iconst 0, 1) := by decide +kernel
theorem dX5_setBar_17 : decode cX5_setBar 17 = .ok (.aload_n 0, 1) := by decide +kernel
theorem dX5_setBar_18 : decode cX5_setBar 18 = .ok (.getfield 29, 3) := by decide +kernel
theorem dX5_setBar_21 : decode cX5_setBar 21 = .ok (.arraylength, 1) := by decide +kernel
theorem dX5_setBar_22 : decode cX5_setBar 22 = .ok (.iconst 1, 1) := by decide +kernel
theorem dX5_setBar_23 : decode cX5_setBar 23 = .ok (.isub, 1) := by decide +kernel
theorem dX5_setBar_24 : decode cX5_setBar 24 = .ok (.invokestatic 59, 3) := by decide +kernel
theorem dX5_setBar_27 : decode cX5_setBar 27 = .ok (.ifCond .ne 6, 3) := by decide +kernel
theorem dX5_setBar_30 : decode cX5_setBar 30 = .ok (.bipush (-2), 2) := by decide +kernel
theorem dX5_setBar_32 : decode cX5_setBar 32 = .ok (.ireturn, 1) := by decide +kernel
theorem dX5_setBar_33 : decode cX5_setBar 33 = .ok (.aload_n 0, 1) := by decide +kernel
theorem dX5_setBar_34 : decode cX5_setBar 34 = .ok (.iload_n 1, 1) := by decide +kernel
theorem dX5_setBar_35 : decode cX5_setBar 35 = .ok (.iload_n 2, 1) := by decide +kernel
theorem dX5_setBar_36 : decode cX5_setBar 36 = .ok (.invokevirtual 83, 3) := by decide +kernel
theorem dX5_setBar_39 : decode cX5_setBar 39 = .ok (.iload_n 3, 1) := by decide +kernel
theorem dX5_setBar_40 : decode cX5_setBar 40 = .ok (.if_icmp .ne 6, 3) := by decide +kernel
theorem dX5_setBar_43 : decode cX5_setBar 43 = .ok (.bipush (-5), 2) := by decide +kernel
theorem dX5_setBar_45 : decode cX5_setBar 45 = .ok (.ireturn, 1) := by decide +kernel
theorem dX5_setBar_46 : decode cX5_setBar 46 = .ok (.aload_n 0, 1) := by decide +kernel
theorem dX5_setBar_47 : decode cX5_setBar 47 = .ok (.getfield 29, 3) := by decide +kernel
theorem dX5_setBar_50 : decode cX5_setBar 50 = .ok (.iload_n 1, 1) := by decide +kernel
theorem dX5_setBar_51 : decode cX5_setBar 51 = .ok (.dup2, 1) := by decide +kernel
theorem dX5_setBar_52 : decode cX5_setBar 52 = .ok (.iaload, 1) := by decide +kernel
theorem dX5_setBar_53 : decode cX5_setBar 53 = .ok (.iconst 1, 1) := by decide +kernel
theorem dX5_setBar_54 : decode cX5_setBar 54 = .ok (.iload_n 2, 1) := by decide +kernel
theorem dX5_setBar_55 : decode cX5_setBar 55 = .ok (.ishl, 1) := by decide +kernel
theorem dX5_setBar_56 : decode cX5_setBar 56 = .ok (.ixor, 1) := by decide +kernel
theorem dX5_setBar_57 : decode cX5_setBar 57 = .ok (.iastore, 1) := by decide +kernel
theorem dX5_setBar_58 : decode cX5_setBar 58 = .ok (.iload_n 1, 1) := by decide +kernel
theorem dX5_setBar_59 : decode cX5_setBar 59 = .ok (.iload_n 2, 1) := by decide +kernel
theorem dX5_setBar_60 : decode cX5_setBar 60 = .ok (.if_icmp .eq 15, 3) := by decide +kernel
theorem dX5_setBar_63 : decode cX5_setBar 63 = .ok (.aload_n 0, 1) := by decide +kernel
theorem dX5_setBar_64 : decode cX5_setBar 64 = .ok (.getfield 29, 3) := by decide +kernel
theorem dX5_setBar_67 : decode cX5_setBar 67 = .ok (.iload_n 2, 1) := by decide +kernel
theorem dX5_setBar_68 : decode cX5_setBar 68 = .ok (.dup2, 1) := by decide +kernel
theorem dX5_setBar_69 : decode cX5_setBar 69 = .ok (.iaload, 1) := by decide +kernel
theorem dX5_setBar_70 : decode cX5_setBar 70 = .ok (.iconst 1, 1) := by decide +kernel
theorem dX5_setBar_71 : decode cX5_setBar 71 = .ok (.iload_n 1, 1) := by decide +kernel
theorem dX5_setBar_72 : decode cX5_setBar 72 = .ok (.ishl, 1) := by decide +kernel
theorem dX5_setBar_73 : decode cX5_setBar 73 = .ok (.ixor, 1) := by decide +kernel
theorem dX5_setBar_74 : decode cX5_setBar 74 = .ok (.iastore, 1) := by decide +kernel
theorem dX5_setBar_75 : decode cX5_setBar 75 = .ok (.aload_n 0, 1) := by decide +kernel
theorem dX5_setBar_76 : decode cX5_setBar 76 = .ok (.getfield 29, 3) := by decide +kernel
theorem dX5_setBar_79 : decode cX5_setBar 79 = .ok (.iload_n 1, 1) := by decide +kernel
theorem dX5_setBar_80 : decode cX5_setBar 80 = .ok (.iaload, 1) := by decide +kernel
theorem dX5_setBar_81 : decode cX5_setBar 81 = .ok (.invokestatic 77, 3) := by decide +kernel
theorem dX5_setBar_84 : decode cX5_setBar 84 = .ok (.ireturn, 1) := by decide +kernel
theorem dX5_newCrew_0 : decode cX5_newCrew 0 = .ok (.iload_n 1, 1) := by decide +kernel
theorem dX5_newCrew_1 : decode cX5_newCrew 1 = .ok (.iconst 1, 1) := by decide +kernel
theorem dX5_newCrew_2 : decode cX5_newCrew 2 = .ok (.bipush 6, 2) := by decide +kernel
theorem dX5_newCrew_4 : decode cX5_newCrew 4 = .ok (.invokestatic 59, 3) := by decide +kernel
theorem dX5_newCrew_7 : decode cX5_newCrew 7 = .ok (.ifCond .eq 13, 3) := by decide +kernel
theorem dX5_newCrew_10 : decode cX5_newCrew 10 = .ok (.iload_n 2, 1) := by decide +kernel
theorem dX5_newCrew_11 : decode cX5_newCrew 11 = .ok (.iconst 0, 1) := by decide +kernel
theorem dX5_newCrew_12 : decode cX5_newCrew 12 = .ok (.bipush 15, 2) := by decide +kernel
theorem dX5_newCrew_14 : decode cX5_newCrew 14 = .ok (.invokestatic 59, 3) := by decide +kernel
theorem dX5_newCrew_17 : decode cX5_newCrew 17 = .ok (.ifCond .ne 6, 3) := by decide +kernel
theorem dX5_newCrew_20 : decode cX5_newCrew 20 = .ok (.bipush (-2), 2) := by decide +kernel
theorem dX5_newCrew_22 : decode cX5_newCrew 22 = .ok (.ireturn, 1) := by decide +kernel
theorem dX5_newCrew_23 : decode cX5_newCrew 23 = .ok (.aload_n 0, 1) := by decide +kernel
theorem dX5_newCrew_24 : decode cX5_newCrew 24 = .ok (.getfield 37, 3) := by decide +kernel
theorem dX5_newCrew_27 : decode cX5_newCrew 27 = .ok (.aload_n 0, 1) := by decide +kernel
theorem dX5_newCrew_28 : decode cX5_newCrew 28 = .ok (.getfield 19, 3) := by decide +kernel
theorem dX5_newCrew_31 : decode cX5_newCrew 31 = .ok (.arraylength, 1) := by decide +kernel
theorem dX5_newCrew_32 : decode cX5_newCrew 32 = .ok (.if_icmp .lt 6, 3) := by decide +kernel
theorem dX5_newCrew_35 : decode cX5_newCrew 35 = .ok (.bipush (-3), 2) := by decide +kernel
theorem dX5_newCrew_37 : decode cX5_newCrew 37 = .ok (.ireturn, 1) := by decide +kernel
theorem dX5_newCrew_38 : decode cX5_newCrew 38 = .ok (.aload_n 0, 1) := by decide +kernel
theorem dX5_newCrew_39 : decode cX5_newCrew 39 = .ok (.getfield 19, 3) := by decide +kernel
theorem dX5_newCrew_42 : decode cX5_newCrew 42 = .ok (.aload_n 0, 1) := by decide +kernel
theorem dX5_newCrew_43 : decode cX5_newCrew 43 = .ok (.getfield 37, 3) := by decide +kernel
theorem dX5_newCrew_46 : decode cX5_newCrew 46 = .ok (.aaload, 1) := by decide +kernel
theorem dX5_newCrew_47 : decode cX5_newCrew 47 = .ok (.iload_n 1, 1) := by decide +kernel
theorem dX5_newCrew_48 : decode cX5_newCrew 48 = .ok (.iload_n 2, 1) := by decide +kernel
theorem dX5_newCrew_49 : decode cX5_newCrew 49 = .ok (.invokevirtual 87, 3) := by decide +kernel
theorem dX5_newCrew_52 : decode cX5_newCrew 52 = .ok (.aload_n 0, 1) := by decide +kernel
theorem dX5_newCrew_53 : decode cX5_newCrew 53 = .ok (.dup, 1) := by decide +kernel
theorem dX5_newCrew_54 : decode cX5_newCrew 54 = .ok (.getfield 37, 3) := by decide +kernel
theorem dX5_newCrew_57 : decode cX5_newCrew 57 = .ok (.iconst 1, 1) := by decide +kernel
theorem dX5_newCrew_58 : decode cX5_newCrew 58 = .ok (.iadd, 1) := by decide +kernel
theorem dX5_newCrew_59 : decode cX5_newCrew 59 = .ok (.putfield 37, 3) := by decide +kernel
theorem dX5_newCrew_62 : decode cX5_newCrew 62 = .ok (.aload_n 0, 1) := by decide +kernel
theorem dX5_newCrew_63 : decode cX5_newCrew 63 = .ok (.getfield 37, 3) := by decide +kernel
theorem dX5_newCrew_66 : decode cX5_newCrew 66 = .ok (.iconst 1, 1) := by decide +kernel
theorem dX5_newCrew_67 : decode cX5_newCrew 67 = .ok (.isub, 1) := by decide +kernel
theorem dX5_newCrew_68 : decode cX5_newCrew 68 = .ok (.ireturn, 1) := by decide +kernel
theorem dX5_newTask_0 : decode cX5_newTask 0 = .ok (.aload_n 0, 1) := by decide +kernel
theorem dX5_newTask_1 : decode cX5_newTask 1 = .ok (.iload_n 1, 1) := by decide +kernel
theorem dX5_newTask_2 : decode cX5_newTask 2 = .ok (.invokevirtual 67, 3) := by decide +kernel
theorem dX5_newTask_5 : decode cX5_newTask 5 = .ok (.ifCond .ne 5, 3) := by decide +kernel
theorem dX5_newTask_8 : decode cX5_newTask 8 = .ok (.iconst (-1), 1) := by decide +kernel
theorem dX5_newTask_9 : decode cX5_newTask 9 = .ok (.ireturn, 1) := by decide +kernel
theorem dX5_newTask_10 : decode cX5_newTask 10 = .ok (.iload_n 2, 1) := by decide +kernel
theorem dX5_newTask_11 : decode cX5_newTask 11 = .ok (.iconst 0, 1) := by decide +kernel
theorem dX5_newTask_12 : decode cX5_newTask 12 = .ok (.iconst 3, 1) := by decide +kernel
theorem dX5_newTask_13 : decode cX5_newTask 13 = .ok (.invokestatic 59, 3) := by decide +kernel
theorem dX5_newTask_16 : decode cX5_newTask 16 = .ok (.ifCond .eq 49, 3) := by decide +kernel
theorem dX5_newTask_19 : decode cX5_newTask 19 = .ok (.iload_n 3, 1) := by decide +kernel
theorem dX5_newTask_20 : decode cX5_newTask 20 = .ok (.iconst 1, 1) := by decide +kernel
theorem dX5_newTask_21 : decode cX5_newTask 21 = .ok (.bipush 6, 2) := by decide +kernel
theorem dX5_newTask_23 : decode cX5_newTask 23 = .ok (.invokestatic 59, 3) := by decide +kernel
theorem dX5_newTask_26 : decode cX5_newTask 26 = .ok (.ifCond .eq 39, 3) := by decide +kernel
theorem dX5_newTask_29 : decode cX5_newTask 29 = .ok (.iload 4, 2) := by decide +kernel
theorem dX5_newTask_31 : decode cX5_newTask 31 = .ok (.iconst 0, 1) := by decide +kernel
theorem dX5_newTask_32 : decode cX5_newTask 32 = .ok (.iconst 4, 1) := by decide +kernel
theorem dX5_newTask_33 : decode cX5_newTask 33 = .ok (.invokestatic 59, 3) := by decide +kernel
theorem dX5_newTask_36 : decode cX5_newTask 36 = .ok (.ifCond .eq 29, 3) := by decide +kernel
theorem dX5_newTask_39 : decode cX5_newTask 39 = .ok (.iload 5, 2) := by decide +kernel
theorem dX5_newTask_41 : decode cX5_newTask 41 = .ok (.iconst 1, 1) := by decide +kernel
theorem dX5_newTask_42 : decode cX5_newTask 42 = .ok (.bipush 48, 2) := by decide +kernel
theorem dX5_newTask_44 : decode cX5_newTask 44 = .ok (.invokestatic 59, 3) := by decide +kernel
theorem dX5_newTask_47 : decode cX5_newTask 47 = .ok (.ifCond .eq 18, 3) := by decide +kernel
theorem dX5_newTask_50 : decode cX5_newTask 50 = .ok (.iload 6, 2) := by decide +kernel
theorem dX5_newTask_52 : decode cX5_newTask 52 = .ok (.aload_n 0, 1) := by decide +kernel
theorem dX5_newTask_53 : decode cX5_newTask 53 = .ok (.getfield 43, 3) := by decide +kernel
theorem dX5_newTask_56 : decode cX5_newTask 56 = .ok (.sipush 2000, 3) := by decide +kernel
theorem dX5_newTask_59 : decode cX5_newTask 59 = .ok (.invokestatic 59, 3) := by decide +kernel
theorem dX5_newTask_62 : decode cX5_newTask 62 = .ok (.ifCond .ne 6, 3) := by decide +kernel
theorem dX5_newTask_65 : decode cX5_newTask 65 = .ok (.bipush (-2), 2) := by decide +kernel
theorem dX5_newTask_67 : decode cX5_newTask 67 = .ok (.ireturn, 1) := by decide +kernel
theorem dX5_newTask_68 : decode cX5_newTask 68 = .ok (.aload_n 0, 1) := by decide +kernel
theorem dX5_newTask_69 : decode cX5_newTask 69 = .ok (.getfield 40, 3) := by decide +kernel
theorem dX5_newTask_72 : decode cX5_newTask 72 = .ok (.aload_n 0, 1) := by decide +kernel
theorem dX5_newTask_73 : decode cX5_newTask 73 = .ok (.getfield 25, 3) := by decide +kernel
theorem dX5_newTask_76 : decode cX5_newTask 76 = .ok (.arraylength, 1) := by decide +kernel
theorem dX5_newTask_77 : decode cX5_newTask 77 = .ok (.if_icmp .lt 6, 3) := by decide +kernel
theorem dX5_newTask_80 : decode cX5_newTask 80 = .ok (.bipush (-3), 2) := by decide +kernel
theorem dX5_newTask_82 : decode cX5_newTask 82 = .ok (.ireturn, 1) := by decide +kernel
theorem dX5_newTask_83 : decode cX5_newTask 83 = .ok (.aload_n 0, 1) := by decide +kernel
theorem dX5_newTask_84 : decode cX5_newTask 84 = .ok (.getfield 25, 3) := by decide +kernel
theorem dX5_newTask_87 : decode cX5_newTask 87 = .ok (.aload_n 0, 1) := by decide +kernel
theorem dX5_newTask_88 : decode cX5_newTask 88 = .ok (.getfield 40, 3) := by decide +kernel
theorem dX5_newTask_91 : decode cX5_newTask 91 = .ok (.aaload, 1) := by decide +kernel
theorem dX5_newTask_92 : decode cX5_newTask 92 = .ok (.iload_n 1, 1) := by decide +kernel
theorem dX5_newTask_93 : decode cX5_newTask 93 = .ok (.iload_n 2, 1) := by decide +kernel
theorem dX5_newTask_94 : decode cX5_newTask 94 = .ok (.iload_n 3, 1) := by decide +kernel
theorem dX5_newTask_95 : decode cX5_newTask 95 = .ok (.iload 4, 2) := by decide +kernel
theorem dX5_newTask_97 : decode cX5_newTask 97 = .ok (.iload 5, 2) := by decide +kernel
theorem dX5_newTask_99 : decode cX5_newTask 99 = .ok (.iload 6, 2) := by decide +kernel
theorem dX5_newTask_101 : decode cX5_newTask 101 = .ok (.invokevirtual 88, 3) := by decide +kernel
theorem dX5_newTask_104 : decode cX5_newTask 104 = .ok (.aload_n 0, 1) := by decide +kernel
theorem dX5_newTask_105 : decode cX5_newTask 105 = .ok (.dup, 1) := by decide +kernel
theorem dX5_newTask_106 : decode cX5_newTask 106 = .ok (.getfield 40, 3) := by decide +kernel
theorem dX5_newTask_109 : decode cX5_newTask 109 = .ok (.iconst 1, 1) := by decide +kernel
theorem dX5_newTask_110 : decode cX5_newTask 110 = .ok (.iadd, 1) := by decide +kernel
theorem dX5_newTask_111 : decode cX5_newTask 111 = .ok (.putfield 40, 3) := by decide +kernel
theorem dX5_newTask_114 : decode cX5_newTask 114 = .ok (.aload_n 0, 1) := by decide +kernel
theorem dX5_newTask_115 : decode cX5_newTask 115 = .ok (.getfield 40, 3) := by decide +kernel
theorem dX5_newTask_118 : decode cX5_newTask 118 = .ok (.iconst 1, 1) := by decide +kernel
theorem dX5_newTask_119 : decode cX5_newTask 119 = .ok (.isub, 1) := by decide +kernel
theorem dX5_newTask_120 : decode cX5_newTask 120 = .ok (.ireturn, 1) := by decide +kernel
theorem dX5_startAsset_0 : decode cX5_startAsset 0 = .ok (.aload_n 0, 1) := by decide +kernel
theorem dX5_startAsset_1 : decode cX5_startAsset 1 = .ok (.iload_n 1, 1) := by decide +kernel
theorem dX5_startAsset_2 : decode cX5_startAsset 2 = .ok (.invokevirtual 67, 3) := by decide +kernel
theorem dX5_startAsset_5 : decode cX5_startAsset 5 = .ok (.ifCond .ne 5, 3) := by decide +kernel
theorem dX5_startAsset_8 : decode cX5_startAsset 8 = .ok (.iconst (-1), 1) := by decide +kernel
theorem dX5_startAsset_9 : decode cX5_startAsset 9 = .ok (.ireturn, 1) := by decide +kernel
theorem dX5_startAsset_10 : decode cX5_startAsset 10 = .ok (.aload_n 0, 1) := by decide +kernel
theorem dX5_startAsset_11 : decode cX5_startAsset 11 = .ok (.iload_n 1, 1) := by decide +kernel
theorem dX5_startAsset_12 : decode cX5_startAsset 12 = .ok (.invokevirtual 91, 3) := by decide +kernel
theorem dX5_startAsset_15 : decode cX5_startAsset 15 = .ok (.ifCond .le 6, 3) := by decide +kernel
theorem dX5_startAsset_18 : decode cX5_startAsset 18 = .ok (.bipush (-4), 2) := by decide +kernel
theorem dX5_startAsset_20 : decode cX5_startAsset 20 = .ok (.ireturn, 1) := by decide +kernel
theorem dX5_startAsset_21 : decode cX5_startAsset 21 = .ok (.aload_n 0, 1) := by decide +kernel
theorem dX5_startAsset_22 : decode cX5_startAsset 22 = .ok (.getfield 11, 3) := by decide +kernel
theorem dX5_startAsset_25 : decode cX5_startAsset 25 = .ok (.iload_n 1, 1) := by decide +kernel
theorem dX5_startAsset_26 : decode cX5_startAsset 26 = .ok (.aaload, 1) := by decide +kernel
theorem dX5_startAsset_27 : decode cX5_startAsset 27 = .ok (.getfield 94, 3) := by decide +kernel
theorem dX5_startAsset_30 : decode cX5_startAsset 30 = .ok (.ifCond .eq 6, 3) := by decide +kernel
theorem dX5_startAsset_33 : decode cX5_startAsset 33 = .ok (.bipush (-5), 2) := by decide +kernel
theorem dX5_startAsset_35 : decode cX5_startAsset 35 = .ok (.ireturn, 1) := by decide +kernel
theorem dX5_startAsset_36 : decode cX5_startAsset 36 = .ok (.aload_n 0, 1) := by decide +kernel
theorem dX5_startAsset_37 : decode cX5_startAsset 37 = .ok (.getfield 11, 3) := by decide +kernel
theorem dX5_startAsset_40 : decode cX5_startAsset 40 = .ok (.iload_n 1, 1) := by decide +kernel
theorem dX5_startAsset_41 : decode cX5_startAsset 41 = .ok (.aaload, 1) := by decide +kernel
theorem dX5_startAsset_42 : decode cX5_startAsset 42 = .ok (.iconst 1, 1) := by decide +kernel
theorem dX5_startAsset_43 : decode cX5_startAsset 43 = .ok (.putfield 94, 3) := by decide +kernel
theorem dX5_startAsset_46 : decode cX5_startAsset 46 = .ok (.aload_n 0, 1) := by decide +kernel
theorem dX5_startAsset_47 : decode cX5_startAsset 47 = .ok (.invokevirtual 98, 3) := by decide +kernel
theorem dX5_startAsset_50 : decode cX5_startAsset 50 = .ok (.ireturn, 1) := by decide +kernel
theorem dX5_stopAsset_0 : decode cX5_stopAsset 0 = .ok (.aload_n 0, 1) := by decide +kernel
theorem dX5_stopAsset_1 : decode cX5_stopAsset 1 = .ok (.iload_n 1, 1) := by decide +kernel
theorem dX5_stopAsset_2 : decode cX5_stopAsset 2 = .ok (.invokevirtual 67, 3) := by decide +kernel
theorem dX5_stopAsset_5 : decode cX5_stopAsset 5 = .ok (.ifCond .ne 5, 3) := by decide +kernel
theorem dX5_stopAsset_8 : decode cX5_stopAsset 8 = .ok (.iconst (-1), 1) := by decide +kernel
theorem dX5_stopAsset_9 : decode cX5_stopAsset 9 = .ok (.ireturn, 1) := by decide +kernel
theorem dX5_stopAsset_10 : decode cX5_stopAsset 10 = .ok (.aload_n 0, 1) := by decide +kernel
theorem dX5_stopAsset_11 : decode cX5_stopAsset 11 = .ok (.getfield 11, 3) := by decide +kernel
theorem dX5_stopAsset_14 : decode cX5_stopAsset 14 = .ok (.iload_n 1, 1) := by decide +kernel
theorem dX5_stopAsset_15 : decode cX5_stopAsset 15 = .ok (.aaload, 1) := by decide +kernel
theorem dX5_stopAsset_16 : decode cX5_stopAsset 16 = .ok (.getfield 94, 3) := by decide +kernel
theorem dX5_stopAsset_19 : decode cX5_stopAsset 19 = .ok (.ifCond .ne 6, 3) := by decide +kernel
theorem dX5_stopAsset_22 : decode cX5_stopAsset 22 = .ok (.bipush (-5), 2) := by decide +kernel
theorem dX5_stopAsset_24 : decode cX5_stopAsset 24 = .ok (.ireturn, 1) := by decide +kernel
theorem dX5_stopAsset_25 : decode cX5_stopAsset 25 = .ok (.aload_n 0, 1) := by decide +kernel
theorem dX5_stopAsset_26 : decode cX5_stopAsset 26 = .ok (.getfield 11, 3) := by decide +kernel
theorem dX5_stopAsset_29 : decode cX5_stopAsset 29 = .ok (.iload_n 1, 1) := by decide +kernel
theorem dX5_stopAsset_30 : decode cX5_stopAsset 30 = .ok (.aaload, 1) := by decide +kernel
theorem dX5_stopAsset_31 : decode cX5_stopAsset 31 = .ok (.iconst 0, 1) := by decide +kernel
theorem dX5_stopAsset_32 : decode cX5_stopAsset 32 = .ok (.putfield 94, 3) := by decide +kernel
theorem dX5_stopAsset_35 : decode cX5_stopAsset 35 = .ok (.aload_n 0, 1) := by decide +kernel
theorem dX5_stopAsset_36 : decode cX5_stopAsset 36 = .ok (.invokevirtual 98, 3) := by decide +kernel
theorem dX5_stopAsset_39 : decode cX5_stopAsset 39 = .ok (.ireturn, 1) := by decide +kernel
theorem dX5_hangTag_0 : decode cX5_hangTag 0 = .ok (.aload_n 0, 1) := by decide +kernel
theorem dX5_hangTag_1 : decode cX5_hangTag 1 = .ok (.iload_n 1, 1) := by decide +kernel
theorem dX5_hangTag_2 : decode cX5_hangTag 2 = .ok (.invokevirtual 102, 3) := by decide +kernel
theorem dX5_hangTag_5 : decode cX5_hangTag 5 = .ok (.ifCond .eq 11, 3) := by decide +kernel
theorem dX5_hangTag_8 : decode cX5_hangTag 8 = .ok (.aload_n 0, 1) := by decide +kernel
theorem dX5_hangTag_9 : decode cX5_hangTag 9 = .ok (.iload_n 2, 1) := by decide +kernel
theorem dX5_hangTag_10 : decode cX5_hangTag 10 = .ok (.invokevirtual 105, 3) := by decide +kernel
theorem dX5_hangTag_13 : decode cX5_hangTag 13 = .ok (.ifCond .ne 5, 3) := by decide +kernel
theorem dX5_hangTag_16 : decode cX5_hangTag 16 = .ok (.iconst (-1), 1) := by decide +kernel
theorem dX5_hangTag_17 : decode cX5_hangTag 17 = .ok (.ireturn, 1) := by decide +kernel
theorem dX5_hangTag_18 : decode cX5_hangTag 18 = .ok (.aload_n 0, 1) := by decide +kernel
theorem dX5_hangTag_19 : decode cX5_hangTag 19 = .ok (.getfield 25, 3) := by decide +kernel
theorem dX5_hangTag_22 : decode cX5_hangTag 22 = .ok (.iload_n 1, 1) := by decide +kernel
theorem dX5_hangTag_23 : decode cX5_hangTag 23 = .ok (.aaload, 1) := by decide +kernel
theorem dX5_hangTag_24 : decode cX5_hangTag 24 = .ok (.astore_n 3, 1) := by decide +kernel
theorem dX5_hangTag_25 : decode cX5_hangTag 25 = .ok (.aload_n 3, 1) := by decide +kernel
theorem dX5_hangTag_26 : decode cX5_hangTag 26 = .ok (.getfield 108, 3) := by decide +kernel
theorem dX5_hangTag_29 : decode cX5_hangTag 29 = .ok (.ifCond .ne 23, 3) := by decide +kernel
theorem dX5_hangTag_32 : decode cX5_hangTag 32 = .ok (.aload_n 0, 1) := by decide +kernel
theorem dX5_hangTag_33 : decode cX5_hangTag 33 = .ok (.aload_n 3, 1) := by decide +kernel
theorem dX5_hangTag_34 : decode cX5_hangTag 34 = .ok (.getfield 111, 3) := by decide +kernel
theorem dX5_hangTag_37 : decode cX5_hangTag 37 = .ok (.invokevirtual 114, 3) := by decide +kernel
theorem dX5_hangTag_40 : decode cX5_hangTag 40 = .ok (.ifCond .ne 12, 3) := by decide +kernel
theorem dX5_hangTag_43 : decode cX5_hangTag 43 = .ok (.aload_n 0, 1) := by decide +kernel
theorem dX5_hangTag_44 : decode cX5_hangTag 44 = .ok (.iload_n 2, 1) := by decide +kernel
theorem dX5_hangTag_45 : decode cX5_hangTag 45 = .ok (.aload_n 3, 1) := by decide +kernel
theorem dX5_hangTag_46 : decode cX5_hangTag 46 = .ok (.invokevirtual 117, 3) := by decide +kernel
theorem dX5_hangTag_49 : decode cX5_hangTag 49 = .ok (.ifCond .ne 6, 3) := by decide +kernel
theorem dX5_hangTag_52 : decode cX5_hangTag 52 = .ok (.bipush (-4), 2) := by decide +kernel
theorem dX5_hangTag_54 : decode cX5_hangTag 54 = .ok (.ireturn, 1) := by decide +kernel
theorem dX5_hangTag_55 : decode cX5_hangTag 55 = .ok (.aload_n 3, 1) := by decide +kernel
theorem dX5_hangTag_56 : decode cX5_hangTag 56 = .ok (.aload_n 0, 1) := by decide +kernel
theorem dX5_hangTag_57 : decode cX5_hangTag 57 = .ok (.aload_n 3, 1) := by decide +kernel
theorem dX5_hangTag_58 : decode cX5_hangTag 58 = .ok (.getfield 111, 3) := by decide +kernel
theorem dX5_hangTag_61 : decode cX5_hangTag 61 = .ok (.invokevirtual 91, 3) := by decide +kernel
theorem dX5_hangTag_64 : decode cX5_hangTag 64 = .ok (.putfield 121, 3) := by decide +kernel
theorem dX5_hangTag_67 : decode cX5_hangTag 67 = .ok (.aload_n 3, 1) := by decide +kernel
theorem dX5_hangTag_68 : decode cX5_hangTag 68 = .ok (.iconst 1, 1) := by decide +kernel
theorem dX5_hangTag_69 : decode cX5_hangTag 69 = .ok (.putfield 108, 3) := by decide +kernel
theorem dX5_hangTag_72 : decode cX5_hangTag 72 = .ok (.aload_n 3, 1) := by decide +kernel
theorem dX5_hangTag_73 : decode cX5_hangTag 73 = .ok (.iload_n 2, 1) := by decide +kernel
theorem dX5_hangTag_74 : decode cX5_hangTag 74 = .ok (.putfield 124, 3) := by decide +kernel
theorem dX5_hangTag_77 : decode cX5_hangTag 77 = .ok (.aload_n 3, 1) := by decide +kernel
theorem dX5_hangTag_78 : decode cX5_hangTag 78 = .ok (.getfield 121, 3) := by decide +kernel
theorem dX5_hangTag_81 : decode cX5_hangTag 81 = .ok (.iconst 1, 1) := by decide +kernel
theorem dX5_hangTag_82 : decode cX5_hangTag 82 = .ok (.iadd, 1) := by decide +kernel
theorem dX5_hangTag_83 : decode cX5_hangTag 83 = .ok (.ireturn, 1) := by decide +kernel
theorem dX5_beginTask_0 : decode cX5_beginTask 0 = .ok (.aload_n 0, 1) := by decide +kernel
theorem dX5_beginTask_1 : decode cX5_beginTask 1 = .ok (.iload_n 1, 1) := by decide +kernel
theorem dX5_beginTask_2 : decode cX5_beginTask 2 = .ok (.invokevirtual 102, 3) := by decide +kernel
theorem dX5_beginTask_5 : decode cX5_beginTask 5 = .ok (.ifCond .ne 5, 3) := by decide +kernel
theorem dX5_beginTask_8 : decode cX5_beginTask 8 = .ok (.iconst (-1), 1) := by decide +kernel
theorem dX5_beginTask_9 : decode cX5_beginTask 9 = .ok (.ireturn, 1) := by decide +kernel
theorem dX5_beginTask_10 : decode cX5_beginTask 10 = .ok (.aload_n 0, 1) := by decide +kernel
theorem dX5_beginTask_11 : decode cX5_beginTask 11 = .ok (.iload_n 1, 1) := by decide +kernel
theorem dX5_beginTask_12 : decode cX5_beginTask 12 = .ok (.invokevirtual 127, 3) := by decide +kernel
theorem dX5_beginTask_15 : decode cX5_beginTask 15 = .ok (.ifCond .eq 6, 3) := by decide +kernel
theorem dX5_beginTask_18 : decode cX5_beginTask 18 = .ok (.bipush (-4), 2) := by decide +kernel
theorem dX5_beginTask_20 : decode cX5_beginTask 20 = .ok (.ireturn, 1) := by decide +kernel
theorem dX5_beginTask_21 : decode cX5_beginTask 21 = .ok (.aload_n 0, 1) := by decide +kernel
theorem dX5_beginTask_22 : decode cX5_beginTask 22 = .ok (.getfield 25, 3) := by decide +kernel
theorem dX5_beginTask_25 : decode cX5_beginTask 25 = .ok (.iload_n 1, 1) := by decide +kernel
theorem dX5_beginTask_26 : decode cX5_beginTask 26 = .ok (.aaload, 1) := by decide +kernel
theorem dX5_beginTask_27 : decode cX5_beginTask 27 = .ok (.astore_n 2, 1) := by decide +kernel
theorem dX5_beginTask_28 : decode cX5_beginTask 28 = .ok (.aload_n 2, 1) := by decide +kernel
theorem dX5_beginTask_29 : decode cX5_beginTask 29 = .ok (.iconst 2, 1) := by decide +kernel
theorem dX5_beginTask_30 : decode cX5_beginTask 30 = .ok (.putfield 108, 3) := by decide +kernel
theorem dX5_beginTask_33 : decode cX5_beginTask 33 = .ok (.aload_n 2, 1) := by decide +kernel
theorem dX5_beginTask_34 : decode cX5_beginTask 34 = .ok (.aload_n 2, 1) := by decide +kernel
theorem dX5_beginTask_35 : decode cX5_beginTask 35 = .ok (.getfield 130, 3) := by decide +kernel
theorem dX5_beginTask_38 : decode cX5_beginTask 38 = .ok (.putfield 133, 3) := by decide +kernel
theorem dX5_beginTask_41 : decode cX5_beginTask 41 = .ok (.aload_n 0, 1) := by decide +kernel
theorem dX5_beginTask_42 : decode cX5_beginTask 42 = .ok (.getfield 43, 3) := by decide +kernel
theorem dX5_beginTask_45 : decode cX5_beginTask 45 = .ok (.aload_n 2, 1) := by decide +kernel
theorem dX5_beginTask_46 : decode cX5_beginTask 46 = .ok (.getfield 130, 3) := by decide +kernel
theorem dX5_beginTask_49 : decode cX5_beginTask 49 = .ok (.iadd, 1) := by decide +kernel
theorem dX5_beginTask_50 : decode cX5_beginTask 50 = .ok (.ireturn, 1) := by decide +kernel
theorem dX5_liftTag_0 : decode cX5_liftTag 0 = .ok (.aload_n 0, 1) := by decide +kernel
theorem dX5_liftTag_1 : decode cX5_liftTag 1 = .ok (.iload_n 1, 1) := by decide +kernel
theorem dX5_liftTag_2 : decode cX5_liftTag 2 = .ok (.invokevirtual 102, 3) := by decide +kernel
theorem dX5_liftTag_5 : decode cX5_liftTag 5 = .ok (.ifCond .eq 11, 3) := by decide +kernel
theorem dX5_liftTag_8 : decode cX5_liftTag 8 = .ok (.aload_n 0, 1) := by decide +kernel
theorem dX5_liftTag_9 : decode cX5_liftTag 9 = .ok (.iload_n 2, 1) := by decide +kernel
theorem dX5_liftTag_10 : decode cX5_liftTag 10 = .ok (.invokevirtual 105, 3) := by decide +kernel
theorem dX5_liftTag_13 : decode cX5_liftTag 13 = .ok (.ifCond .ne 5, 3) := by decide +kernel
theorem dX5_liftTag_16 : decode cX5_liftTag 16 = .ok (.iconst (-1), 1) := by decide +kernel
theorem dX5_liftTag_17 : decode cX5_liftTag 17 = .ok (.ireturn, 1) := by decide +kernel
theorem dX5_liftTag_18 : decode cX5_liftTag 18 = .ok (.aload_n 0, 1) := by decide +kernel
theorem dX5_liftTag_19 : decode cX5_liftTag 19 = .ok (.getfield 25, 3) := by decide +kernel
theorem dX5_liftTag_22 : decode cX5_liftTag 22 = .ok (.iload_n 1, 1) := by decide +kernel
theorem dX5_liftTag_23 : decode cX5_liftTag 23 = .ok (.aaload, 1) := by decide +kernel
theorem dX5_liftTag_24 : decode cX5_liftTag 24 = .ok (.astore_n 3, 1) := by decide +kernel
theorem dX5_liftTag_25 : decode cX5_liftTag 25 = .ok (.aload_n 3, 1) := by decide +kernel
theorem dX5_liftTag_26 : decode cX5_liftTag 26 = .ok (.getfield 108, 3) := by decide +kernel
theorem dX5_liftTag_29 : decode cX5_liftTag 29 = .ok (.iconst 1, 1) := by decide +kernel
theorem dX5_liftTag_30 : decode cX5_liftTag 30 = .ok (.if_icmp .eq 14, 3) := by decide +kernel
theorem dX5_liftTag_33 : decode cX5_liftTag 33 = .ok (.aload_n 3, 1) := by decide +kernel
theorem dX5_liftTag_34 : decode cX5_liftTag 34 = .ok (.getfield 108, 3) := by decide +kernel
theorem dX5_liftTag_37 : decode cX5_liftTag 37 = .ok (.iconst 3, 1) := by decide +kernel
theorem dX5_liftTag_38 : decode cX5_liftTag 38 = .ok (.if_icmp .eq 6, 3) := by decide +kernel
theorem dX5_liftTag_41 : decode cX5_liftTag 41 = .ok (.bipush (-4), 2) := by decide +kernel
theorem dX5_liftTag_43 : decode cX5_liftTag 43 = .ok (.ireturn, 1) := by decide +kernel
theorem dX5_liftTag_44 : decode cX5_liftTag 44 = .ok (.aload_n 3, 1) := by decide +kernel
theorem dX5_liftTag_45 : decode cX5_liftTag 45 = .ok (.getfield 124, 3) := by decide +kernel
theorem dX5_liftTag_48 : decode cX5_liftTag 48 = .ok (.iload_n 2, 1) := by decide +kernel
theorem dX5_liftTag_49 : decode cX5_liftTag 49 = .ok (.if_icmp .ne 16, 3) := by decide +kernel
theorem dX5_liftTag_52 : decode cX5_liftTag 52 = .ok (.aload_n 0, 1) := by decide +kernel
theorem dX5_liftTag_53 : decode cX5_liftTag 53 = .ok (.aload_n 3, 1) := by decide +kernel
theorem dX5_liftTag_54 : decode cX5_liftTag 54 = .ok (.getfield 111, 3) := by decide +kernel
theorem dX5_liftTag_57 : decode cX5_liftTag 57 = .ok (.iconst 0, 1) := by decide +kernel
theorem dX5_liftTag_58 : decode cX5_liftTag 58 = .ok (.invokevirtual 136, 3) := by decide +kernel
theorem dX5_liftTag_61 : decode cX5_liftTag 61 = .ok (.iload_n 1, 1) := by decide +kernel
theorem dX5_liftTag_62 : decode cX5_liftTag 62 = .ok (.if_icmp .eq 6, 3) := by decide +kernel
theorem dX5_liftTag_65 : decode cX5_liftTag 65 = .ok (.bipush (-4), 2) := by decide +kernel
theorem dX5_liftTag_67 : decode cX5_liftTag 67 = .ok (.ireturn, 1) := by decide +kernel
theorem dX5_liftTag_68 : decode cX5_liftTag 68 = .ok (.aload_n 3, 1) := by decide +kernel
theorem dX5_liftTag_69 : decode cX5_liftTag 69 = .ok (.getfield 108, 3) := by decide +kernel
theorem dX5_liftTag_72 : decode cX5_liftTag 72 = .ok (.iconst 3, 1) := by decide +kernel
theorem dX5_liftTag_73 : decode cX5_liftTag 73 = .ok (.if_icmp .ne 11, 3) := by decide +kernel
theorem dX5_liftTag_76 : decode cX5_liftTag 76 = .ok (.aload_n 3, 1) := by decide +kernel
theorem dX5_liftTag_77 : decode cX5_liftTag 77 = .ok (.iconst 4, 1) := by decide +kernel
theorem dX5_liftTag_78 : decode cX5_liftTag 78 = .ok (.putfield 108, 3) := by decide +kernel
theorem dX5_liftTag_81 : decode cX5_liftTag 81 = .ok (.goto 14, 3) := by decide +kernel
theorem dX5_liftTag_84 : decode cX5_liftTag 84 = .ok (.aload_n 3, 1) := by decide +kernel
theorem dX5_liftTag_85 : decode cX5_liftTag 85 = .ok (.iconst 0, 1) := by decide +kernel
theorem dX5_liftTag_86 : decode cX5_liftTag 86 = .ok (.putfield 108, 3) := by decide +kernel
theorem dX5_liftTag_89 : decode cX5_liftTag 89 = .ok (.aload_n 3, 1) := by decide +kernel
theorem dX5_liftTag_90 : decode cX5_liftTag 90 = .ok (.bipush (-5), 2) := by decide +kernel
theorem dX5_liftTag_92 : decode cX5_liftTag 92 = .ok (.putfield 124, 3) := by decide +kernel
theorem dX5_liftTag_95 : decode cX5_liftTag 95 = .ok (.aload_n 0, 1) := by decide +kernel
theorem dX5_liftTag_96 : decode cX5_liftTag 96 = .ok (.aload_n 3, 1) := by decide +kernel
theorem dX5_liftTag_97 : decode cX5_liftTag 97 = .ok (.getfield 111, 3) := by decide +kernel
theorem dX5_liftTag_100 : decode cX5_liftTag 100 = .ok (.invokevirtual 91, 3) := by decide +kernel
theorem dX5_liftTag_103 : decode cX5_liftTag 103 = .ok (.ireturn, 1) := by decide +kernel
theorem dX5_cancelTask_0 : decode cX5_cancelTask 0 = .ok (.aload_n 0, 1) := by decide +kernel
theorem dX5_cancelTask_1 : decode cX5_cancelTask 1 = .ok (.iload_n 1, 1) := by decide +kernel
theorem dX5_cancelTask_2 : decode cX5_cancelTask 2 = .ok (.invokevirtual 102, 3) := by decide +kernel
theorem dX5_cancelTask_5 : decode cX5_cancelTask 5 = .ok (.ifCond .ne 5, 3) := by decide +kernel
theorem dX5_cancelTask_8 : decode cX5_cancelTask 8 = .ok (.iconst (-1), 1) := by decide +kernel
theorem dX5_cancelTask_9 : decode cX5_cancelTask 9 = .ok (.ireturn, 1) := by decide +kernel
theorem dX5_cancelTask_10 : decode cX5_cancelTask 10 = .ok (.aload_n 0, 1) := by decide +kernel
theorem dX5_cancelTask_11 : decode cX5_cancelTask 11 = .ok (.getfield 25, 3) := by decide +kernel
theorem dX5_cancelTask_14 : decode cX5_cancelTask 14 = .ok (.iload_n 1, 1) := by decide +kernel
theorem dX5_cancelTask_15 : decode cX5_cancelTask 15 = .ok (.aaload, 1) := by decide +kernel
theorem dX5_cancelTask_16 : decode cX5_cancelTask 16 = .ok (.getfield 108, 3) := by decide +kernel
theorem dX5_cancelTask_19 : decode cX5_cancelTask 19 = .ok (.ifCond .eq 6, 3) := by decide +kernel
theorem dX5_cancelTask_22 : decode cX5_cancelTask 22 = .ok (.bipush (-4), 2) := by decide +kernel
theorem dX5_cancelTask_24 : decode cX5_cancelTask 24 = .ok (.ireturn, 1) := by decide +kernel
theorem dX5_cancelTask_25 : decode cX5_cancelTask 25 = .ok (.aload_n 0, 1) := by decide +kernel
theorem dX5_cancelTask_26 : decode cX5_cancelTask 26 = .ok (.getfield 25, 3) := by decide +kernel
theorem dX5_cancelTask_29 : decode cX5_cancelTask 29 = .ok (.iload_n 1, 1) := by decide +kernel
theorem dX5_cancelTask_30 : decode cX5_cancelTask 30 = .ok (.aaload, 1) := by decide +kernel
theorem dX5_cancelTask_31 : decode cX5_cancelTask 31 = .ok (.bipush 6, 2) := by decide +kernel
theorem dX5_cancelTask_33 : decode cX5_cancelTask 33 = .ok (.putfield 108, 3) := by decide +kernel
theorem dX5_cancelTask_36 : decode cX5_cancelTask 36 = .ok (.aload_n 0, 1) := by decide +kernel
theorem dX5_cancelTask_37 : decode cX5_cancelTask 37 = .ok (.getfield 25, 3) := by decide +kernel
theorem dX5_cancelTask_40 : decode cX5_cancelTask 40 = .ok (.iload_n 1, 1) := by decide +kernel
theorem dX5_cancelTask_41 : decode cX5_cancelTask 41 = .ok (.aaload, 1) := by decide +kernel
theorem dX5_cancelTask_42 : decode cX5_cancelTask 42 = .ok (.getfield 140, 3) := by decide +kernel
theorem dX5_cancelTask_45 : decode cX5_cancelTask 45 = .ok (.ireturn, 1) := by decide +kernel
theorem dX5_passHours_0 : decode cX5_passHours 0 = .ok (.iload_n 1, 1) := by decide +kernel
theorem dX5_passHours_1 : decode cX5_passHours 1 = .ok (.iconst 1, 1) := by decide +kernel
theorem dX5_passHours_2 : decode cX5_passHours 2 = .ok (.bipush 48, 2) := by decide +kernel
theorem dX5_passHours_4 : decode cX5_passHours 4 = .ok (.invokestatic 59, 3) := by decide +kernel
theorem dX5_passHours_7 : decode cX5_passHours 7 = .ok (.ifCond .ne 6, 3) := by decide +kernel
theorem dX5_passHours_10 : decode cX5_passHours 10 = .ok (.bipush (-2), 2) := by decide +kernel
theorem dX5_passHours_12 : decode cX5_passHours 12 = .ok (.ireturn, 1) := by decide +kernel
theorem dX5_passHours_13 : decode cX5_passHours 13 = .ok (.aload_n 0, 1) := by decide +kernel
theorem dX5_passHours_14 : decode cX5_passHours 14 = .ok (.getfield 43, 3) := by decide +kernel
theorem dX5_passHours_17 : decode cX5_passHours 17 = .ok (.iload_n 1, 1) := by decide +kernel
theorem dX5_passHours_18 : decode cX5_passHours 18 = .ok (.iadd, 1) := by decide +kernel
theorem dX5_passHours_19 : decode cX5_passHours 19 = .ok (.sipush 2000, 3) := by decide +kernel
theorem dX5_passHours_22 : decode cX5_passHours 22 = .ok (.if_icmp .le 6, 3) := by decide +kernel
theorem dX5_passHours_25 : decode cX5_passHours 25 = .ok (.bipush (-4), 2) := by decide +kernel
theorem dX5_passHours_27 : decode cX5_passHours 27 = .ok (.ireturn, 1) := by decide +kernel
theorem dX5_passHours_28 : decode cX5_passHours 28 = .ok (.iconst 0, 1) := by decide +kernel
theorem dX5_passHours_29 : decode cX5_passHours 29 = .ok (.istore_n 2, 1) := by decide +kernel
theorem dX5_passHours_30 : decode cX5_passHours 30 = .ok (.iconst 0, 1) := by decide +kernel
theorem dX5_passHours_31 : decode cX5_passHours 31 = .ok (.istore_n 3, 1) := by decide +kernel
theorem dX5_passHours_32 : decode cX5_passHours 32 = .ok (.iload_n 3, 1) := by decide +kernel
theorem dX5_passHours_33 : decode cX5_passHours 33 = .ok (.iload_n 1, 1) := by decide +kernel
theorem dX5_passHours_34 : decode cX5_passHours 34 = .ok (.if_icmp .ge 34, 3) := by decide +kernel
theorem dX5_passHours_37 : decode cX5_passHours 37 = .ok (.aload_n 0, 1) := by decide +kernel
theorem dX5_passHours_38 : decode cX5_passHours 38 = .ok (.invokevirtual 143, 3) := by decide +kernel
theorem dX5_passHours_41 : decode cX5_passHours 41 = .ok (.iload_n 2, 1) := by decide +kernel
theorem dX5_passHours_42 : decode cX5_passHours 42 = .ok (.aload_n 0, 1) := by decide +kernel
theorem dX5_passHours_43 : decode cX5_passHours 43 = .ok (.invokevirtual 146, 3) := by decide +kernel
theorem dX5_passHours_46 : decode cX5_passHours 46 = .ok (.iadd, 1) := by decide +kernel
theorem dX5_passHours_47 : decode cX5_passHours 47 = .ok (.istore_n 2, 1) := by decide +kernel
theorem dX5_passHours_48 : decode cX5_passHours 48 = .ok (.aload_n 0, 1) := by decide +kernel
theorem dX5_passHours_49 : decode cX5_passHours 49 = .ok (.dup, 1) := by decide +kernel
theorem dX5_passHours_50 : decode cX5_passHours 50 = .ok (.getfield 43, 3) := by decide +kernel
theorem dX5_passHours_53 : decode cX5_passHours 53 = .ok (.iconst 1, 1) := by decide +kernel
theorem dX5_passHours_54 : decode cX5_passHours 54 = .ok (.iadd, 1) := by decide +kernel
theorem dX5_passHours_55 : decode cX5_passHours 55 = .ok (.putfield 43, 3) := by decide +kernel
theorem dX5_passHours_58 : decode cX5_passHours 58 = .ok (.aload_n 0, 1) := by decide +kernel
theorem dX5_passHours_59 : decode cX5_passHours 59 = .ok (.invokevirtual 149, 3) := by decide +kernel
theorem dX5_passHours_62 : decode cX5_passHours 62 = .ok (.iinc 3 1, 3) := by decide +kernel
theorem dX5_passHours_65 : decode cX5_passHours 65 = .ok (.goto (-33), 3) := by decide +kernel
theorem dX5_passHours_68 : decode cX5_passHours 68 = .ok (.iload_n 2, 1) := by decide +kernel
theorem dX5_passHours_69 : decode cX5_passHours 69 = .ok (.ireturn, 1) := by decide +kernel
theorem dX5_runAssets_0 : decode cX5_runAssets 0 = .ok (.iconst 0, 1) := by decide +kernel
theorem dX5_runAssets_1 : decode cX5_runAssets 1 = .ok (.istore_n 1, 1) := by decide +kernel
theorem dX5_runAssets_2 : decode cX5_runAssets 2 = .ok (.iload_n 1, 1) := by decide +kernel
theorem dX5_runAssets_3 : decode cX5_runAssets 3 = .ok (.aload_n 0, 1) := by decide +kernel
theorem dX5_runAssets_4 : decode cX5_runAssets 4 = .ok (.getfield 33, 3) := by decide +kernel
theorem dX5_runAssets_7 : decode cX5_runAssets 7 = .ok (.if_icmp .ge 30, 3) := by decide +kernel
theorem dX5_runAssets_10 : decode cX5_runAssets 10 = .ok (.aload_n 0, 1) := by decide +kernel
theorem dX5_runAssets_11 : decode cX5_runAssets 11 = .ok (.getfield 11, 3) := by decide +kernel
theorem dX5_runAssets_14 : decode cX5_runAssets 14 = .ok (.iload_n 1, 1) := by decide +kernel
theorem dX5_runAssets_15 : decode cX5_runAssets 15 = .ok (.aaload, 1) := by decide +kernel
theorem dX5_runAssets_16 : decode cX5_runAssets 16 = .ok (.getfield 94, 3) := by decide +kernel
theorem dX5_runAssets_19 : decode cX5_runAssets 19 = .ok (.ifCond .eq 12, 3) := by decide +kernel
theorem dX5_runAssets_22 : decode cX5_runAssets 22 = .ok (.aload_n 0, 1) := by decide +kernel
theorem dX5_runAssets_23 : decode cX5_runAssets 23 = .ok (.getfield 11, 3) := by decide +kernel
theorem dX5_runAssets_26 : decode cX5_runAssets 26 = .ok (.iload_n 1, 1) := by decide +kernel
theorem dX5_runAssets_27 : decode cX5_runAssets 27 = .ok (.aaload, 1) := by decide +kernel
theorem dX5_runAssets_28 : decode cX5_runAssets 28 = .ok (.invokevirtual 152, 3) := by decide +kernel
theorem dX5_runAssets_31 : decode cX5_runAssets 31 = .ok (.iinc 1 1, 3) := by decide +kernel
theorem dX5_runAssets_34 : decode cX5_runAssets 34 = .ok (.goto (-32), 3) := by decide +kernel
theorem dX5_runAssets_37 : decode cX5_runAssets 37 = .ok (.return_, 1) := by decide +kernel
theorem dX5_workOnTasks_0 : decode cX5_workOnTasks 0 = .ok (.iconst 0, 1) := by decide +kernel
theorem dX5_workOnTasks_1 : decode cX5_workOnTasks 1 = .ok (.istore_n 1, 1) := by decide +kernel
theorem dX5_workOnTasks_2 : decode cX5_workOnTasks 2 = .ok (.iconst 0, 1) := by decide +kernel
theorem dX5_workOnTasks_3 : decode cX5_workOnTasks 3 = .ok (.istore_n 2, 1) := by decide +kernel
theorem dX5_workOnTasks_4 : decode cX5_workOnTasks 4 = .ok (.iload_n 2, 1) := by decide +kernel
theorem dX5_workOnTasks_5 : decode cX5_workOnTasks 5 = .ok (.aload_n 0, 1) := by decide +kernel
theorem dX5_workOnTasks_6 : decode cX5_workOnTasks 6 = .ok (.getfield 40, 3) := by decide +kernel
theorem dX5_workOnTasks_9 : decode cX5_workOnTasks 9 = .ok (.if_icmp .ge 57, 3) := by decide +kernel
theorem dX5_workOnTasks_12 : decode cX5_workOnTasks 12 = .ok (.aload_n 0, 1) := by decide +kernel
theorem dX5_workOnTasks_13 : decode cX5_workOnTasks 13 = .ok (.getfield 25, 3) := by decide +kernel
theorem dX5_workOnTasks_16 : decode cX5_workOnTasks 16 = .ok (.iload_n 2, 1) := by decide +kernel
theorem dX5_workOnTasks_17 : decode cX5_workOnTasks 17 = .ok (.aaload, 1) := by decide +kernel
theorem dX5_workOnTasks_18 : decode cX5_workOnTasks 18 = .ok (.astore_n 3, 1) := by decide +kernel
theorem dX5_workOnTasks_19 : decode cX5_workOnTasks 19 = .ok (.aload_n 3, 1) := by decide +kernel
theorem dX5_workOnTasks_20 : decode cX5_workOnTasks 20 = .ok (.getfield 108, 3) := by decide +kernel
theorem dX5_workOnTasks_23 : decode cX5_workOnTasks 23 = .ok (.iconst 2, 1) := by decide +kernel
theorem dX5_workOnTasks_24 : decode cX5_workOnTasks 24 = .ok (.if_icmp .ne 36, 3) := by decide +kernel
theorem dX5_workOnTasks_27 : decode cX5_workOnTasks 27 = .ok (.aload_n 3, 1) := by decide +kernel
theorem dX5_workOnTasks_28 : decode cX5_workOnTasks 28 = .ok (.dup, 1) := by decide +kernel
theorem dX5_workOnTasks_29 : decode cX5_workOnTasks 29 = .ok (.getfield 133, 3) := by decide +kernel
theorem dX5_workOnTasks_32 : decode cX5_workOnTasks 32 = .ok (.iconst 1, 1) := by decide +kernel
theorem dX5_workOnTasks_33 : decode cX5_workOnTasks 33 = .ok (.isub, 1) := by decide +kernel
theorem dX5_workOnTasks_34 : decode cX5_workOnTasks 34 = .ok (.putfield 133, 3) := by decide +kernel
theorem dX5_workOnTasks_37 : decode cX5_workOnTasks 37 = .ok (.aload_n 3, 1) := by decide +kernel
theorem dX5_workOnTasks_38 : decode cX5_workOnTasks 38 = .ok (.getfield 133, 3) := by decide +kernel
theorem dX5_workOnTasks_41 : decode cX5_workOnTasks 41 = .ok (.ifCond .gt 19, 3) := by decide +kernel
theorem dX5_workOnTasks_44 : decode cX5_workOnTasks 44 = .ok (.aload_n 3, 1) := by decide +kernel
theorem dX5_workOnTasks_45 : decode cX5_workOnTasks 45 = .ok (.iconst 3, 1) := by decide +kernel
theorem dX5_workOnTasks_46 : decode cX5_workOnTasks 46 = .ok (.putfield 108, 3) := by decide +kernel
theorem dX5_workOnTasks_49 : decode cX5_workOnTasks 49 = .ok (.iinc 1 1, 3) := by decide +kernel
theorem dX5_workOnTasks_52 : decode cX5_workOnTasks 52 = .ok (.aload_n 0, 1) := by decide +kernel
theorem dX5_workOnTasks_53 : decode cX5_workOnTasks 53 = .ok (.aload_n 3, 1) := by decide +kernel
theorem dX5_workOnTasks_54 : decode cX5_workOnTasks 54 = .ok (.getfield 111, 3) := by decide +kernel
theorem dX5_workOnTasks_57 : decode cX5_workOnTasks 57 = .ok (.invokevirtual 155, 3) := by decide +kernel
theorem dX5_workOnTasks_60 : decode cX5_workOnTasks 60 = .ok (.iinc 2 1, 3) := by decide +kernel
theorem dX5_workOnTasks_63 : decode cX5_workOnTasks 63 = .ok (.goto (-59), 3) := by decide +kernel
theorem dX5_workOnTasks_66 : decode cX5_workOnTasks 66 = .ok (.iload_n 1, 1) := by decide +kernel
theorem dX5_workOnTasks_67 : decode cX5_workOnTasks 67 = .ok (.ireturn, 1) := by decide +kernel
theorem dX5_mendAsset_0 : decode cX5_mendAsset 0 = .ok (.aload_n 0, 1) := by decide +kernel
theorem dX5_mendAsset_1 : decode cX5_mendAsset 1 = .ok (.iload_n 1, 1) := by decide +kernel
theorem dX5_mendAsset_2 : decode cX5_mendAsset 2 = .ok (.invokevirtual 67, 3) := by decide +kernel
theorem dX5_mendAsset_5 : decode cX5_mendAsset 5 = .ok (.ifCond .eq 12, 3) := by decide +kernel
theorem dX5_mendAsset_8 : decode cX5_mendAsset 8 = .ok (.aload_n 0, 1) := by decide +kernel
theorem dX5_mendAsset_9 : decode cX5_mendAsset 9 = .ok (.getfield 11, 3) := by decide +kernel
theorem dX5_mendAsset_12 : decode cX5_mendAsset 12 = .ok (.iload_n 1, 1) := by decide +kernel
theorem dX5_mendAsset_13 : decode cX5_mendAsset 13 = .ok (.aaload, 1) := by decide +kernel
theorem dX5_mendAsset_14 : decode cX5_mendAsset 14 = .ok (.invokevirtual 159, 3) := by decide +kernel
theorem dX5_mendAsset_17 : decode cX5_mendAsset 17 = .ok (.return_, 1) := by decide +kernel
theorem dX5_slipTasks_0 : decode cX5_slipTasks 0 = .ok (.iconst 0, 1) := by decide +kernel
theorem dX5_slipTasks_1 : decode cX5_slipTasks 1 = .ok (.istore_n 1, 1) := by decide +kernel
theorem dX5_slipTasks_2 : decode cX5_slipTasks 2 = .ok (.iload_n 1, 1) := by decide +kernel
theorem dX5_slipTasks_3 : decode cX5_slipTasks 3 = .ok (.aload_n 0, 1) := by decide +kernel
theorem dX5_slipTasks_4 : decode cX5_slipTasks 4 = .ok (.getfield 40, 3) := by decide +kernel
theorem dX5_slipTasks_7 : decode cX5_slipTasks 7 = .ok (.if_icmp .ge 40, 3) := by decide +kernel
theorem dX5_slipTasks_10 : decode cX5_slipTasks 10 = .ok (.aload_n 0, 1) := by decide +kernel
theorem dX5_slipTasks_11 : decode cX5_slipTasks 11 = .ok (.getfield 25, 3) := by decide +kernel
theorem dX5_slipTasks_14 : decode cX5_slipTasks 14 = .ok (.iload_n 1, 1) := by decide +kernel
theorem dX5_slipTasks_15 : decode cX5_slipTasks 15 = .ok (.aaload, 1) := by decide +kernel
theorem dX5_slipTasks_16 : decode cX5_slipTasks 16 = .ok (.astore_n 2, 1) := by decide +kernel
theorem dX5_slipTasks_17 : decode cX5_slipTasks 17 = .ok (.aload_n 2, 1) := by decide +kernel
theorem dX5_slipTasks_18 : decode cX5_slipTasks 18 = .ok (.iconst 0, 1) := by decide +kernel
theorem dX5_slipTasks_19 : decode cX5_slipTasks 19 = .ok (.iconst 1, 1) := by decide +kernel
theorem dX5_slipTasks_20 : decode cX5_slipTasks 20 = .ok (.invokevirtual 162, 3) := by decide +kernel
theorem dX5_slipTasks_23 : decode cX5_slipTasks 23 = .ok (.ifCond .eq 18, 3) := by decide +kernel
theorem dX5_slipTasks_26 : decode cX5_slipTasks 26 = .ok (.aload_n 2, 1) := by decide +kernel
theorem dX5_slipTasks_27 : decode cX5_slipTasks 27 = .ok (.aload_n 0, 1) := by decide +kernel
theorem dX5_slipTasks_28 : decode cX5_slipTasks 28 = .ok (.getfield 43, 3) := by decide +kernel
theorem dX5_slipTasks_31 : decode cX5_slipTasks 31 = .ok (.invokevirtual 165, 3) := by decide +kernel
theorem dX5_slipTasks_34 : decode cX5_slipTasks 34 = .ok (.ifCond .eq 7, 3) := by decide +kernel
theorem dX5_slipTasks_37 : decode cX5_slipTasks 37 = .ok (.aload_n 2, 1) := by decide +kernel
theorem dX5_slipTasks_38 : decode cX5_slipTasks 38 = .ok (.invokevirtual 168, 3) := by decide +kernel
theorem dX5_slipTasks_41 : decode cX5_slipTasks 41 = .ok (.iinc 1 1, 3) := by decide +kernel
theorem dX5_slipTasks_44 : decode cX5_slipTasks 44 = .ok (.goto (-42), 3) := by decide +kernel
theorem dX5_slipTasks_47 : decode cX5_slipTasks 47 = .ok (.return_, 1) := by decide +kernel
theorem dX5_reasonAgainst_0 : decode cX5_reasonAgainst 0 = .ok (.aload_n 0, 1) := by decide +kernel
theorem dX5_reasonAgainst_1 : decode cX5_reasonAgainst 1 = .ok (.iload_n 1, 1) := by decide +kernel
theorem dX5_reasonAgainst_2 : decode cX5_reasonAgainst 2 = .ok (.invokevirtual 102, 3) := by decide +kernel
theorem dX5_reasonAgainst_5 : decode cX5_reasonAgainst 5 = .ok (.ifCond .ne 5, 3) := by decide +kernel
theorem dX5_reasonAgainst_8 : decode cX5_reasonAgainst 8 = .ok (.iconst 0, 1) := by decide +kernel
theorem dX5_reasonAgainst_9 : decode cX5_reasonAgainst 9 = .ok (.ireturn, 1) := by decide +kernel
theorem dX5_reasonAgainst_10 : decode cX5_reasonAgainst 10 = .ok (.aload_n 0, 1) := by decide +kernel
theorem dX5_reasonAgainst_11 : decode cX5_reasonAgainst 11 = .ok (.getfield 25, 3) := by decide +kernel
theorem dX5_reasonAgainst_14 : decode cX5_reasonAgainst 14 = .ok (.iload_n 1, 1) := by decide +kernel
theorem dX5_reasonAgainst_15 : decode cX5_reasonAgainst 15 = .ok (.aaload, 1) := by decide +kernel
theorem dX5_reasonAgainst_16 : decode cX5_reasonAgainst 16 = .ok (.astore_n 2, 1) := by decide +kernel
theorem dX5_reasonAgainst_17 : decode cX5_reasonAgainst 17 = .ok (.aload_n 2, 1) := by decide +kernel
theorem dX5_reasonAgainst_18 : decode cX5_reasonAgainst 18 = .ok (.getfield 108, 3) := by decide +kernel
theorem dX5_reasonAgainst_21 : decode cX5_reasonAgainst 21 = .ok (.iconst 1, 1) := by decide +kernel
theorem dX5_reasonAgainst_22 : decode cX5_reasonAgainst 22 = .ok (.if_icmp .eq 5, 3) := by decide +kernel
theorem dX5_reasonAgainst_25 : decode cX5_reasonAgainst 25 = .ok (.iconst 1, 1) := by decide +kernel
theorem dX5_reasonAgainst_26 : decode cX5_reasonAgainst 26 = .ok (.ireturn, 1) := by decide +kernel
theorem dX5_reasonAgainst_27 : decode cX5_reasonAgainst 27 = .ok (.aload_n 0, 1) := by decide +kernel
theorem dX5_reasonAgainst_28 : decode cX5_reasonAgainst 28 = .ok (.getfield 43, 3) := by decide +kernel
theorem dX5_reasonAgainst_31 : decode cX5_reasonAgainst 31 = .ok (.aload_n 2, 1) := by decide +kernel
theorem dX5_reasonAgainst_32 : decode cX5_reasonAgainst 32 = .ok (.getfield 171, 3) := by decide +kernel
theorem dX5_reasonAgainst_35 : decode cX5_reasonAgainst 35 = .ok (.if_icmp .ge 5, 3) := by decide +kernel
theorem dX5_reasonAgainst_38 : decode cX5_reasonAgainst 38 = .ok (.iconst 2, 1) := by decide +kernel
theorem dX5_reasonAgainst_39 : decode cX5_reasonAgainst 39 = .ok (.ireturn, 1) := by decide +kernel
theorem dX5_reasonAgainst_40 : decode cX5_reasonAgainst 40 = .ok (.aload_n 2, 1) := by decide +kernel
theorem dX5_reasonAgainst_41 : decode cX5_reasonAgainst 41 = .ok (.aload_n 0, 1) := by decide +kernel
theorem dX5_reasonAgainst_42 : decode cX5_reasonAgainst 42 = .ok (.getfield 43, 3) := by decide +kernel
theorem dX5_reasonAgainst_45 : decode cX5_reasonAgainst 45 = .ok (.invokevirtual 165, 3) := by decide +kernel
theorem dX5_reasonAgainst_48 : decode cX5_reasonAgainst 48 = .ok (.ifCond .eq 5, 3) := by decide +kernel
theorem dX5_reasonAgainst_51 : decode cX5_reasonAgainst 51 = .ok (.iconst 3, 1) := by decide +kernel
theorem dX5_reasonAgainst_52 : decode cX5_reasonAgainst 52 = .ok (.ireturn, 1) := by decide +kernel
theorem dX5_reasonAgainst_53 : decode cX5_reasonAgainst 53 = .ok (.aload_n 0, 1) := by decide +kernel
theorem dX5_reasonAgainst_54 : decode cX5_reasonAgainst 54 = .ok (.iload_n 1, 1) := by decide +kernel
theorem dX5_reasonAgainst_55 : decode cX5_reasonAgainst 55 = .ok (.invokevirtual 174, 3) := by decide +kernel
theorem dX5_reasonAgainst_58 : decode cX5_reasonAgainst 58 = .ok (.bipush (-5), 2) := by decide +kernel
theorem dX5_reasonAgainst_60 : decode cX5_reasonAgainst 60 = .ok (.if_icmp .eq 7, 3) := by decide +kernel
theorem dX5_reasonAgainst_63 : decode cX5_reasonAgainst 63 = .ok (.iconst 4, 1) := by decide +kernel
theorem dX5_reasonAgainst_64 : decode cX5_reasonAgainst 64 = .ok (.goto 4, 3) := by decide +kernel
theorem dX5_reasonAgainst_67 : decode cX5_reasonAgainst 67 = .ok (.iconst 0, 1) := by decide +kernel
theorem dX5_reasonAgainst_68 : decode cX5_reasonAgainst 68 = .ok (.ireturn, 1) := by decide +kernel
theorem dX5_barrierOf_0 : decode cX5_barrierOf 0 = .ok (.aload_n 0, 1) := by decide +kernel
theorem dX5_barrierOf_1 : decode cX5_barrierOf 1 = .ok (.iload_n 1, 1) := by decide +kernel
theorem dX5_barrierOf_2 : decode cX5_barrierOf 2 = .ok (.invokevirtual 102, 3) := by decide +kernel
theorem dX5_barrierOf_5 : decode cX5_barrierOf 5 = .ok (.ifCond .eq 16, 3) := by decide +kernel
theorem dX5_barrierOf_8 : decode cX5_barrierOf 8 = .ok (.aload_n 0, 1) := by decide +kernel
theorem dX5_barrierOf_9 : decode cX5_barrierOf 9 = .ok (.getfield 25, 3) := by decide +kernel
theorem dX5_barrierOf_12 : decode cX5_barrierOf 12 = .ok (.iload_n 1, 1) := by decide +kernel
theorem dX5_barrierOf_13 : decode cX5_barrierOf 13 = .ok (.aaload, 1) := by decide +kernel
theorem dX5_barrierOf_14 : decode cX5_barrierOf 14 = .ok (.getfield 108, 3) := by decide +kernel
theorem dX5_barrierOf_17 : decode cX5_barrierOf 17 = .ok (.iconst 2, 1) := by decide +kernel
theorem dX5_barrierOf_18 : decode cX5_barrierOf 18 = .ok (.if_icmp .ne 6, 3) := by decide +kernel
theorem dX5_barrierOf_21 : decode cX5_barrierOf 21 = .ok (.bipush (-5), 2) := by decide +kernel
theorem dX5_barrierOf_23 : decode cX5_barrierOf 23 = .ok (.ireturn, 1) := by decide +kernel
theorem dX5_barrierOf_24 : decode cX5_barrierOf 24 = .ok (.aload_n 0, 1) := by decide +kernel
theorem dX5_barrierOf_25 : decode cX5_barrierOf 25 = .ok (.getfield 25, 3) := by decide +kernel
theorem dX5_barrierOf_28 : decode cX5_barrierOf 28 = .ok (.iload_n 1, 1) := by decide +kernel
theorem dX5_barrierOf_29 : decode cX5_barrierOf 29 = .ok (.aaload, 1) := by decide +kernel
theorem dX5_barrierOf_30 : decode cX5_barrierOf 30 = .ok (.astore_n 2, 1) := by decide +kernel
theorem dX5_barrierOf_31 : decode cX5_barrierOf 31 = .ok (.iconst 0, 1) := by decide +kernel
theorem dX5_barrierOf_32 : decode cX5_barrierOf 32 = .ok (.istore_n 3, 1) := by decide +kernel
theorem dX5_barrierOf_33 : decode cX5_barrierOf 33 = .ok (.iload_n 3, 1) := by decide +kernel
theorem dX5_barrierOf_34 : decode cX5_barrierOf 34 = .ok (.aload_n 0, 1) := by decide +kernel
theorem dX5_barrierOf_35 : decode cX5_barrierOf 35 = .ok (.getfield 40, 3) := by decide +kernel
theorem dX5_barrierOf_38 : decode cX5_barrierOf 38 = .ok (.if_icmp .ge 60, 3) := by decide +kernel
theorem dX5_barrierOf_41 : decode cX5_barrierOf 41 = .ok (.aload_n 0, 1) := by decide +kernel
theorem dX5_barrierOf_42 : decode cX5_barrierOf 42 = .ok (.getfield 25, 3) := by decide +kernel
theorem dX5_barrierOf_45 : decode cX5_barrierOf 45 = .ok (.iload_n 3, 1) := by decide +kernel
theorem dX5_barrierOf_46 : decode cX5_barrierOf 46 = .ok (.aaload, 1) := by decide +kernel
theorem dX5_barrierOf_47 : decode cX5_barrierOf 47 = .ok (.astore 4, 2) := by decide +kernel
theorem dX5_barrierOf_49 : decode cX5_barrierOf 49 = .ok (.aload 4, 2) := by decide +kernel
theorem dX5_barrierOf_51 : decode cX5_barrierOf 51 = .ok (.getfield 108, 3) := by decide +kernel
theorem dX5_barrierOf_54 : decode cX5_barrierOf 54 = .ok (.iconst 2, 1) := by decide +kernel
theorem dX5_barrierOf_55 : decode cX5_barrierOf 55 = .ok (.if_icmp .ne 37, 3) := by decide +kernel
theorem dX5_barrierOf_58 : decode cX5_barrierOf 58 = .ok (.aload_n 0, 1) := by decide +kernel
theorem dX5_barrierOf_59 : decode cX5_barrierOf 59 = .ok (.aload_n 2, 1) := by decide +kernel
theorem dX5_barrierOf_60 : decode cX5_barrierOf 60 = .ok (.getfield 177, 3) := by decide +kernel
theorem dX5_barrierOf_63 : decode cX5_barrierOf 63 = .ok (.aload 4, 2) := by decide +kernel
theorem dX5_barrierOf_65 : decode cX5_barrierOf 65 = .ok (.getfield 177, 3) := by decide +kernel
theorem dX5_barrierOf_68 : decode cX5_barrierOf 68 = .ok (.invokevirtual 83, 3) := by decide +kernel
theorem dX5_barrierOf_71 : decode cX5_barrierOf 71 = .ok (.ifCond .eq 21, 3) := by decide +kernel
theorem dX5_barrierOf_74 : decode cX5_barrierOf 74 = .ok (.aload_n 0, 1) := by decide +kernel
theorem dX5_barrierOf_75 : decode cX5_barrierOf 75 = .ok (.aload_n 2, 1) := by decide +kernel
theorem dX5_barrierOf_76 : decode cX5_barrierOf 76 = .ok (.getfield 111, 3) := by decide +kernel
theorem dX5_barrierOf_79 : decode cX5_barrierOf 79 = .ok (.aload 4, 2) := by decide +kernel
theorem dX5_barrierOf_81 : decode cX5_barrierOf 81 = .ok (.getfield 111, 3) := by decide +kernel
theorem dX5_barrierOf_84 : decode cX5_barrierOf 84 = .ok (.invokevirtual 180, 3) := by decide +kernel
theorem dX5_barrierOf_87 : decode cX5_barrierOf 87 = .ok (.ifCond .eq 5, 3) := by decide +kernel
theorem dX5_barrierOf_90 : decode cX5_barrierOf 90 = .ok (.iload_n 3, 1) := by decide +kernel
theorem dX5_barrierOf_91 : decode cX5_barrierOf 91 = .ok (.ireturn, 1) := by decide +kernel
theorem dX5_barrierOf_92 : decode cX5_barrierOf 92 = .ok (.iinc 3 1, 3) := by decide +kernel
theorem dX5_barrierOf_95 : decode cX5_barrierOf 95 = .ok (.goto (-62), 3) := by decide +kernel
theorem dX5_barrierOf_98 : decode cX5_barrierOf 98 = .ok (.bipush (-5), 2) := by decide +kernel
theorem dX5_barrierOf_100 : decode cX5_barrierOf 100 = .ok (.ireturn, 1) := by decide +kernel
theorem dX5_doBar_0 : decode cX5_doBar 0 = .ok (.iload_n 1, 1) := by decide +kernel
theorem dX5_doBar_1 : decode cX5_doBar 1 = .ok (.ifCond .lt 30, 3) := by decide +kernel
theorem dX5_doBar_4 : decode cX5_doBar 4 = .ok (.iload_n 1, 1) := by decide +kernel
theorem dX5_doBar_5 : decode cX5_doBar 5 = .ok (.aload_n 0, 1) := by decide +kernel
theorem dX5_doBar_6 : decode cX5_doBar 6 = .ok (.getfield 29, 3) := by decide +kernel
theorem dX5_doBar_9 : decode cX5_doBar 9 = .ok (.arraylength, 1) := by decide +kernel
theorem dX5_doBar_10 : decode cX5_doBar 10 = .ok (.if_icmp .ge 21, 3) := by decide +kernel
theorem dX5_doBar_13 : decode cX5_doBar 13 = .ok (.aload_n 0, 1) := by decide +kernel
theorem dX5_doBar_14 : decode cX5_doBar 14 = .ok (.getfield 29, 3) := by decide +kernel
theorem dX5_doBar_17 : decode cX5_doBar 17 = .ok (.iload_n 1, 1) := by decide +kernel
theorem dX5_doBar_18 : decode cX5_doBar 18 = .ok (.iaload, 1) := by decide +kernel
theorem dX5_doBar_19 : decode cX5_doBar 19 = .ok (.iload_n 2, 1) := by decide +kernel
theorem dX5_doBar_20 : decode cX5_doBar 20 = .ok (.ishr, 1) := by decide +kernel
theorem dX5_doBar_21 : decode cX5_doBar 21 = .ok (.iconst 1, 1) := by decide +kernel
theorem dX5_doBar_22 : decode cX5_doBar 22 = .ok (.iand, 1) := by decide +kernel
theorem dX5_doBar_23 : decode cX5_doBar 23 = .ok (.iconst 1, 1) := by decide +kernel
theorem dX5_doBar_24 : decode cX5_doBar 24 = .ok (.if_icmp .ne 7, 3) := by decide +kernel
theorem dX5_doBar_27 : decode cX5_doBar 27 = .ok (.iconst 1, 1) := by decide +kernel
theorem dX5_doBar_28 : decode cX5_doBar 28 = .ok (.goto 4, 3) := by decide +kernel
theorem dX5_doBar_31 : decode cX5_doBar 31 = .ok (.iconst 0, 1) := by decide +kernel
theorem dX5_doBar_32 : decode cX5_doBar 32 = .ok (.ireturn, 1) := by decide +kernel
theorem dX5_areNear_0 : decode cX5_areNear 0 = .ok (.iload_n 1, 1) := by decide +kernel
theorem dX5_areNear_1 : decode cX5_areNear 1 = .ok (.iload_n 2, 1) := by decide +kernel
theorem dX5_areNear_2 : decode cX5_areNear 2 = .ok (.if_icmp .eq 28, 3) := by decide +kernel
theorem dX5_areNear_5 : decode cX5_areNear 5 = .ok (.iload_n 1, 1) := by decide +kernel
theorem dX5_areNear_6 : decode cX5_areNear 6 = .ok (.ifCond .lt 28, 3) := by decide +kernel
theorem dX5_areNear_9 : decode cX5_areNear 9 = .ok (.iload_n 1, 1) := by decide +kernel
theorem dX5_areNear_10 : decode cX5_areNear 10 = .ok (.aload_n 0, 1) := by decide +kernel
theorem dX5_areNear_11 : decode cX5_areNear 11 = .ok (.getfield 33, 3) := by decide +kernel
theorem dX5_areNear_14 : decode cX5_areNear 14 = .ok (.if_icmp .ge 20, 3) := by decide +kernel
theorem dX5_areNear_17 : decode cX5_areNear 17 = .ok (.aload_n 0, 1) := by decide +kernel
theorem dX5_areNear_18 : decode cX5_areNear 18 = .ok (.getfield 11, 3) := by decide +kernel
theorem dX5_areNear_21 : decode cX5_areNear 21 = .ok (.iload_n 1, 1) := by decide +kernel
theorem dX5_areNear_22 : decode cX5_areNear 22 = .ok (.aaload, 1) := by decide +kernel
theorem dX5_areNear_23 : decode cX5_areNear 23 = .ok (.iload_n 2, 1) := by decide +kernel
theorem dX5_areNear_24 : decode cX5_areNear 24 = .ok (.invokevirtual 71, 3) := by decide +kernel
theorem dX5_areNear_27 : decode cX5_areNear 27 = .ok (.ifCond .eq 7, 3) := by decide +kernel
theorem dX5_areNear_30 : decode cX5_areNear 30 = .ok (.iconst 1, 1) := by decide +kernel
theorem dX5_areNear_31 : decode cX5_areNear 31 = .ok (.goto 4, 3) := by decide +kernel
theorem dX5_areNear_34 : decode cX5_areNear 34 = .ok (.iconst 0, 1) := by decide +kernel
theorem dX5_areNear_35 : decode cX5_areNear 35 = .ok (.ireturn, 1) := by decide +kernel
theorem dX5_isRunning_0 : decode cX5_isRunning 0 = .ok (.aload_n 0, 1) := by decide +kernel
theorem dX5_isRunning_1 : decode cX5_isRunning 1 = .ok (.iload_n 1, 1) := by decide +kernel
theorem dX5_isRunning_2 : decode cX5_isRunning 2 = .ok (.invokevirtual 67, 3) := by decide +kernel
theorem dX5_isRunning_5 : decode cX5_isRunning 5 = .ok (.ifCond .eq 19, 3) := by decide +kernel
theorem dX5_isRunning_8 : decode cX5_isRunning 8 = .ok (.aload_n 0, 1) := by decide +kernel
theorem dX5_isRunning_9 : decode cX5_isRunning 9 = .ok (.getfield 11, 3) := by decide +kernel
theorem dX5_isRunning_12 : decode cX5_isRunning 12 = .ok (.iload_n 1, 1) := by decide +kernel
theorem dX5_isRunning_13 : decode cX5_isRunning 13 = .ok (.aaload, 1) := by decide +kernel
theorem dX5_isRunning_14 : decode cX5_isRunning 14 = .ok (.getfield 94, 3) := by decide +kernel
theorem dX5_isRunning_17 : decode cX5_isRunning 17 = .ok (.ifCond .eq 7, 3) := by decide +kernel
theorem dX5_isRunning_20 : decode cX5_isRunning 20 = .ok (.iconst 1, 1) := by decide +kernel
theorem dX5_isRunning_21 : decode cX5_isRunning 21 = .ok (.goto 4, 3) := by decide +kernel
theorem dX5_isRunning_24 : decode cX5_isRunning 24 = .ok (.iconst 0, 1) := by decide +kernel
theorem dX5_isRunning_25 : decode cX5_isRunning 25 = .ok (.ireturn, 1) := by decide +kernel
theorem dX5_canServe_0 : decode cX5_canServe 0 = .ok (.aload_n 0, 1) := by decide +kernel
theorem dX5_canServe_1 : decode cX5_canServe 1 = .ok (.getfield 19, 3) := by decide +kernel
theorem dX5_canServe_4 : decode cX5_canServe 4 = .ok (.iload_n 1, 1) := by decide +kernel
theorem dX5_canServe_5 : decode cX5_canServe 5 = .ok (.aaload, 1) := by decide +kernel
theorem dX5_canServe_6 : decode cX5_canServe 6 = .ok (.aload_n 2, 1) := by decide +kernel
theorem dX5_canServe_7 : decode cX5_canServe 7 = .ok (.getfield 183, 3) := by decide +kernel
theorem dX5_canServe_10 : decode cX5_canServe 10 = .ok (.invokevirtual 186, 3) := by decide +kernel
theorem dX5_canServe_13 : decode cX5_canServe 13 = .ok (.ifCond .eq 29, 3) := by decide +kernel
theorem dX5_canServe_16 : decode cX5_canServe 16 = .ok (.aload_n 0, 1) := by decide +kernel
theorem dX5_canServe_17 : decode cX5_canServe 17 = .ok (.getfield 19, 3) := by decide +kernel
theorem dX5_canServe_20 : decode cX5_canServe 20 = .ok (.iload_n 1, 1) := by decide +kernel
theorem dX5_canServe_21 : decode cX5_canServe 21 = .ok (.aaload, 1) := by decide +kernel
theorem dX5_canServe_22 : decode cX5_canServe 22 = .ok (.getfield 189, 3) := by decide +kernel
theorem dX5_canServe_25 : decode cX5_canServe 25 = .ok (.aload_n 0, 1) := by decide +kernel
theorem dX5_canServe_26 : decode cX5_canServe 26 = .ok (.iload_n 1, 1) := by decide +kernel
theorem dX5_canServe_27 : decode cX5_canServe 27 = .ok (.invokevirtual 192, 3) := by decide +kernel
theorem dX5_canServe_30 : decode cX5_canServe 30 = .ok (.isub, 1) := by decide +kernel
theorem dX5_canServe_31 : decode cX5_canServe 31 = .ok (.aload_n 2, 1) := by decide +kernel
theorem dX5_canServe_32 : decode cX5_canServe 32 = .ok (.getfield 195, 3) := by decide +kernel
theorem dX5_canServe_35 : decode cX5_canServe 35 = .ok (.if_icmp .lt 7, 3) := by decide +kernel
theorem dX5_canServe_38 : decode cX5_canServe 38 = .ok (.iconst 1, 1) := by decide +kernel
theorem dX5_canServe_39 : decode cX5_canServe 39 = .ok (.goto 4, 3) := by decide +kernel
theorem dX5_canServe_42 : decode cX5_canServe 42 = .ok (.iconst 0, 1) := by decide +kernel
theorem dX5_canServe_43 : decode cX5_canServe 43 = .ok (.ireturn, 1) := by decide +kernel
theorem dX5_firstCrewFor_0 : decode cX5_firstCrewFor 0 = .ok (.aload_n 0, 1) := by decide +kernel
theorem dX5_firstCrewFor_1 : decode cX5_firstCrewFor 1 = .ok (.iload_n 1, 1) := by decide +kernel
theorem dX5_firstCrewFor_2 : decode cX5_firstCrewFor 2 = .ok (.invokevirtual 102, 3) := by decide +kernel
theorem dX5_firstCrewFor_5 : decode cX5_firstCrewFor 5 = .ok (.ifCond .eq 15, 3) := by decide +kernel
theorem dX5_firstCrewFor_8 : decode cX5_firstCrewFor 8 = .ok (.aload_n 0, 1) := by decide +kernel
theorem dX5_firstCrewFor_9 : decode cX5_firstCrewFor 9 = .ok (.getfield 25, 3) := by decide +kernel
theorem dX5_firstCrewFor_12 : decode cX5_firstCrewFor 12 = .ok (.iload_n 1, 1) := by decide +kernel
theorem dX5_firstCrewFor_13 : decode cX5_firstCrewFor 13 = .ok (.aaload, 1) := by decide +kernel
theorem dX5_firstCrewFor_14 : decode cX5_firstCrewFor 14 = .ok (.getfield 108, 3) := by decide +kernel
theorem dX5_firstCrewFor_17 : decode cX5_firstCrewFor 17 = .ok (.ifCond .eq 6, 3) := by decide +kernel
theorem dX5_firstCrewFor_20 : decode cX5_firstCrewFor 20 = .ok (.bipush (-5), 2) := by decide +kernel
theorem dX5_firstCrewFor_22 : decode cX5_firstCrewFor 22 = .ok (.ireturn, 1) := by decide +kernel
theorem dX5_firstCrewFor_23 : decode cX5_firstCrewFor 23 = .ok (.iconst 0, 1) := by decide +kernel
theorem dX5_firstCrewFor_24 : decode cX5_firstCrewFor 24 = .ok (.istore_n 2, 1) := by decide +kernel
theorem dX5_firstCrewFor_25 : decode cX5_firstCrewFor 25 = .ok (.iload_n 2, 1) := by decide +kernel
theorem dX5_firstCrewFor_26 : decode cX5_firstCrewFor 26 = .ok (.aload_n 0, 1) := by decide +kernel
theorem dX5_firstCrewFor_27 : decode cX5_firstCrewFor 27 = .ok (.getfield 37, 3) := by decide +kernel
theorem dX5_firstCrewFor_30 : decode cX5_firstCrewFor 30 = .ok (.if_icmp .ge 25, 3) := by decide +kernel
theorem dX5_firstCrewFor_33 : decode cX5_firstCrewFor 33 = .ok (.aload_n 0, 1) := by decide +kernel
theorem dX5_firstCrewFor_34 : decode cX5_firstCrewFor 34 = .ok (.iload_n 2, 1) := by decide +kernel
theorem dX5_firstCrewFor_35 : decode cX5_firstCrewFor 35 = .ok (.aload_n 0, 1) := by decide +kernel
theorem dX5_firstCrewFor_36 : decode cX5_firstCrewFor 36 = .ok (.getfield 25, 3) := by decide +kernel
theorem dX5_firstCrewFor_39 : decode cX5_firstCrewFor 39 = .ok (.iload_n 1, 1) := by decide +kernel
theorem dX5_firstCrewFor_40 : decode cX5_firstCrewFor 40 = .ok (.aaload, 1) := by decide +kernel
theorem dX5_firstCrewFor_41 : decode cX5_firstCrewFor 41 = .ok (.invokevirtual 117, 3) := by decide +kernel
theorem dX5_firstCrewFor_44 : decode cX5_firstCrewFor 44 = .ok (.ifCond .eq 5, 3) := by decide +kernel
theorem dX5_firstCrewFor_47 : decode cX5_firstCrewFor 47 = .ok (.iload_n 2, 1) := by decide +kernel
theorem dX5_firstCrewFor_48 : decode cX5_firstCrewFor 48 = .ok (.ireturn, 1) := by decide +kernel
theorem dX5_firstCrewFor_49 : decode cX5_firstCrewFor 49 = .ok (.iinc 2 1, 3) := by decide +kernel
theorem dX5_firstCrewFor_52 : decode cX5_firstCrewFor 52 = .ok (.goto (-27), 3) := by decide +kernel
theorem dX5_firstCrewFor_55 : decode cX5_firstCrewFor 55 = .ok (.bipush (-5), 2) := by decide +kernel
theorem dX5_firstCrewFor_57 : decode cX5_firstCrewFor 57 = .ok (.ireturn, 1) := by decide +kernel
theorem dX5_tagsHanging_0 : decode cX5_tagsHanging 0 = .ok (.aload_n 0, 1) := by decide +kernel
theorem dX5_tagsHanging_1 : decode cX5_tagsHanging 1 = .ok (.iload_n 1, 1) := by decide +kernel
theorem dX5_tagsHanging_2 : decode cX5_tagsHanging 2 = .ok (.iconst 1, 1) := by decide +kernel
theorem dX5_tagsHanging_3 : decode cX5_tagsHanging 3 = .ok (.iconst 3, 1) := by decide +kernel
theorem dX5_tagsHanging_4 : decode cX5_tagsHanging 4 = .ok (.invokevirtual 196, 3) := by decide +kernel
theorem dX5_tagsHanging_7 : decode cX5_tagsHanging 7 = .ok (.ireturn, 1) := by decide +kernel
theorem dX5_taskOfTag_0 : decode cX5_taskOfTag 0 = .ok (.aload_n 0, 1) := by decide +kernel
theorem dX5_taskOfTag_1 : decode cX5_taskOfTag 1 = .ok (.iload_n 1, 1) := by decide +kernel
theorem dX5_taskOfTag_2 : decode cX5_taskOfTag 2 = .ok (.invokevirtual 91, 3) := by decide +kernel
theorem dX5_taskOfTag_5 : decode cX5_taskOfTag 5 = .ok (.iconst 1, 1) := by decide +kernel
theorem dX5_taskOfTag_6 : decode cX5_taskOfTag 6 = .ok (.isub, 1) := by decide +kernel
theorem dX5_taskOfTag_7 : decode cX5_taskOfTag 7 = .ok (.iload_n 2, 1) := by decide +kernel
theorem dX5_taskOfTag_8 : decode cX5_taskOfTag 8 = .ok (.isub, 1) := by decide +kernel
theorem dX5_taskOfTag_9 : decode cX5_taskOfTag 9 = .ok (.istore_n 3, 1) := by decide +kernel
theorem dX5_taskOfTag_10 : decode cX5_taskOfTag 10 = .ok (.iconst 0, 1) := by decide +kernel
theorem dX5_taskOfTag_11 : decode cX5_taskOfTag 11 = .ok (.istore 4, 2) := by decide +kernel
theorem dX5_taskOfTag_13 : decode cX5_taskOfTag 13 = .ok (.iload 4, 2) := by decide +kernel
theorem dX5_taskOfTag_15 : decode cX5_taskOfTag 15 = .ok (.aload_n 0, 1) := by decide +kernel
theorem dX5_taskOfTag_16 : decode cX5_taskOfTag 16 = .ok (.getfield 40, 3) := by decide +kernel
theorem dX5_taskOfTag_19 : decode cX5_taskOfTag 19 = .ok (.if_icmp .ge 47, 3) := by decide +kernel
theorem dX5_taskOfTag_22 : decode cX5_taskOfTag 22 = .ok (.aload_n 0, 1) := by decide +kernel
theorem dX5_taskOfTag_23 : decode cX5_taskOfTag 23 = .ok (.getfield 25, 3) := by decide +kernel
theorem dX5_taskOfTag_26 : decode cX5_taskOfTag 26 = .ok (.iload 4, 2) := by decide +kernel
theorem dX5_taskOfTag_28 : decode cX5_taskOfTag 28 = .ok (.aaload, 1) := by decide +kernel
theorem dX5_taskOfTag_29 : decode cX5_taskOfTag 29 = .ok (.astore 5, 2) := by decide +kernel
theorem dX5_taskOfTag_31 : decode cX5_taskOfTag 31 = .ok (.aload 5, 2) := by decide +kernel
theorem dX5_taskOfTag_33 : decode cX5_taskOfTag 33 = .ok (.getfield 111, 3) := by decide +kernel
theorem dX5_taskOfTag_36 : decode cX5_taskOfTag 36 = .ok (.iload_n 1, 1) := by decide +kernel
theorem dX5_taskOfTag_37 : decode cX5_taskOfTag 37 = .ok (.if_icmp .ne 23, 3) := by decide +kernel
theorem dX5_taskOfTag_40 : decode cX5_taskOfTag 40 = .ok (.aload 5, 2) := by decide +kernel
theorem dX5_taskOfTag_42 : decode cX5_taskOfTag 42 = .ok (.invokevirtual 200, 3) := by decide +kernel
theorem dX5_taskOfTag_45 : decode cX5_taskOfTag 45 = .ok (.ifCond .eq 15, 3) := by decide +kernel
theorem dX5_taskOfTag_48 : decode cX5_taskOfTag 48 = .ok (.aload 5, 2) := by decide +kernel
theorem dX5_taskOfTag_50 : decode cX5_taskOfTag 50 = .ok (.getfield 121, 3) := by decide +kernel
theorem dX5_taskOfTag_53 : decode cX5_taskOfTag 53 = .ok (.iload_n 3, 1) := by decide +kernel
theorem dX5_taskOfTag_54 : decode cX5_taskOfTag 54 = .ok (.if_icmp .ne 6, 3) := by decide +kernel
theorem dX5_taskOfTag_57 : decode cX5_taskOfTag 57 = .ok (.iload 4, 2) := by decide +kernel
theorem dX5_taskOfTag_59 : decode cX5_taskOfTag 59 = .ok (.ireturn, 1) := by decide +kernel
theorem dX5_taskOfTag_60 : decode cX5_taskOfTag 60 = .ok (.iinc 4 1, 3) := by decide +kernel
theorem dX5_taskOfTag_63 : decode cX5_taskOfTag 63 = .ok (.goto (-50), 3) := by decide +kernel
theorem dX5_taskOfTag_66 : decode cX5_taskOfTag 66 = .ok (.bipush (-5), 2) := by decide +kernel
theorem dX5_taskOfTag_68 : decode cX5_taskOfTag 68 = .ok (.ireturn, 1) := by decide +kernel
theorem dX5_tasksOfAsset_0 : decode cX5_tasksOfAsset 0 = .ok (.iconst 0, 1) := by decide +kernel
theorem dX5_tasksOfAsset_1 : decode cX5_tasksOfAsset 1 = .ok (.istore 4, 2) := by decide +kernel
theorem dX5_tasksOfAsset_3 : decode cX5_tasksOfAsset 3 = .ok (.iconst 0, 1) := by decide +kernel
theorem dX5_tasksOfAsset_4 : decode cX5_tasksOfAsset 4 = .ok (.istore 5, 2) := by decide +kernel
theorem dX5_tasksOfAsset_6 : decode cX5_tasksOfAsset 6 = .ok (.iload 5, 2) := by decide +kernel
theorem dX5_tasksOfAsset_8 : decode cX5_tasksOfAsset 8 = .ok (.aload_n 0, 1) := by decide +kernel
theorem dX5_tasksOfAsset_9 : decode cX5_tasksOfAsset 9 = .ok (.getfield 40, 3) := by decide +kernel
theorem dX5_tasksOfAsset_12 : decode cX5_tasksOfAsset 12 = .ok (.if_icmp .ge 41, 3) := by decide +kernel
theorem dX5_tasksOfAsset_15 : decode cX5_tasksOfAsset 15 = .ok (.aload_n 0, 1) := by decide +kernel
theorem dX5_tasksOfAsset_16 : decode cX5_tasksOfAsset 16 = .ok (.getfield 25, 3) := by decide +kernel
theorem dX5_tasksOfAsset_19 : decode cX5_tasksOfAsset 19 = .ok (.iload 5, 2) := by decide +kernel
theorem dX5_tasksOfAsset_21 : decode cX5_tasksOfAsset 21 = .ok (.aaload, 1) := by decide +kernel
theorem dX5_tasksOfAsset_22 : decode cX5_tasksOfAsset 22 = .ok (.getfield 111, 3) := by decide +kernel
theorem dX5_tasksOfAsset_25 : decode cX5_tasksOfAsset 25 = .ok (.iload_n 1, 1) := by decide +kernel
theorem dX5_tasksOfAsset_26 : decode cX5_tasksOfAsset 26 = .ok (.if_icmp .ne 21, 3) := by decide +kernel
theorem dX5_tasksOfAsset_29 : decode cX5_tasksOfAsset 29 = .ok (.aload_n 0, 1) := by decide +kernel
theorem dX5_tasksOfAsset_30 : decode cX5_tasksOfAsset 30 = .ok (.getfield 25, 3) := by decide +kernel
theorem dX5_tasksOfAsset_33 : decode cX5_tasksOfAsset 33 = .ok (.iload 5, 2) := by decide +kernel
theorem dX5_tasksOfAsset_35 : decode cX5_tasksOfAsset 35 = .ok (.aaload, 1) := by decide +kernel
theorem dX5_tasksOfAsset_36 : decode cX5_tasksOfAsset 36 = .ok (.iload_n 2, 1) := by decide +kernel
theorem dX5_tasksOfAsset_37 : decode cX5_tasksOfAsset 37 = .ok (.iload_n 3, 1) := by decide +kernel
theorem dX5_tasksOfAsset_38 : decode cX5_tasksOfAsset 38 = .ok (.invokevirtual 162, 3) := by decide +kernel
theorem dX5_tasksOfAsset_41 : decode cX5_tasksOfAsset 41 = .ok (.ifCond .eq 6, 3) := by decide +kernel
theorem dX5_tasksOfAsset_44 : decode cX5_tasksOfAsset 44 = .ok (.iinc 4 1, 3) := by decide +kernel
theorem dX5_tasksOfAsset_47 : decode cX5_tasksOfAsset 47 = .ok (.iinc 5 1, 3) := by decide +kernel
theorem dX5_tasksOfAsset_50 : decode cX5_tasksOfAsset 50 = .ok (.goto (-44), 3) := by decide +kernel
theorem dX5_tasksOfAsset_53 : decode cX5_tasksOfAsset 53 = .ok (.iload 4, 2) := by decide +kernel
theorem dX5_tasksOfAsset_55 : decode cX5_tasksOfAsset 55 = .ok (.ireturn, 1) := by decide +kernel
theorem dX5_tasksOfCrew_0 : decode cX5_tasksOfCrew 0 = .ok (.iconst 0, 1) := by decide +kernel
theorem dX5_tasksOfCrew_1 : decode cX5_tasksOfCrew 1 = .ok (.istore 4, 2) := by decide +kernel
theorem dX5_tasksOfCrew_3 : decode cX5_tasksOfCrew 3 = .ok (.iconst 0, 1) := by decide +kernel
theorem dX5_tasksOfCrew_4 : decode cX5_tasksOfCrew 4 = .ok (.istore 5, 2) := by decide +kernel
theorem dX5_tasksOfCrew_6 : decode cX5_tasksOfCrew 6 = .ok (.iload 5, 2) := by decide +kernel
theorem dX5_tasksOfCrew_8 : decode cX5_tasksOfCrew 8 = .ok (.aload_n 0, 1) := by decide +kernel
theorem dX5_tasksOfCrew_9 : decode cX5_tasksOfCrew 9 = .ok (.getfield 40, 3) := by decide +kernel
theorem dX5_tasksOfCrew_12 : decode cX5_tasksOfCrew 12 = .ok (.if_icmp .ge 41, 3) := by decide +kernel
theorem dX5_tasksOfCrew_15 : decode cX5_tasksOfCrew 15 = .ok (.aload_n 0, 1) := by decide +kernel
theorem dX5_tasksOfCrew_16 : decode cX5_tasksOfCrew 16 = .ok (.getfield 25, 3) := by decide +kernel
theorem dX5_tasksOfCrew_19 : decode cX5_tasksOfCrew 19 = .ok (.iload 5, 2) := by decide +kernel
theorem dX5_tasksOfCrew_21 : decode cX5_tasksOfCrew 21 = .ok (.aaload, 1) := by decide +kernel
theorem dX5_tasksOfCrew_22 : decode cX5_tasksOfCrew 22 = .ok (.getfield 124, 3) := by decide +kernel
theorem dX5_tasksOfCrew_25 : decode cX5_tasksOfCrew 25 = .ok (.iload_n 1, 1) := by decide +kernel
theorem dX5_tasksOfCrew_26 : decode cX5_tasksOfCrew 26 = .ok (.if_icmp .ne 21, 3) := by decide +kernel
theorem dX5_tasksOfCrew_29 : decode cX5_tasksOfCrew 29 = .ok (.aload_n 0, 1) := by decide +kernel
theorem dX5_tasksOfCrew_30 : decode cX5_tasksOfCrew 30 = .ok (.getfield 25, 3) := by decide +kernel
theorem dX5_tasksOfCrew_33 : decode cX5_tasksOfCrew 33 = .ok (.iload 5, 2) := by decide +kernel
theorem dX5_tasksOfCrew_35 : decode cX5_tasksOfCrew 35 = .ok (.aaload, 1) := by decide +kernel
theorem dX5_tasksOfCrew_36 : decode cX5_tasksOfCrew 36 = .ok (.iload_n 2, 1) := by decide +kernel
theorem dX5_tasksOfCrew_37 : decode cX5_tasksOfCrew 37 = .ok (.iload_n 3, 1) := by decide +kernel
theorem dX5_tasksOfCrew_38 : decode cX5_tasksOfCrew 38 = .ok (.invokevirtual 162, 3) := by decide +kernel
theorem dX5_tasksOfCrew_41 : decode cX5_tasksOfCrew 41 = .ok (.ifCond .eq 6, 3) := by decide +kernel
theorem dX5_tasksOfCrew_44 : decode cX5_tasksOfCrew 44 = .ok (.iinc 4 1, 3) := by decide +kernel
theorem dX5_tasksOfCrew_47 : decode cX5_tasksOfCrew 47 = .ok (.iinc 5 1, 3) := by decide +kernel
theorem dX5_tasksOfCrew_50 : decode cX5_tasksOfCrew 50 = .ok (.goto (-44), 3) := by decide +kernel
theorem dX5_tasksOfCrew_53 : decode cX5_tasksOfCrew 53 = .ok (.iload 4, 2) := by decide +kernel
theorem dX5_tasksOfCrew_55 : decode cX5_tasksOfCrew 55 = .ok (.ireturn, 1) := by decide +kernel
theorem dX5_tasksIn_0 : decode cX5_tasksIn 0 = .ok (.iconst 0, 1) := by decide +kernel
theorem dX5_tasksIn_1 : decode cX5_tasksIn 1 = .ok (.istore_n 3, 1) := by decide +kernel
theorem dX5_tasksIn_2 : decode cX5_tasksIn 2 = .ok (.iconst 0, 1) := by decide +kernel
theorem dX5_tasksIn_3 : decode cX5_tasksIn 3 = .ok (.istore 4, 2) := by decide +kernel
theorem dX5_tasksIn_5 : decode cX5_tasksIn 5 = .ok (.iload 4, 2) := by decide +kernel
theorem dX5_tasksIn_7 : decode cX5_tasksIn 7 = .ok (.aload_n 0, 1) := by decide +kernel
theorem dX5_tasksIn_8 : decode cX5_tasksIn 8 = .ok (.getfield 40, 3) := by decide +kernel
theorem dX5_tasksIn_11 : decode cX5_tasksIn 11 = .ok (.if_icmp .ge 27, 3) := by decide +kernel
theorem dX5_tasksIn_14 : decode cX5_tasksIn 14 = .ok (.aload_n 0, 1) := by decide +kernel
theorem dX5_tasksIn_15 : decode cX5_tasksIn 15 = .ok (.getfield 25, 3) := by decide +kernel
theorem dX5_tasksIn_18 : decode cX5_tasksIn 18 = .ok (.iload 4, 2) := by decide +kernel
theorem dX5_tasksIn_20 : decode cX5_tasksIn 20 = .ok (.aaload, 1) := by decide +kernel
theorem dX5_tasksIn_21 : decode cX5_tasksIn 21 = .ok (.iload_n 1, 1) := by decide +kernel
theorem dX5_tasksIn_22 : decode cX5_tasksIn 22 = .ok (.iload_n 2, 1) := by decide +kernel
theorem dX5_tasksIn_23 : decode cX5_tasksIn 23 = .ok (.invokevirtual 162, 3) := by decide +kernel
theorem dX5_tasksIn_26 : decode cX5_tasksIn 26 = .ok (.ifCond .eq 6, 3) := by decide +kernel
theorem dX5_tasksIn_29 : decode cX5_tasksIn 29 = .ok (.iinc 3 1, 3) := by decide +kernel
theorem dX5_tasksIn_32 : decode cX5_tasksIn 32 = .ok (.iinc 4 1, 3) := by decide +kernel
theorem dX5_tasksIn_35 : decode cX5_tasksIn 35 = .ok (.goto (-30), 3) := by decide +kernel
theorem dX5_tasksIn_38 : decode cX5_tasksIn 38 = .ok (.iload_n 3, 1) := by decide +kernel
theorem dX5_tasksIn_39 : decode cX5_tasksIn 39 = .ok (.ireturn, 1) := by decide +kernel
theorem dX5_busyPeople_0 : decode cX5_busyPeople 0 = .ok (.iconst 0, 1) := by decide +kernel
theorem dX5_busyPeople_1 : decode cX5_busyPeople 1 = .ok (.istore_n 2, 1) := by decide +kernel
theorem dX5_busyPeople_2 : decode cX5_busyPeople 2 = .ok (.iconst 0, 1) := by decide +kernel
theorem dX5_busyPeople_3 : decode cX5_busyPeople 3 = .ok (.istore_n 3, 1) := by decide +kernel
theorem dX5_busyPeople_4 : decode cX5_busyPeople 4 = .ok (.iload_n 3, 1) := by decide +kernel
theorem dX5_busyPeople_5 : decode cX5_busyPeople 5 = .ok (.aload_n 0, 1) := by decide +kernel
theorem dX5_busyPeople_6 : decode cX5_busyPeople 6 = .ok (.getfield 40, 3) := by decide +kernel
theorem dX5_busyPeople_9 : decode cX5_busyPeople 9 = .ok (.if_icmp .ge 46, 3) := by decide +kernel
theorem dX5_busyPeople_12 : decode cX5_busyPeople 12 = .ok (.aload_n 0, 1) := by decide +kernel
theorem dX5_busyPeople_13 : decode cX5_busyPeople 13 = .ok (.getfield 25, 3) := by decide +kernel
theorem dX5_busyPeople_16 : decode cX5_busyPeople 16 = .ok (.iload_n 3, 1) := by decide +kernel
theorem dX5_busyPeople_17 : decode cX5_busyPeople 17 = .ok (.aaload, 1) := by decide +kernel
theorem dX5_busyPeople_18 : decode cX5_busyPeople 18 = .ok (.getfield 124, 3) := by decide +kernel
theorem dX5_busyPeople_21 : decode cX5_busyPeople 21 = .ok (.iload_n 1, 1) := by decide +kernel
theorem dX5_busyPeople_22 : decode cX5_busyPeople 22 = .ok (.if_icmp .ne 27, 3) := by decide +kernel
theorem dX5_busyPeople_25 : decode cX5_busyPeople 25 = .ok (.aload_n 0, 1) := by decide +kernel
theorem dX5_busyPeople_26 : decode cX5_busyPeople 26 = .ok (.getfield 25, 3) := by decide +kernel
theorem dX5_busyPeople_29 : decode cX5_busyPeople 29 = .ok (.iload_n 3, 1) := by decide +kernel
theorem dX5_busyPeople_30 : decode cX5_busyPeople 30 = .ok (.aaload, 1) := by decide +kernel
theorem dX5_busyPeople_31 : decode cX5_busyPeople 31 = .ok (.invokevirtual 200, 3) := by decide +kernel
theorem dX5_busyPeople_34 : decode cX5_busyPeople 34 = .ok (.ifCond .eq 15, 3) := by decide +kernel
theorem dX5_busyPeople_37 : decode cX5_busyPeople 37 = .ok (.iload_n 2, 1) := by decide +kernel
theorem dX5_busyPeople_38 : decode cX5_busyPeople 38 = .ok (.aload_n 0, 1) := by decide +kernel
theorem dX5_busyPeople_39 : decode cX5_busyPeople 39 = .ok (.getfield 25, 3) := by decide +kernel
theorem dX5_busyPeople_42 : decode cX5_busyPeople 42 = .ok (.iload_n 3, 1) := by decide +kernel
theorem dX5_busyPeople_43 : decode cX5_busyPeople 43 = .ok (.aaload, 1) := by decide +kernel
theorem dX5_busyPeople_44 : decode cX5_busyPeople 44 = .ok (.getfield 195, 3) := by decide +kernel
theorem dX5_busyPeople_47 : decode cX5_busyPeople 47 = .ok (.iadd, 1) := by decide +kernel
theorem dX5_busyPeople_48 : decode cX5_busyPeople 48 = .ok (.istore_n 2, 1) := by decide +kernel
theorem dX5_busyPeople_49 : decode cX5_busyPeople 49 = .ok (.iinc 3 1, 3) := by decide +kernel
theorem dX5_busyPeople_52 : decode cX5_busyPeople 52 = .ok (.goto (-48), 3) := by decide +kernel
theorem dX5_busyPeople_55 : decode cX5_busyPeople 55 = .ok (.iload_n 2, 1) := by decide +kernel
theorem dX5_busyPeople_56 : decode cX5_busyPeople 56 = .ok (.ireturn, 1) := by decide +kernel
theorem dX5_allBusyPeople_0 : decode cX5_allBusyPeople 0 = .ok (.iconst 0, 1) := by decide +kernel
theorem dX5_allBusyPeople_1 : decode cX5_allBusyPeople 1 = .ok (.istore_n 1, 1) := by decide +kernel
theorem dX5_allBusyPeople_2 : decode cX5_allBusyPeople 2 = .ok (.iconst 0, 1) := by decide +kernel
theorem dX5_allBusyPeople_3 : decode cX5_allBusyPeople 3 = .ok (.istore_n 2, 1) := by decide +kernel
theorem dX5_allBusyPeople_4 : decode cX5_allBusyPeople 4 = .ok (.iload_n 2, 1) := by decide +kernel
theorem dX5_allBusyPeople_5 : decode cX5_allBusyPeople 5 = .ok (.aload_n 0, 1) := by decide +kernel
theorem dX5_allBusyPeople_6 : decode cX5_allBusyPeople 6 = .ok (.getfield 40, 3) := by decide +kernel
theorem dX5_allBusyPeople_9 : decode cX5_allBusyPeople 9 = .ok (.if_icmp .ge 33, 3) := by decide +kernel
theorem dX5_allBusyPeople_12 : decode cX5_allBusyPeople 12 = .ok (.aload_n 0, 1) := by decide +kernel
theorem dX5_allBusyPeople_13 : decode cX5_allBusyPeople 13 = .ok (.getfield 25, 3) := by decide +kernel
theorem dX5_allBusyPeople_16 : decode cX5_allBusyPeople 16 = .ok (.iload_n 2, 1) := by decide +kernel
theorem dX5_allBusyPeople_17 : decode cX5_allBusyPeople 17 = .ok (.aaload, 1) := by decide +kernel
theorem dX5_allBusyPeople_18 : decode cX5_allBusyPeople 18 = .ok (.invokevirtual 200, 3) := by decide +kernel
theorem dX5_allBusyPeople_21 : decode cX5_allBusyPeople 21 = .ok (.ifCond .eq 15, 3) := by decide +kernel
theorem dX5_allBusyPeople_24 : decode cX5_allBusyPeople 24 = .ok (.iload_n 1, 1) := by decide +kernel
theorem dX5_allBusyPeople_25 : decode cX5_allBusyPeople 25 = .ok (.aload_n 0, 1) := by decide +kernel
theorem dX5_allBusyPeople_26 : decode cX5_allBusyPeople 26 = .ok (.getfield 25, 3) := by decide +kernel
theorem dX5_allBusyPeople_29 : decode cX5_allBusyPeople 29 = .ok (.iload_n 2, 1) := by decide +kernel
theorem dX5_allBusyPeople_30 : decode cX5_allBusyPeople 30 = .ok (.aaload, 1) := by decide +kernel
theorem dX5_allBusyPeople_31 : decode cX5_allBusyPeople 31 = .ok (.getfield 195, 3) := by decide +kernel
theorem dX5_allBusyPeople_34 : decode cX5_allBusyPeople 34 = .ok (.iadd, 1) := by decide +kernel
theorem dX5_allBusyPeople_35 : decode cX5_allBusyPeople 35 = .ok (.istore_n 1, 1) := by decide +kernel
theorem dX5_allBusyPeople_36 : decode cX5_allBusyPeople 36 = .ok (.iinc 2 1, 3) := by decide +kernel
theorem dX5_allBusyPeople_39 : decode cX5_allBusyPeople 39 = .ok (.goto (-35), 3) := by decide +kernel
theorem dX5_allBusyPeople_42 : decode cX5_allBusyPeople 42 = .ok (.iload_n 1, 1) := by decide +kernel
theorem dX5_allBusyPeople_43 : decode cX5_allBusyPeople 43 = .ok (.ireturn, 1) := by decide +kernel
theorem dX5_assetsRunning_0 : decode cX5_assetsRunning 0 = .ok (.iconst 0, 1) := by decide +kernel
theorem dX5_assetsRunning_1 : decode cX5_assetsRunning 1 = .ok (.istore_n 1, 1) := by decide +kernel
theorem dX5_assetsRunning_2 : decode cX5_assetsRunning 2 = .ok (.iconst 0, 1) := by decide +kernel
theorem dX5_assetsRunning_3 : decode cX5_assetsRunning 3 = .ok (.istore_n 2, 1) := by decide +kernel
theorem dX5_assetsRunning_4 : decode cX5_assetsRunning 4 = .ok (.iload_n 2, 1) := by decide +kernel
theorem dX5_assetsRunning_5 : decode cX5_assetsRunning 5 = .ok (.aload_n 0, 1) := by decide +kernel
theorem dX5_assetsRunning_6 : decode cX5_assetsRunning 6 = .ok (.getfield 33, 3) := by decide +kernel
theorem dX5_assetsRunning_9 : decode cX5_assetsRunning 9 = .ok (.if_icmp .ge 24, 3) := by decide +kernel
theorem dX5_assetsRunning_12 : decode cX5_assetsRunning 12 = .ok (.aload_n 0, 1) := by decide +kernel
theorem dX5_assetsRunning_13 : decode cX5_assetsRunning 13 = .ok (.getfield 11, 3) := by decide +kernel
theorem dX5_assetsRunning_16 : decode cX5_assetsRunning 16 = .ok (.iload_n 2, 1) := by decide +kernel
theorem dX5_assetsRunning_17 : decode cX5_assetsRunning 17 = .ok (.aaload, 1) := by decide +kernel
theorem dX5_assetsRunning_18 : decode cX5_assetsRunning 18 = .ok (.getfield 94, 3) := by decide +kernel
theorem dX5_assetsRunning_21 : decode cX5_assetsRunning 21 = .ok (.ifCond .eq 6, 3) := by decide +kernel
theorem dX5_assetsRunning_24 : decode cX5_assetsRunning 24 = .ok (.iinc 1 1, 3) := by decide +kernel
theorem dX5_assetsRunning_27 : decode cX5_assetsRunning 27 = .ok (.iinc 2 1, 3) := by decide +kernel
theorem dX5_assetsRunning_30 : decode cX5_assetsRunning 30 = .ok (.goto (-26), 3) := by decide +kernel
theorem dX5_assetsRunning_33 : decode cX5_assetsRunning 33 = .ok (.iload_n 1, 1) := by decide +kernel
theorem dX5_assetsRunning_34 : decode cX5_assetsRunning 34 = .ok (.ireturn, 1) := by decide +kernel
theorem dX5_slipsSoFar_0 : decode cX5_slipsSoFar 0 = .ok (.iconst 0, 1) := by decide +kernel
theorem dX5_slipsSoFar_1 : decode cX5_slipsSoFar 1 = .ok (.istore_n 1, 1) := by decide +kernel
theorem dX5_slipsSoFar_2 : decode cX5_slipsSoFar 2 = .ok (.iconst 0, 1) := by decide +kernel
theorem dX5_slipsSoFar_3 : decode cX5_slipsSoFar 3 = .ok (.istore_n 2, 1) := by decide +kernel
theorem dX5_slipsSoFar_4 : decode cX5_slipsSoFar 4 = .ok (.iload_n 2, 1) := by decide +kernel
theorem dX5_slipsSoFar_5 : decode cX5_slipsSoFar 5 = .ok (.aload_n 0, 1) := by decide +kernel
theorem dX5_slipsSoFar_6 : decode cX5_slipsSoFar 6 = .ok (.getfield 40, 3) := by decide +kernel
theorem dX5_slipsSoFar_9 : decode cX5_slipsSoFar 9 = .ok (.if_icmp .ge 21, 3) := by decide +kernel
theorem dX5_slipsSoFar_12 : decode cX5_slipsSoFar 12 = .ok (.iload_n 1, 1) := by decide +kernel
theorem dX5_slipsSoFar_13 : decode cX5_slipsSoFar 13 = .ok (.aload_n 0, 1) := by decide +kernel
theorem dX5_slipsSoFar_14 : decode cX5_slipsSoFar 14 = .ok (.getfield 25, 3) := by decide +kernel
theorem dX5_slipsSoFar_17 : decode cX5_slipsSoFar 17 = .ok (.iload_n 2, 1) := by decide +kernel
theorem dX5_slipsSoFar_18 : decode cX5_slipsSoFar 18 = .ok (.aaload, 1) := by decide +kernel
theorem dX5_slipsSoFar_19 : decode cX5_slipsSoFar 19 = .ok (.getfield 140, 3) := by decide +kernel
theorem dX5_slipsSoFar_22 : decode cX5_slipsSoFar 22 = .ok (.iadd, 1) := by decide +kernel
theorem dX5_slipsSoFar_23 : decode cX5_slipsSoFar 23 = .ok (.istore_n 1, 1) := by decide +kernel
theorem dX5_slipsSoFar_24 : decode cX5_slipsSoFar 24 = .ok (.iinc 2 1, 3) := by decide +kernel
theorem dX5_slipsSoFar_27 : decode cX5_slipsSoFar 27 = .ok (.goto (-23), 3) := by decide +kernel
theorem dX5_slipsSoFar_30 : decode cX5_slipsSoFar 30 = .ok (.iload_n 1, 1) := by decide +kernel
theorem dX5_slipsSoFar_31 : decode cX5_slipsSoFar 31 = .ok (.ireturn, 1) := by decide +kernel
theorem dX6_init_0 : decode cX6_init 0 = .ok (.aload_n 0, 1) := by decide +kernel
theorem dX6_init_1 : decode cX6_init 1 = .ok (.invokespecial 3, 3) := by decide +kernel
theorem dX6_init_4 : decode cX6_init 4 = .ok (.aload_n 0, 1) := by decide +kernel
theorem dX6_init_5 : decode cX6_init 5 = .ok (.iconst 0, 1) := by decide +kernel
theorem dX6_init_6 : decode cX6_init 6 = .ok (.putfield 9, 3) := by decide +kernel
theorem dX6_init_9 : decode cX6_init 9 = .ok (.aload_n 0, 1) := by decide +kernel
theorem dX6_init_10 : decode cX6_init 10 = .ok (.iconst 0, 1) := by decide +kernel
theorem dX6_init_11 : decode cX6_init 11 = .ok (.putfield 15, 3) := by decide +kernel
theorem dX6_init_14 : decode cX6_init 14 = .ok (.aload_n 0, 1) := by decide +kernel
theorem dX6_init_15 : decode cX6_init 15 = .ok (.iconst 0, 1) := by decide +kernel
theorem dX6_init_16 : decode cX6_init 16 = .ok (.putfield 18, 3) := by decide +kernel
theorem dX6_init_19 : decode cX6_init 19 = .ok (.aload_n 0, 1) := by decide +kernel
theorem dX6_init_20 : decode cX6_init 20 = .ok (.iconst 0, 1) := by decide +kernel
theorem dX6_init_21 : decode cX6_init 21 = .ok (.putfield 21, 3) := by decide +kernel
theorem dX6_init_24 : decode cX6_init 24 = .ok (.aload_n 0, 1) := by decide +kernel
theorem dX6_init_25 : decode cX6_init 25 = .ok (.iconst 0, 1) := by decide +kernel
theorem dX6_init_26 : decode cX6_init 26 = .ok (.putfield 24, 3) := by decide +kernel
theorem dX6_init_29 : decode cX6_init 29 = .ok (.aload_n 0, 1) := by decide +kernel
theorem dX6_init_30 : decode cX6_init 30 = .ok (.iconst 0, 1) := by decide +kernel
theorem dX6_init_31 : decode cX6_init 31 = .ok (.putfield 27, 3) := by decide +kernel
theorem dX6_init_34 : decode cX6_init 34 = .ok (.aload_n 0, 1) := by decide +kernel
theorem dX6_init_35 : decode cX6_init 35 = .ok (.iconst 0, 1) := by decide +kernel
theorem dX6_init_36 : decode cX6_init 36 = .ok (.putfield 30, 3) := by decide +kernel
theorem dX6_init_39 : decode cX6_init 39 = .ok (.aload_n 0, 1) := by decide +kernel
theorem dX6_init_40 : decode cX6_init 40 = .ok (.iconst 0, 1) := by decide +kernel
theorem dX6_init_41 : decode cX6_init 41 = .ok (.putfield 33, 3) := by decide +kernel
theorem dX6_init_44 : decode cX6_init 44 = .ok (.aload_n 0, 1) := by decide +kernel
theorem dX6_init_45 : decode cX6_init 45 = .ok (.bipush (-5), 2) := by decide +kernel
theorem dX6_init_47 : decode cX6_init 47 = .ok (.putfield 36, 3) := by decide +kernel
theorem dX6_init_50 : decode cX6_init 50 = .ok (.aload_n 0, 1) := by decide +kernel
theorem dX6_init_51 : decode cX6_init 51 = .ok (.iconst 0, 1) := by decide +kernel
theorem dX6_init_52 : decode cX6_init 52 = .ok (.putfield 39, 3) := by decide +kernel
theorem dX6_init_55 : decode cX6_init 55 = .ok (.aload_n 0, 1) := by decide +kernel
theorem dX6_init_56 : decode cX6_init 56 = .ok (.iconst 0, 1) := by decide +kernel
theorem dX6_init_57 : decode cX6_init 57 = .ok (.putfield 42, 3) := by decide +kernel
theorem dX6_init_60 : decode cX6_init 60 = .ok (.aload_n 0, 1) := by decide +kernel
theorem dX6_init_61 : decode cX6_init 61 = .ok (.iconst 0, 1) := by decide +kernel
theorem dX6_init_62 : decode cX6_init 62 = .ok (.putfield 45, 3) := by decide +kernel
theorem dX6_init_65 : decode cX6_init 65 = .ok (.return_, 1) := by decide +kernel
theorem dX6_setUp_0 : decode cX6_setUp 0 = .ok (.aload_n 0, 1) := by decide +kernel
theorem dX6_setUp_1 : decode cX6_setUp 1 = .ok (.iload_n 1, 1) := by decide +kernel
theorem dX6_setUp_2 : decode cX6_setUp 2 = .ok (.putfield 9, 3) := by decide +kernel
theorem dX6_setUp_5 : decode cX6_setUp 5 = .ok (.aload_n 0, 1) := by decide +kernel
theorem dX6_setUp_6 : decode cX6_setUp 6 = .ok (.iload_n 2, 1) := by decide +kernel
theorem dX6_setUp_7 : decode cX6_setUp 7 = .ok (.putfield 15, 3) := by decide +kernel
theorem dX6_setUp_10 : decode cX6_setUp 10 = .ok (.aload_n 0, 1) := by decide +kernel
theorem dX6_setUp_11 : decode cX6_setUp 11 = .ok (.iload_n 3, 1) := by decide +kernel
theorem dX6_setUp_12 : decode cX6_setUp 12 = .ok (.putfield 18, 3) := by decide +kernel
theorem dX6_setUp_15 : decode cX6_setUp 15 = .ok (.aload_n 0, 1) := by decide +kernel
theorem dX6_setUp_16 : decode cX6_setUp 16 = .ok (.iload 4, 2) := by decide +kernel
theorem dX6_setUp_18 : decode cX6_setUp 18 = .ok (.putfield 21, 3) := by decide +kernel
theorem dX6_setUp_21 : decode cX6_setUp 21 = .ok (.aload_n 0, 1) := by decide +kernel
theorem dX6_setUp_22 : decode cX6_setUp 22 = .ok (.iload 5, 2) := by decide +kernel
theorem dX6_setUp_24 : decode cX6_setUp 24 = .ok (.putfield 24, 3) := by decide +kernel
theorem dX6_setUp_27 : decode cX6_setUp 27 = .ok (.aload_n 0, 1) := by decide +kernel
theorem dX6_setUp_28 : decode cX6_setUp 28 = .ok (.iload 6, 2) := by decide +kernel
theorem dX6_setUp_30 : decode cX6_setUp 30 = .ok (.putfield 27, 3) := by decide +kernel
theorem dX6_setUp_33 : decode cX6_setUp 33 = .ok (.aload_n 0, 1) := by decide +kernel
theorem dX6_setUp_34 : decode cX6_setUp 34 = .ok (.iload 6, 2) := by decide +kernel
theorem dX6_setUp_36 : decode cX6_setUp 36 = .ok (.iconst 2, 1) := by decide +kernel
theorem dX6_setUp_37 : decode cX6_setUp 37 = .ok (.iload 5, 2) := by decide +kernel
theorem dX6_setUp_39 : decode cX6_setUp 39 = .ok (.imul, 1) := by decide +kernel
theorem dX6_setUp_40 : decode cX6_setUp 40 = .ok (.iadd, 1) := by decide +kernel
theorem dX6_setUp_41 : decode cX6_setUp 41 = .ok (.bipush 6, 2) := by decide +kernel
theorem dX6_setUp_43 : decode cX6_setUp 43 = .ok (.iadd, 1) := by decide +kernel
theorem dX6_setUp_44 : decode cX6_setUp 44 = .ok (.putfield 30, 3) := by decide +kernel
theorem dX6_setUp_47 : decode cX6_setUp 47 = .ok (.aload_n 0, 1) := by decide +kernel
theorem dX6_setUp_48 : decode cX6_setUp 48 = .ok (.iconst 0, 1) := by decide +kernel
theorem dX6_setUp_49 : decode cX6_setUp 49 = .ok (.putfield 33, 3) := by decide +kernel
theorem dX6_setUp_52 : decode cX6_setUp 52 = .ok (.aload_n 0, 1) := by decide +kernel
theorem dX6_setUp_53 : decode cX6_setUp 53 = .ok (.bipush (-5), 2) := by decide +kernel
theorem dX6_setUp_55 : decode cX6_setUp 55 = .ok (.putfield 36, 3) := by decide +kernel
theorem dX6_setUp_58 : decode cX6_setUp 58 = .ok (.aload_n 0, 1) := by decide +kernel
theorem dX6_setUp_59 : decode cX6_setUp 59 = .ok (.iconst 0, 1) := by decide +kernel
theorem dX6_setUp_60 : decode cX6_setUp 60 = .ok (.putfield 39, 3) := by decide +kernel
theorem dX6_setUp_63 : decode cX6_setUp 63 = .ok (.aload_n 0, 1) := by decide +kernel
theorem dX6_setUp_64 : decode cX6_setUp 64 = .ok (.iconst 0, 1) := by decide +kernel
theorem dX6_setUp_65 : decode cX6_setUp 65 = .ok (.putfield 42, 3) := by decide +kernel
theorem dX6_setUp_68 : decode cX6_setUp 68 = .ok (.aload_n 0, 1) := by decide +kernel
theorem dX6_setUp_69 : decode cX6_setUp 69 = .ok (.iconst 0, 1) := by decide +kernel
theorem dX6_setUp_70 : decode cX6_setUp 70 = .ok (.putfield 45, 3) := by decide +kernel
theorem dX6_setUp_73 : decode cX6_setUp 73 = .ok (.return_, 1) := by decide +kernel
theorem dX6_copyFrom_0 : decode cX6_copyFrom 0 = .ok (.aload_n 0, 1) := by decide +kernel
theorem dX6_copyFrom_1 : decode cX6_copyFrom 1 = .ok (.aload_n 1, 1) := by decide +kernel
theorem dX6_copyFrom_2 : decode cX6_copyFrom 2 = .ok (.getfield 9, 3) := by decide +kernel
theorem dX6_copyFrom_5 : decode cX6_copyFrom 5 = .ok (.putfield 9, 3) := by decide +kernel
theorem dX6_copyFrom_8 : decode cX6_copyFrom 8 = .ok (.aload_n 0, 1) := by decide +kernel
theorem dX6_copyFrom_9 : decode cX6_copyFrom 9 = .ok (.aload_n 1, 1) := by decide +kernel
theorem dX6_copyFrom_10 : decode cX6_copyFrom 10 = .ok (.getfield 15, 3) := by decide +kernel
theorem dX6_copyFrom_13 : decode cX6_copyFrom 13 = .ok (.putfield 15, 3) := by decide +kernel
theorem dX6_copyFrom_16 : decode cX6_copyFrom 16 = .ok (.aload_n 0, 1) := by decide +kernel
theorem dX6_copyFrom_17 : decode cX6_copyFrom 17 = .ok (.aload_n 1, 1) := by decide +kernel
theorem dX6_copyFrom_18 : decode cX6_copyFrom 18 = .ok (.getfield 18, 3) := by decide +kernel
theorem dX6_copyFrom_21 : decode cX6_copyFrom 21 = .ok (.putfield 18, 3) := by decide +kernel
theorem dX6_copyFrom_24 : decode cX6_copyFrom 24 = .ok (.aload_n 0, 1) := by decide +kernel
theorem dX6_copyFrom_25 : decode cX6_copyFrom 25 = .ok (.aload_n 1, 1) := by decide +kernel
theorem dX6_copyFrom_26 : decode cX6_copyFrom 26 = .ok (.getfield 21, 3) := by decide +kernel
theorem dX6_copyFrom_29 : decode cX6_copyFrom 29 = .ok (.putfield 21, 3) := by decide +kernel
theorem dX6_copyFrom_32 : decode cX6_copyFrom 32 = .ok (.aload_n 0, 1) := by decide +kernel
theorem dX6_copyFrom_33 : decode cX6_copyFrom 33 = .ok (.aload_n 1, 1) := by decide +kernel
theorem dX6_copyFrom_34 : decode cX6_copyFrom 34 = .ok (.getfield 24, 3) := by decide +kernel
theorem dX6_copyFrom_37 : decode cX6_copyFrom 37 = .ok (.putfield 24, 3) := by decide +kernel
theorem dX6_copyFrom_40 : decode cX6_copyFrom 40 = .ok (.aload_n 0, 1) := by decide +kernel
theorem dX6_copyFrom_41 : decode cX6_copyFrom 41 = .ok (.aload_n 1, 1) := by decide +kernel
theorem dX6_copyFrom_42 : decode cX6_copyFrom 42 = .ok (.getfield 27, 3) := by decide +kernel
theorem dX6_copyFrom_45 : decode cX6_copyFrom 45 = .ok (.putfield 27, 3) := by decide +kernel
theorem dX6_copyFrom_48 : decode cX6_copyFrom 48 = .ok (.aload_n 0, 1) := by decide +kernel
theorem dX6_copyFrom_49 : decode cX6_copyFrom 49 = .ok (.aload_n 1, 1) := by decide +kernel
theorem dX6_copyFrom_50 : decode cX6_copyFrom 50 = .ok (.getfield 30, 3) := by decide +kernel
theorem dX6_copyFrom_53 : decode cX6_copyFrom 53 = .ok (.putfield 30, 3) := by decide +kernel
theorem dX6_copyFrom_56 : decode cX6_copyFrom 56 = .ok (.aload_n 0, 1) := by decide +kernel
theorem dX6_copyFrom_57 : decode cX6_copyFrom 57 = .ok (.aload_n 1, 1) := by decide +kernel
theorem dX6_copyFrom_58 : decode cX6_copyFrom 58 = .ok (.getfield 33, 3) := by decide +kernel
theorem dX6_copyFrom_61 : decode cX6_copyFrom 61 = .ok (.putfield 33, 3) := by decide +kernel
theorem dX6_copyFrom_64 : decode cX6_copyFrom 64 = .ok (.aload_n 0, 1) := by decide +kernel
theorem dX6_copyFrom_65 : decode cX6_copyFrom 65 = .ok (.aload_n 1, 1) := by decide +kernel
theorem dX6_copyFrom_66 : decode cX6_copyFrom 66 = .ok (.getfield 36, 3) := by decide +kernel
theorem dX6_copyFrom_69 : decode cX6_copyFrom 69 = .ok (.putfield 36, 3) := by decide +kernel
theorem dX6_copyFrom_72 : decode cX6_copyFrom 72 = .ok (.aload_n 0, 1) := by decide +kernel
theorem dX6_copyFrom_73 : decode cX6_copyFrom 73 = .ok (.aload_n 1, 1) := by decide +kernel
theorem dX6_copyFrom_74 : decode cX6_copyFrom 74 = .ok (.getfield 39, 3) := by decide +kernel
theorem dX6_copyFrom_77 : decode cX6_copyFrom 77 = .ok (.putfield 39, 3) := by decide +kernel
theorem dX6_copyFrom_80 : decode cX6_copyFrom 80 = .ok (.aload_n 0, 1) := by decide +kernel
theorem dX6_copyFrom_81 : decode cX6_copyFrom 81 = .ok (.aload_n 1, 1) := by decide +kernel
theorem dX6_copyFrom_82 : decode cX6_copyFrom 82 = .ok (.getfield 42, 3) := by decide +kernel
theorem dX6_copyFrom_85 : decode cX6_copyFrom 85 = .ok (.putfield 42, 3) := by decide +kernel
theorem dX6_copyFrom_88 : decode cX6_copyFrom 88 = .ok (.aload_n 0, 1) := by decide +kernel
theorem dX6_copyFrom_89 : decode cX6_copyFrom 89 = .ok (.aload_n 1, 1) := by decide +kernel
theorem dX6_copyFrom_90 : decode cX6_copyFrom 90 = .ok (.getfield 45, 3) := by decide +kernel
theorem dX6_copyFrom_93 : decode cX6_copyFrom 93 = .ok (.putfield 45, 3) := by decide +kernel
theorem dX6_copyFrom_96 : decode cX6_copyFrom 96 = .ok (.return_, 1) := by decide +kernel
theorem dX6_isIn_0 : decode cX6_isIn 0 = .ok (.aload_n 0, 1) := by decide +kernel
theorem dX6_isIn_1 : decode cX6_isIn 1 = .ok (.getfield 33, 3) := by decide +kernel
theorem dX6_isIn_4 : decode cX6_isIn 4 = .ok (.iload_n 1, 1) := by decide +kernel
theorem dX6_isIn_5 : decode cX6_isIn 5 = .ok (.if_icmp .lt 15, 3) := by decide +kernel
theorem dX6_isIn_8 : decode cX6_isIn 8 = .ok (.aload_n 0, 1) := by decide +kernel
theorem dX6_isIn_9 : decode cX6_isIn 9 = .ok (.getfield 33, 3) := by decide +kernel
theorem dX6_isIn_12 : decode cX6_isIn 12 = .ok (.iload_n 2, 1) := by decide +kernel
theorem dX6_isIn_13 : decode cX6_isIn 13 = .ok (.if_icmp .gt 7, 3) := by decide +kernel
theorem dX6_isIn_16 : decode cX6_isIn 16 = .ok (.iconst 1, 1) := by decide +kernel
theorem dX6_isIn_17 : decode cX6_isIn 17 = .ok (.goto 4, 3) := by decide +kernel
theorem dX6_isIn_20 : decode cX6_isIn 20 = .ok (.iconst 0, 1) := by decide +kernel
theorem dX6_isIn_21 : decode cX6_isIn 21 = .ok (.ireturn, 1) := by decide +kernel
theorem dX6_tagHangs_0 : decode cX6_tagHangs 0 = .ok (.aload_n 0, 1) := by decide +kernel
theorem dX6_tagHangs_1 : decode cX6_tagHangs 1 = .ok (.iconst 1, 1) := by decide +kernel
theorem dX6_tagHangs_2 : decode cX6_tagHangs 2 = .ok (.iconst 3, 1) := by decide +kernel
theorem dX6_tagHangs_3 : decode cX6_tagHangs 3 = .ok (.invokevirtual 48, 3) := by decide +kernel
theorem dX6_tagHangs_6 : decode cX6_tagHangs 6 = .ok (.ireturn, 1) := by decide +kernel
theorem dX6_isTooLateAt_0 : decode cX6_isTooLateAt 0 = .ok (.iload_n 1, 1) := by decide +kernel
theorem dX6_isTooLateAt_1 : decode cX6_isTooLateAt 1 = .ok (.aload_n 0, 1) := by decide +kernel
theorem dX6_isTooLateAt_2 : decode cX6_isTooLateAt 2 = .ok (.getfield 24, 3) := by decide +kernel
theorem dX6_isTooLateAt_5 : decode cX6_isTooLateAt 5 = .ok (.iadd, 1) := by decide +kernel
theorem dX6_isTooLateAt_6 : decode cX6_isTooLateAt 6 = .ok (.aload_n 0, 1) := by decide +kernel
theorem dX6_isTooLateAt_7 : decode cX6_isTooLateAt 7 = .ok (.getfield 30, 3) := by decide +kernel
theorem dX6_isTooLateAt_10 : decode cX6_isTooLateAt 10 = .ok (.if_icmp .le 7, 3) := by decide +kernel
theorem dX6_isTooLateAt_13 : decode cX6_isTooLateAt 13 = .ok (.iconst 1, 1) := by decide +kernel
theorem dX6_isTooLateAt_14 : decode cX6_isTooLateAt 14 = .ok (.goto 4, 3) := by decide +kernel
theorem dX6_isTooLateAt_17 : decode cX6_isTooLateAt 17 = .ok (.iconst 0, 1) := by decide +kernel
theorem dX6_isTooLateAt_18 : decode cX6_isTooLateAt 18 = .ok (.ireturn, 1) := by decide +kernel
theorem dX6_slip_0 : decode cX6_slip 0 = .ok (.aload_n 0, 1) := by decide +kernel
theorem dX6_slip_1 : decode cX6_slip 1 = .ok (.getfield 33, 3) := by decide +kernel
theorem dX6_slip_4 : decode cX6_slip 4 = .ok (.ifCond .ne 17, 3) := by decide +kernel
theorem dX6_slip_7 : decode cX6_slip 7 = .ok (.aload_n 0, 1) := by decide +kernel
theorem dX6_slip_8 : decode cX6_slip 8 = .ok (.getfield 42, 3) := by decide +kernel
theorem dX6_slip_11 : decode cX6_slip 11 = .ok (.iconst 3, 1) := by decide +kernel
theorem dX6_slip_12 : decode cX6_slip 12 = .ok (.if_icmp .lt 9, 3) := by decide +kernel
theorem dX6_slip_15 : decode cX6_slip 15 = .ok (.aload_n 0, 1) := by decide +kernel
theorem dX6_slip_16 : decode cX6_slip 16 = .ok (.iconst 5, 1) := by decide +kernel
theorem dX6_slip_17 : decode cX6_slip 17 = .ok (.putfield 33, 3) := by decide +kernel
theorem dX6_slip_20 : decode cX6_slip 20 = .ok (.return_, 1) := by decide +kernel
theorem dX6_slip_21 : decode cX6_slip 21 = .ok (.aload_n 0, 1) := by decide +kernel
theorem dX6_slip_22 : decode cX6_slip 22 = .ok (.dup, 1) := by decide +kernel
theorem dX6_slip_23 : decode cX6_slip 23 = .ok (.getfield 27, 3) := by decide +kernel
theorem dX6_slip_26 : decode cX6_slip 26 = .ok (.bipush 24, 2) := by decide +kernel
theorem dX6_slip_28 : decode cX6_slip 28 = .ok (.iadd, 1) := by decide +kernel
theorem dX6_slip_29 : decode cX6_slip 29 = .ok (.putfield 27, 3) := by decide +kernel
theorem dX6_slip_32 : decode cX6_slip 32 = .ok (.aload_n 0, 1) := by decide +kernel
theorem dX6_slip_33 : decode cX6_slip 33 = .ok (.dup, 1) := by decide +kernel
theorem dX6_slip_34 : decode cX6_slip 34 = .ok (.getfield 30, 3) := by decide +kernel
theorem dX6_slip_37 : decode cX6_slip 37 = .ok (.bipush 24, 2) := by decide +kernel
theorem dX6_slip_39 : decode cX6_slip 39 = .ok (.iadd, 1) := by decide +kernel
theorem dX6_slip_40 : decode cX6_slip 40 = .ok (.putfield 30, 3) := by decide +kernel
theorem dX6_slip_43 : decode cX6_slip 43 = .ok (.aload_n 0, 1) := by decide +kernel
theorem dX6_slip_44 : decode cX6_slip 44 = .ok (.dup, 1) := by decide +kernel
theorem dX6_slip_45 : decode cX6_slip 45 = .ok (.getfield 42, 3) := by decide +kernel
theorem dX6_slip_48 : decode cX6_slip 48 = .ok (.iconst 1, 1) := by decide +kernel
theorem dX6_slip_49 : decode cX6_slip 49 = .ok (.iadd, 1) := by decide +kernel
theorem dX6_slip_50 : decode cX6_slip 50 = .ok (.putfield 42, 3) := by decide +kernel
theorem dX6_slip_53 : decode cX6_slip 53 = .ok (.return_, 1) := by decide +kernel
theorem dX7_init_0 : decode cX7_init 0 = .ok (.aload_n 0, 1) := by decide +kernel
theorem dX7_init_1 : decode cX7_init 1 = .ok (.invokespecial 1, 3) := by decide +kernel
theorem dX7_init_4 : decode cX7_init 4 = .ok (.aload_n 0, 1) := by decide +kernel
theorem dX7_init_5 : decode cX7_init 5 = .ok (.new 7, 3) := by decide +kernel
theorem dX7_init_8 : decode cX7_init 8 = .ok (.dup, 1) := by decide +kernel
theorem dX7_init_9 : decode cX7_init 9 = .ok (.invokespecial 9, 3) := by decide +kernel
theorem dX7_init_12 : decode cX7_init 12 = .ok (.putfield 10, 3) := by decide +kernel
theorem dX7_init_15 : decode cX7_init 15 = .ok (.aload_n 0, 1) := by decide +kernel
theorem dX7_init_16 : decode cX7_init 16 = .ok (.new 7, 3) := by decide +kernel
theorem dX7_init_19 : decode cX7_init 19 = .ok (.dup, 1) := by decide +kernel
theorem dX7_init_20 : decode cX7_init 20 = .ok (.invokespecial 9, 3) := by decide +kernel
theorem dX7_init_23 : decode cX7_init 23 = .ok (.putfield 16, 3) := by decide +kernel
theorem dX7_init_26 : decode cX7_init 26 = .ok (.aload_n 0, 1) := by decide +kernel
theorem dX7_init_27 : decode cX7_init 27 = .ok (.new 7, 3) := by decide +kernel
theorem dX7_init_30 : decode cX7_init 30 = .ok (.dup, 1) := by decide +kernel
theorem dX7_init_31 : decode cX7_init 31 = .ok (.invokespecial 9, 3) := by decide +kernel
theorem dX7_init_34 : decode cX7_init 34 = .ok (.putfield 19, 3) := by decide +kernel
theorem dX7_init_37 : decode cX7_init 37 = .ok (.aload_n 0, 1) := by decide +kernel
theorem dX7_init_38 : decode cX7_init 38 = .ok (.iconst 0, 1) := by decide +kernel
theorem dX7_init_39 : decode cX7_init 39 = .ok (.putfield 22, 3) := by decide +kernel
theorem dX7_init_42 : decode cX7_init 42 = .ok (.aload_n 0, 1) := by decide +kernel
theorem dX7_init_43 : decode cX7_init 43 = .ok (.new 26, 3) := by decide +kernel
theorem dX7_init_46 : decode cX7_init 46 = .ok (.dup, 1) := by decide +kernel
theorem dX7_init_47 : decode cX7_init 47 = .ok (.invokespecial 28, 3) := by decide +kernel
theorem dX7_init_50 : decode cX7_init 50 = .ok (.putfield 29, 3) := by decide +kernel
theorem dX7_init_53 : decode cX7_init 53 = .ok (.aload_n 0, 1) := by decide +kernel
theorem dX7_init_54 : decode cX7_init 54 = .ok (.new 33, 3) := by decide +kernel
theorem dX7_init_57 : decode cX7_init 57 = .ok (.dup, 1) := by decide +kernel
theorem dX7_init_58 : decode cX7_init 58 = .ok (.invokespecial 35, 3) := by decide +kernel
theorem dX7_init_61 : decode cX7_init 61 = .ok (.putfield 36, 3) := by decide +kernel
theorem dX7_init_64 : decode cX7_init 64 = .ok (.return_, 1) := by decide +kernel
theorem dX7_addAsset_0 : decode cX7_addAsset 0 = .ok (.aload_n 0, 1) := by decide +kernel
theorem dX7_addAsset_1 : decode cX7_addAsset 1 = .ok (.getfield 16, 3) := by decide +kernel
theorem dX7_addAsset_4 : decode cX7_addAsset 4 = .ok (.aload_n 0, 1) := by decide +kernel
theorem dX7_addAsset_5 : decode cX7_addAsset 5 = .ok (.getfield 10, 3) := by decide +kernel
theorem dX7_addAsset_8 : decode cX7_addAsset 8 = .ok (.invokevirtual 40, 3) := by decide +kernel
theorem dX7_addAsset_11 : decode cX7_addAsset 11 = .ok (.aload_n 0, 1) := by decide +kernel
theorem dX7_addAsset_12 : decode cX7_addAsset 12 = .ok (.aload_n 0, 1) := by decide +kernel
theorem dX7_addAsset_13 : decode cX7_addAsset 13 = .ok (.getfield 10, 3) := by decide +kernel
theorem dX7_addAsset_16 : decode cX7_addAsset 16 = .ok (.iload_n 1, 1) := by decide +kernel
theorem dX7_addAsset_17 : decode cX7_addAsset 17 = .ok (.iload_n 2, 1) := by decide +kernel
theorem dX7_addAsset_18 : decode cX7_addAsset 18 = .ok (.invokevirtual 44, 3) := by decide +kernel
theorem dX7_addAsset_21 : decode cX7_addAsset 21 = .ok (.invokevirtual 48, 3) := by decide +kernel
theorem dX7_addAsset_24 : decode cX7_addAsset 24 = .ok (.ireturn, 1) := by decide +kernel
theorem dX7_link_0 : decode cX7_link 0 = .ok (.aload_n 0, 1) := by decide +kernel
theorem dX7_link_1 : decode cX7_link 1 = .ok (.getfield 16, 3) := by decide +kernel
theorem dX7_link_4 : decode cX7_link 4 = .ok (.aload_n 0, 1) := by decide +kernel
theorem dX7_link_5 : decode cX7_link 5 = .ok (.getfield 10, 3) := by decide +kernel
theorem dX7_link_8 : decode cX7_link 8 = .ok (.invokevirtual 40, 3) := by decide +kernel
theorem dX7_link_11 : decode cX7_link 11 = .ok (.aload_n 0, 1) := by decide +kernel
theorem dX7_link_12 : decode cX7_link 12 = .ok (.aload_n 0, 1) := by decide +kernel
theorem dX7_link_13 : decode cX7_link 13 = .ok (.getfield 10, 3) := by decide +kernel
theorem dX7_link_16 : decode cX7_link 16 = .ok (.iload_n 1, 1) := by decide +kernel
theorem dX7_link_17 : decode cX7_link 17 = .ok (.iload_n 2, 1) := by decide +kernel
theorem dX7_link_18 : decode cX7_link 18 = .ok (.iload_n 3, 1) := by decide +kernel
theorem dX7_link_19 : decode cX7_link 19 = .ok (.invokevirtual 52, 3) := by decide +kernel
theorem dX7_link_22 : decode cX7_link 22 = .ok (.invokevirtual 48, 3) := by decide +kernel
theorem dX7_link_25 : decode cX7_link 25 = .ok (.ireturn, 1) := by decide +kernel
theorem dX7_bar_0 : decode cX7_bar 0 = .ok (.aload_n 0, 1) := by decide +kernel
theorem dX7_bar_1 : decode cX7_bar 1 = .ok (.getfield 16, 3) := by decide +kernel
theorem dX7_bar_4 : decode cX7_bar 4 = .ok (.aload_n 0, 1) := by decide +kernel
theorem dX7_bar_5 : decode cX7_bar 5 = .ok (.getfield 10, 3) := by decide +kernel
theorem dX7_bar_8 : decode cX7_bar 8 = .ok (.invokevirtual 40, 3) := by decide +kernel
theorem dX7_bar_11 : decode cX7_bar 11 = .ok (.aload_n 0, 1) := by decide +kernel
theorem dX7_bar_12 : decode cX7_bar 12 = .ok (.aload_n 0, 1) := by decide +kernel
theorem dX7_bar_13 : decode cX7_bar 13 = .ok (.getfield 10, 3) := by decide +kernel
theorem dX7_bar_16 : decode cX7_bar 16 = .ok (.iload_n 1, 1) := by decide +kernel
theorem dX7_bar_17 : decode cX7_bar 17 = .ok (.iload_n 2, 1) := by decide +kernel
theorem dX7_bar_18 : decode cX7_bar 18 = .ok (.iload_n 3, 1) := by decide +kernel
theorem dX7_bar_19 : decode cX7_bar 19 = .ok (.invokevirtual 56, 3) := by decide +kernel
theorem dX7_bar_22 : decode cX7_bar 22 = .ok (.invokevirtual 48, 3) := by decide +kernel
theorem dX7_bar_25 : decode cX7_bar 25 = .ok (.ireturn, 1) := by decide +kernel
theorem dX7_addCrew_0 : decode cX7_addCrew 0 = .ok (.aload_n 0, 1) := by decide +kernel
theorem dX7_addCrew_1 : decode cX7_addCrew 1 = .ok (.getfield 16, 3) := by decide +kernel
theorem dX7_addCrew_4 : decode cX7_addCrew 4 = .ok (.aload_n 0, 1) := by decide +kernel
theorem dX7_addCrew_5 : decode cX7_addCrew 5 = .ok (.getfield 10, 3) := by decide +kernel
theorem dX7_addCrew_8 : decode cX7_addCrew 8 = .ok (.invokevirtual 40, 3) := by decide +kernel
theorem dX7_addCrew_11 : decode cX7_addCrew 11 = .ok (.aload_n 0, 1) := by decide +kernel
theorem dX7_addCrew_12 : decode cX7_addCrew 12 = .ok (.aload_n 0, 1) := by decide +kernel
theorem dX7_addCrew_13 : decode cX7_addCrew 13 = .ok (.getfield 10, 3) := by decide +kernel
theorem dX7_addCrew_16 : decode cX7_addCrew 16 = .ok (.iload_n 1, 1) := by decide +kernel
theorem dX7_addCrew_17 : decode cX7_addCrew 17 = .ok (.iload_n 2, 1) := by decide +kernel
theorem dX7_addCrew_18 : decode cX7_addCrew 18 = .ok (.invokevirtual 59, 3) := by decide +kernel
theorem dX7_addCrew_21 : decode cX7_addCrew 21 = .ok (.invokevirtual 48, 3) := by decide +kernel
theorem dX7_addCrew_24 : decode cX7_addCrew 24 = .ok (.ireturn, 1) := by decide +kernel
theorem dX7_addTask_0 : decode cX7_addTask 0 = .ok (.aload_n 0, 1) := by decide +kernel
theorem dX7_addTask_1 : decode cX7_addTask 1 = .ok (.getfield 16, 3) := by decide +kernel
theorem dX7_addTask_4 : decode cX7_addTask 4 = .ok (.aload_n 0, 1) := by decide +kernel
theorem dX7_addTask_5 : decode cX7_addTask 5 = .ok (.getfield 10, 3) := by decide +kernel
theorem dX7_addTask_8 : decode cX7_addTask 8 = .ok (.invokevirtual 40, 3) := by decide +kernel
theorem dX7_addTask_11 : decode cX7_addTask 11 = .ok (.aload_n 0, 1) := by decide +kernel
theorem dX7_addTask_12 : decode cX7_addTask 12 = .ok (.aload_n 0, 1) := by decide +kernel
theorem dX7_addTask_13 : decode cX7_addTask 13 = .ok (.getfield 10, 3) := by decide +kernel
theorem dX7_addTask_16 : decode cX7_addTask 16 = .ok (.iload_n 1, 1) := by decide +kernel
theorem dX7_addTask_17 : decode cX7_addTask 17 = .ok (.iload_n 2, 1) := by decide +kernel
theorem dX7_addTask_18 : decode cX7_addTask 18 = .ok (.iload_n 3, 1) := by decide +kernel
theorem dX7_addTask_19 : decode cX7_addTask 19 = .ok (.iload 4, 2) := by decide +kernel
theorem dX7_addTask_21 : decode cX7_addTask 21 = .ok (.iload 5, 2) := by decide +kernel
theorem dX7_addTask_23 : decode cX7_addTask 23 = .ok (.iload 6, 2) := by decide +kernel
theorem dX7_addTask_25 : decode cX7_addTask 25 = .ok (.invokevirtual 62, 3) := by decide +kernel
theorem dX7_addTask_28 : decode cX7_addTask 28 = .ok (.invokevirtual 48, 3) := by decide +kernel
theorem dX7_addTask_31 : decode cX7_addTask 31 = .ok (.ireturn, 1) := by decide +kernel
theorem dX7_run_0 : decode cX7_run 0 = .ok (.aload_n 0, 1) := by decide +kernel
theorem dX7_run_1 : decode cX7_run 1 = .ok (.getfield 16, 3) := by decide +kernel
theorem dX7_run_4 : decode cX7_run 4 = .ok (.aload_n 0, 1) := by decide +kernel
theorem dX7_run_5 : decode cX7_run 5 = .ok (.getfield 10, 3) := by decide +kernel
theorem dX7_run_8 : decode cX7_run 8 = .ok (.invokevirtual 40, 3) := by decide +kernel
theorem dX7_run_11 : decode cX7_run 11 = .ok (.aload_n 0, 1) := by decide +kernel
theorem dX7_run_12 : decode cX7_run 12 = .ok (.aload_n 0, 1) := by decide +kernel
theorem dX7_run_13 : decode cX7_run 13 = .ok (.getfield 10, 3) := by decide +kernel
theorem dX7_run_16 : decode cX7_run 16 = .ok (.iload_n 1, 1) := by decide +kernel
theorem dX7_run_17 : decode cX7_run 17 = .ok (.invokevirtual 66, 3) := by decide +kernel
theorem dX7_run_20 : decode cX7_run 20 = .ok (.invokevirtual 48, 3) := by decide +kernel
theorem dX7_run_23 : decode cX7_run 23 = .ok (.ireturn, 1) := by decide +kernel
theorem dX7_stop_0 : decode cX7_stop 0 = .ok (.aload_n 0, 1) := by decide +kernel
theorem dX7_stop_1 : decode cX7_stop 1 = .ok (.getfield 16, 3) := by decide +kernel
theorem dX7_stop_4 : decode cX7_stop 4 = .ok (.aload_n 0, 1) := by decide +kernel
theorem dX7_stop_5 : decode cX7_stop 5 = .ok (.getfield 10, 3) := by decide +kernel
theorem dX7_stop_8 : decode cX7_stop 8 = .ok (.invokevirtual 40, 3) := by decide +kernel
theorem dX7_stop_11 : decode cX7_stop 11 = .ok (.aload_n 0, 1) := by decide +kernel
theorem dX7_stop_12 : decode cX7_stop 12 = .ok (.aload_n 0, 1) := by decide +kernel
theorem dX7_stop_13 : decode cX7_stop 13 = .ok (.getfield 10, 3) := by decide +kernel
theorem dX7_stop_16 : decode cX7_stop 16 = .ok (.iload_n 1, 1) := by decide +kernel
theorem dX7_stop_17 : decode cX7_stop 17 = .ok (.invokevirtual 69, 3) := by decide +kernel
theorem dX7_stop_20 : decode cX7_stop 20 = .ok (.invokevirtual 48, 3) := by decide +kernel
theorem dX7_stop_23 : decode cX7_stop 23 = .ok (.ireturn, 1) := by decide +kernel
theorem dX7_hang_0 : decode cX7_hang 0 = .ok (.aload_n 0, 1) := by decide +kernel
theorem dX7_hang_1 : decode cX7_hang 1 = .ok (.getfield 16, 3) := by decide +kernel
theorem dX7_hang_4 : decode cX7_hang 4 = .ok (.aload_n 0, 1) := by decide +kernel
theorem dX7_hang_5 : decode cX7_hang 5 = .ok (.getfield 10, 3) := by decide +kernel
theorem dX7_hang_8 : decode cX7_hang 8 = .ok (.invokevirtual 40, 3) := by decide +kernel
theorem dX7_hang_11 : decode cX7_hang 11 = .ok (.aload_n 0, 1) := by decide +kernel
theorem dX7_hang_12 : decode cX7_hang 12 = .ok (.aload_n 0, 1) := by decide +kernel
theorem dX7_hang_13 : decode cX7_hang 13 = .ok (.getfield 10, 3) := by decide +kernel
theorem dX7_hang_16 : decode cX7_hang 16 = .ok (.iload_n 1, 1) := by decide +kernel
theorem dX7_hang_17 : decode cX7_hang 17 = .ok (.iload_n 2, 1) := by decide +kernel
theorem dX7_hang_18 : decode cX7_hang 18 = .ok (.invokevirtual 72, 3) := by decide +kernel
theorem dX7_hang_21 : decode cX7_hang 21 = .ok (.invokevirtual 48, 3) := by decide +kernel
theorem dX7_hang_24 : decode cX7_hang 24 = .ok (.ireturn, 1) := by decide +kernel
theorem dX7_begin_0 : decode cX7_begin 0 = .ok (.aload_n 0, 1) := by decide +kernel
theorem dX7_begin_1 : decode cX7_begin 1 = .ok (.getfield 16, 3) := by decide +kernel
theorem dX7_begin_4 : decode cX7_begin 4 = .ok (.aload_n 0, 1) := by decide +kernel
theorem dX7_begin_5 : decode cX7_begin 5 = .ok (.getfield 10, 3) := by decide +kernel
theorem dX7_begin_8 : decode cX7_begin 8 = .ok (.invokevirtual 40, 3) := by decide +kernel
theorem dX7_begin_11 : decode cX7_begin 11 = .ok (.aload_n 0, 1) := by decide +kernel
theorem dX7_begin_12 : decode cX7_begin 12 = .ok (.aload_n 0, 1) := by decide +kernel
theorem dX7_begin_13 : decode cX7_begin 13 = .ok (.getfield 10, 3) := by decide +kernel
theorem dX7_begin_16 : decode cX7_begin 16 = .ok (.iload_n 1, 1) := by decide +kernel
theorem dX7_begin_17 : decode cX7_begin 17 = .ok (.invokevirtual 75, 3) := by decide +kernel
theorem dX7_begin_20 : decode cX7_begin 20 = .ok (.invokevirtual 48, 3) := by decide +kernel
theorem dX7_begin_23 : decode cX7_begin 23 = .ok (.ireturn, 1) := by decide +kernel
theorem dX7_lift_0 : decode cX7_lift 0 = .ok (.aload_n 0, 1) := by decide +kernel
theorem dX7_lift_1 : decode cX7_lift 1 = .ok (.getfield 16, 3) := by decide +kernel
theorem dX7_lift_4 : decode cX7_lift 4 = .ok (.aload_n 0, 1) := by decide +kernel
theorem dX7_lift_5 : decode cX7_lift 5 = .ok (.getfield 10, 3) := by decide +kernel
theorem dX7_lift_8 : decode cX7_lift 8 = .ok (.invokevirtual 40, 3) := by decide +kernel
theorem dX7_lift_11 : decode cX7_lift 11 = .ok (.aload_n 0, 1) := by decide +kernel
theorem dX7_lift_12 : decode cX7_lift 12 = .ok (.aload_n 0, 1) := by decide +kernel
theorem dX7_lift_13 : decode cX7_lift 13 = .ok (.getfield 10, 3) := by decide +kernel
theorem dX7_lift_16 : decode cX7_lift 16 = .ok (.iload_n 1, 1) := by decide +kernel
theorem dX7_lift_17 : decode cX7_lift 17 = .ok (.iload_n 2, 1) := by decide +kernel
theorem dX7_lift_18 : decode cX7_lift 18 = .ok (.invokevirtual 78, 3) := by decide +kernel
theorem dX7_lift_21 : decode cX7_lift 21 = .ok (.invokevirtual 48, 3) := by decide +kernel
theorem dX7_lift_24 : decode cX7_lift 24 = .ok (.ireturn, 1) := by decide +kernel
theorem dX7_cancel_0 : decode cX7_cancel 0 = .ok (.aload_n 0, 1) := by decide +kernel
theorem dX7_cancel_1 : decode cX7_cancel 1 = .ok (.getfield 16, 3) := by decide +kernel
theorem dX7_cancel_4 : decode cX7_cancel 4 = .ok (.aload_n 0, 1) := by decide +kernel
theorem dX7_cancel_5 : decode cX7_cancel 5 = .ok (.getfield 10, 3) := by decide +kernel
theorem dX7_cancel_8 : decode cX7_cancel 8 = .ok (.invokevirtual 40, 3) := by decide +kernel
theorem dX7_cancel_11 : decode cX7_cancel 11 = .ok (.aload_n 0, 1) := by decide +kernel
theorem dX7_cancel_12 : decode cX7_cancel 12 = .ok (.aload_n 0, 1) := by decide +kernel
theorem dX7_cancel_13 : decode cX7_cancel 13 = .ok (.getfield 10, 3) := by decide +kernel
theorem dX7_cancel_16 : decode cX7_cancel 16 = .ok (.iload_n 1, 1) := by decide +kernel
theorem dX7_cancel_17 : decode cX7_cancel 17 = .ok (.invokevirtual 81, 3) := by decide +kernel
theorem dX7_cancel_20 : decode cX7_cancel 20 = .ok (.invokevirtual 48, 3) := by decide +kernel
theorem dX7_cancel_23 : decode cX7_cancel 23 = .ok (.ireturn, 1) := by decide +kernel
theorem dX7_pass_0 : decode cX7_pass 0 = .ok (.aload_n 0, 1) := by decide +kernel
theorem dX7_pass_1 : decode cX7_pass 1 = .ok (.getfield 16, 3) := by decide +kernel
theorem dX7_pass_4 : decode cX7_pass 4 = .ok (.aload_n 0, 1) := by decide +kernel
theorem dX7_pass_5 : decode cX7_pass 5 = .ok (.getfield 10, 3) := by decide +kernel
theorem dX7_pass_8 : decode cX7_pass 8 = .ok (.invokevirtual 40, 3) := by decide +kernel
theorem dX7_pass_11 : decode cX7_pass 11 = .ok (.aload_n 0, 1) := by decide +kernel
theorem dX7_pass_12 : decode cX7_pass 12 = .ok (.aload_n 0, 1) := by decide +kernel
theorem dX7_pass_13 : decode cX7_pass 13 = .ok (.getfield 10, 3) := by decide +kernel
theorem dX7_pass_16 : decode cX7_pass 16 = .ok (.iload_n 1, 1) := by decide +kernel
theorem dX7_pass_17 : decode cX7_pass 17 = .ok (.invokevirtual 84, 3) := by decide +kernel
theorem dX7_pass_20 : decode cX7_pass 20 = .ok (.invokevirtual 48, 3) := by decide +kernel
theorem dX7_pass_23 : decode cX7_pass 23 = .ok (.ireturn, 1) := by decide +kernel
theorem dX7_type_0 : decode cX7_type 0 = .ok (.aload_n 0, 1) := by decide +kernel
theorem dX7_type_1 : decode cX7_type 1 = .ok (.getfield 36, 3) := by decide +kernel
theorem dX7_type_4 : decode cX7_type 4 = .ok (.iload_n 1, 1) := by decide +kernel
theorem dX7_type_5 : decode cX7_type 5 = .ok (.invokevirtual 87, 3) := by decide +kernel
theorem dX7_type_8 : decode cX7_type 8 = .ok (.ireturn, 1) := by decide +kernel
theorem dX7_clearText_0 : decode cX7_clearText 0 = .ok (.aload_n 0, 1) := by decide +kernel
theorem dX7_clearText_1 : decode cX7_clearText 1 = .ok (.getfield 36, 3) := by decide +kernel
theorem dX7_clearText_4 : decode cX7_clearText 4 = .ok (.invokevirtual 91, 3) := by decide +kernel
theorem dX7_clearText_7 : decode cX7_clearText 7 = .ok (.ireturn, 1) := by decide +kernel
theorem dX7_perform_0 : decode cX7_perform 0 = .ok (.aload_n 0, 1) := by decide +kernel
theorem dX7_perform_1 : decode cX7_perform 1 = .ok (.getfield 36, 3) := by decide +kernel
theorem dX7_perform_4 : decode cX7_perform 4 = .ok (.invokevirtual 95, 3) := by decide +kernel
theorem dX7_perform_7 : decode cX7_perform 7 = .ok (.istore_n 1, 1) := by decide +kernel
theorem dX7_perform_8 : decode cX7_perform 8 = .ok (.iload_n 1, 1) := by decide +kernel
theorem dX7_perform_9 : decode cX7_perform 9 = .ok (.iconst (-1), 1) := by decide +kernel
theorem dX7_perform_10 : decode cX7_perform 10 = .ok (.if_icmp .eq 8, 3) := by decide +kernel
theorem dX7_perform_13 : decode cX7_perform 13 = .ok (.bipush (-100), 2) := by decide +kernel
theorem dX7_perform_15 : decode cX7_perform 15 = .ok (.iload_n 1, 1) := by decide +kernel
theorem dX7_perform_16 : decode cX7_perform 16 = .ok (.isub, 1) := by decide +kernel
theorem dX7_perform_17 : decode cX7_perform 17 = .ok (.ireturn, 1) := by decide +kernel
theorem dX7_perform_18 : decode cX7_perform 18 = .ok (.aload_n 0, 1) := by decide +kernel
theorem dX7_perform_19 : decode cX7_perform 19 = .ok (.getfield 16, 3) := by decide +kernel
theorem dX7_perform_22 : decode cX7_perform 22 = .ok (.aload_n 0, 1) := by decide +kernel
theorem dX7_perform_23 : decode cX7_perform 23 = .ok (.getfield 10, 3) := by decide +kernel
theorem dX7_perform_26 : decode cX7_perform 26 = .ok (.invokevirtual 40, 3) := by decide +kernel
theorem dX7_perform_29 : decode cX7_perform 29 = .ok (.iconst 0, 1) := by decide +kernel
theorem dX7_perform_30 : decode cX7_perform 30 = .ok (.istore_n 2, 1) := by decide +kernel
theorem dX7_perform_31 : decode cX7_perform 31 = .ok (.iload_n 2, 1) := by decide +kernel
theorem dX7_perform_32 : decode cX7_perform 32 = .ok (.aload_n 0, 1) := by decide +kernel
theorem dX7_perform_33 : decode cX7_perform 33 = .ok (.getfield 36, 3) := by decide +kernel
theorem dX7_perform_36 : decode cX7_perform 36 = .ok (.getfield 98, 3) := by decide +kernel
theorem dX7_perform_39 : decode cX7_perform 39 = .ok (.if_icmp .ge 58, 3) := by decide +kernel
theorem dX7_perform_42 : decode cX7_perform 42 = .ok (.iload_n 2, 1) := by decide +kernel
theorem dX7_perform_43 : decode cX7_perform 43 = .ok (.aload_n 0, 1) := by decide +kernel
theorem dX7_perform_44 : decode cX7_perform 44 = .ok (.getfield 36, 3) := by decide +kernel
theorem dX7_perform_47 : decode cX7_perform 47 = .ok (.getfield 102, 3) := by decide +kernel
theorem dX7_perform_50 : decode cX7_perform 50 = .ok (.arraylength, 1) := by decide +kernel
theorem dX7_perform_51 : decode cX7_perform 51 = .ok (.if_icmp .ge 46, 3) := by decide +kernel
theorem dX7_perform_54 : decode cX7_perform 54 = .ok (.aload_n 0, 1) := by decide +kernel
theorem dX7_perform_55 : decode cX7_perform 55 = .ok (.aload_n 0, 1) := by decide +kernel
theorem dX7_perform_56 : decode cX7_perform 56 = .ok (.getfield 36, 3) := by decide +kernel
theorem dX7_perform_59 : decode cX7_perform 59 = .ok (.getfield 102, 3) := by decide +kernel
theorem dX7_perform_62 : decode cX7_perform 62 = .ok (.iload_n 2, 1) := by decide +kernel
theorem dX7_perform_63 : decode cX7_perform 63 = .ok (.aaload, 1) := by decide +kernel
theorem dX7_perform_64 : decode cX7_perform 64 = .ok (.invokevirtual 106, 3) := by decide +kernel
theorem dX7_perform_67 : decode cX7_perform 67 = .ok (.istore_n 3, 1) := by decide +kernel
theorem dX7_perform_68 : decode cX7_perform 68 = .ok (.iload_n 3, 1) := by decide +kernel
theorem dX7_perform_69 : decode cX7_perform 69 = .ok (.ifCond .ge 22, 3) := by decide +kernel
theorem dX7_perform_72 : decode cX7_perform 72 = .ok (.iload_n 3, 1) := by decide +kernel
theorem dX7_perform_73 : decode cX7_perform 73 = .ok (.bipush (-5), 2) := by decide +kernel
theorem dX7_perform_75 : decode cX7_perform 75 = .ok (.if_icmp .eq 16, 3) := by decide +kernel
theorem dX7_perform_78 : decode cX7_perform 78 = .ok (.aload_n 0, 1) := by decide +kernel
theorem dX7_perform_79 : decode cX7_perform 79 = .ok (.getfield 10, 3) := by decide +kernel
theorem dX7_perform_82 : decode cX7_perform 82 = .ok (.aload_n 0, 1) := by decide +kernel
theorem dX7_perform_83 : decode cX7_perform 83 = .ok (.getfield 16, 3) := by decide +kernel
theorem dX7_perform_86 : decode cX7_perform 86 = .ok (.invokevirtual 40, 3) := by decide +kernel
theorem dX7_perform_89 : decode cX7_perform 89 = .ok (.iload_n 3, 1) := by decide +kernel
theorem dX7_perform_90 : decode cX7_perform 90 = .ok (.ireturn, 1) := by decide +kernel
theorem dX7_perform_91 : decode cX7_perform 91 = .ok (.iinc 2 1, 3) := by decide +kernel
theorem dX7_perform_94 : decode cX7_perform 94 = .ok (.goto (-63), 3) := by decide +kernel
theorem dX7_perform_97 : decode cX7_perform 97 = .ok (.aload_n 0, 1) := by decide +kernel
theorem dX7_perform_98 : decode cX7_perform 98 = .ok (.aload_n 0, 1) := by decide +kernel
theorem dX7_perform_99 : decode cX7_perform 99 = .ok (.getfield 36, 3) := by decide +kernel
theorem dX7_perform_102 : decode cX7_perform 102 = .ok (.getfield 98, 3) := by decide +kernel
theorem dX7_perform_105 : decode cX7_perform 105 = .ok (.invokevirtual 48, 3) := by decide +kernel
theorem dX7_perform_108 : decode cX7_perform 108 = .ok (.ireturn, 1) := by decide +kernel
theorem dX7_undo_0 : decode cX7_undo 0 = .ok (.aload_n 0, 1) := by decide +kernel
theorem dX7_undo_1 : decode cX7_undo 1 = .ok (.getfield 29, 3) := by decide +kernel
theorem dX7_undo_4 : decode cX7_undo 4 = .ok (.aload_n 0, 1) := by decide +kernel
theorem dX7_undo_5 : decode cX7_undo 5 = .ok (.getfield 10, 3) := by decide +kernel
theorem dX7_undo_8 : decode cX7_undo 8 = .ok (.invokevirtual 110, 3) := by decide +kernel
theorem dX7_undo_11 : decode cX7_undo 11 = .ok (.ireturn, 1) := by decide +kernel
theorem dX7_keep_0 : decode cX7_keep 0 = .ok (.aload_n 0, 1) := by decide +kernel
theorem dX7_keep_1 : decode cX7_keep 1 = .ok (.getfield 19, 3) := by decide +kernel
theorem dX7_keep_4 : decode cX7_keep 4 = .ok (.aload_n 0, 1) := by decide +kernel
theorem dX7_keep_5 : decode cX7_keep 5 = .ok (.getfield 10, 3) := by decide +kernel
theorem dX7_keep_8 : decode cX7_keep 8 = .ok (.invokevirtual 40, 3) := by decide +kernel
theorem dX7_keep_11 : decode cX7_keep 11 = .ok (.aload_n 0, 1) := by decide +kernel
theorem dX7_keep_12 : decode cX7_keep 12 = .ok (.iconst 1, 1) := by decide +kernel
theorem dX7_keep_13 : decode cX7_keep 13 = .ok (.putfield 22, 3) := by decide +kernel
theorem dX7_keep_16 : decode cX7_keep 16 = .ok (.aload_n 0, 1) := by decide +kernel
theorem dX7_keep_17 : decode cX7_keep 17 = .ok (.getfield 10, 3) := by decide +kernel
theorem dX7_keep_20 : decode cX7_keep 20 = .ok (.getfield 114, 3) := by decide +kernel
theorem dX7_keep_23 : decode cX7_keep 23 = .ok (.ireturn, 1) := by decide +kernel
theorem dX7_restore_0 : decode cX7_restore 0 = .ok (.aload_n 0, 1) := by decide +kernel
theorem dX7_restore_1 : decode cX7_restore 1 = .ok (.getfield 22, 3) := by decide +kernel
theorem dX7_restore_4 : decode cX7_restore 4 = .ok (.ifCond .ne 6, 3) := by decide +kernel
theorem dX7_restore_7 : decode cX7_restore 7 = .ok (.bipush (-5), 2) := by decide +kernel
theorem dX7_restore_9 : decode cX7_restore 9 = .ok (.ireturn, 1) := by decide +kernel
theorem dX7_restore_10 : decode cX7_restore 10 = .ok (.aload_n 0, 1) := by decide +kernel
theorem dX7_restore_11 : decode cX7_restore 11 = .ok (.getfield 16, 3) := by decide +kernel
theorem dX7_restore_14 : decode cX7_restore 14 = .ok (.aload_n 0, 1) := by decide +kernel
theorem dX7_restore_15 : decode cX7_restore 15 = .ok (.getfield 10, 3) := by decide +kernel
theorem dX7_restore_18 : decode cX7_restore 18 = .ok (.invokevirtual 40, 3) := by decide +kernel
theorem dX7_restore_21 : decode cX7_restore 21 = .ok (.aload_n 0, 1) := by decide +kernel
theorem dX7_restore_22 : decode cX7_restore 22 = .ok (.getfield 10, 3) := by decide +kernel
theorem dX7_restore_25 : decode cX7_restore 25 = .ok (.aload_n 0, 1) := by decide +kernel
theorem dX7_restore_26 : decode cX7_restore 26 = .ok (.getfield 19, 3) := by decide +kernel
theorem dX7_restore_29 : decode cX7_restore 29 = .ok (.invokevirtual 40, 3) := by decide +kernel
theorem dX7_restore_32 : decode cX7_restore 32 = .ok (.aload_n 0, 1) := by decide +kernel
theorem dX7_restore_33 : decode cX7_restore 33 = .ok (.aload_n 0, 1) := by decide +kernel
theorem dX7_restore_34 : decode cX7_restore 34 = .ok (.getfield 10, 3) := by decide +kernel
theorem dX7_restore_37 : decode cX7_restore 37 = .ok (.getfield 114, 3) := by decide +kernel
theorem dX7_restore_40 : decode cX7_restore 40 = .ok (.invokevirtual 48, 3) := by decide +kernel
theorem dX7_restore_43 : decode cX7_restore 43 = .ok (.ireturn, 1) := by decide +kernel
theorem dX7_real_0 : decode cX7_real 0 = .ok (.aload_n 0, 1) := by decide +kernel
theorem dX7_real_1 : decode cX7_real 1 = .ok (.getfield 10, 3) := by decide +kernel
theorem dX7_real_4 : decode cX7_real 4 = .ok (.iload_n 1, 1) := by decide +kernel
theorem dX7_real_5 : decode cX7_real 5 = .ok (.invokevirtual 117, 3) := by decide +kernel
theorem dX7_real_8 : decode cX7_real 8 = .ok (.ifCond .ne 6, 3) := by decide +kernel
theorem dX7_real_11 : decode cX7_real 11 = .ok (.ldc 121, 2) := by decide +kernel
theorem dX7_real_13 : decode cX7_real 13 = .ok (.freturn, 1) := by decide +kernel
theorem dX7_real_14 : decode cX7_real 14 = .ok (.aload_n 0, 1) := by decide +kernel
theorem dX7_real_15 : decode cX7_real 15 = .ok (.getfield 10, 3) := by decide +kernel
theorem dX7_real_18 : decode cX7_real 18 = .ok (.getfield 122, 3) := by decide +kernel
theorem dX7_real_21 : decode cX7_real 21 = .ok (.iload_n 1, 1) := by decide +kernel
theorem dX7_real_22 : decode cX7_real 22 = .ok (.aaload, 1) := by decide +kernel
theorem dX7_real_23 : decode cX7_real 23 = .ok (.astore_n 3, 1) := by decide +kernel
theorem dX7_real_24 : decode cX7_real 24 = .ok (.iload_n 2, 1) := by decide +kernel
theorem dX7_real_25 : decode cX7_real 25 = .ok (.tableswitch 42 0 2 #[27, 32, 37], 27) := by decide +kernel
theorem dX7_real_52 : decode cX7_real 52 = .ok (.aload_n 3, 1) := by decide +kernel
theorem dX7_real_53 : decode cX7_real 53 = .ok (.getfield 126, 3) := by decide +kernel
theorem dX7_real_56 : decode cX7_real 56 = .ok (.freturn, 1) := by decide +kernel
theorem dX7_real_57 : decode cX7_real 57 = .ok (.aload_n 3, 1) := by decide +kernel
theorem dX7_real_58 : decode cX7_real 58 = .ok (.getfield 132, 3) := by decide +kernel
theorem dX7_real_61 : decode cX7_real 61 = .ok (.freturn, 1) := by decide +kernel
theorem dX7_real_62 : decode cX7_real 62 = .ok (.aload_n 3, 1) := by decide +kernel
theorem dX7_real_63 : decode cX7_real 63 = .ok (.getfield 135, 3) := by decide +kernel
theorem dX7_real_66 : decode cX7_real 66 = .ok (.freturn, 1) := by decide +kernel
theorem dX7_real_67 : decode cX7_real 67 = .ok (.ldc 121, 2) := by decide +kernel
theorem dX7_real_69 : decode cX7_real 69 = .ok (.freturn, 1) := by decide +kernel
theorem dX7_healthIn_0 : decode cX7_healthIn 0 = .ok (.aload_n 0, 1) := by decide +kernel
theorem dX7_healthIn_1 : decode cX7_healthIn 1 = .ok (.getfield 10, 3) := by decide +kernel
theorem dX7_healthIn_4 : decode cX7_healthIn 4 = .ok (.iload_n 1, 1) := by decide +kernel
theorem dX7_healthIn_5 : decode cX7_healthIn 5 = .ok (.invokevirtual 117, 3) := by decide +kernel
theorem dX7_healthIn_8 : decode cX7_healthIn 8 = .ok (.ifCond .eq 14, 3) := by decide +kernel
theorem dX7_healthIn_11 : decode cX7_healthIn 11 = .ok (.iload_n 2, 1) := by decide +kernel
theorem dX7_healthIn_12 : decode cX7_healthIn 12 = .ok (.iconst 0, 1) := by decide +kernel
theorem dX7_healthIn_13 : decode cX7_healthIn 13 = .ok (.sipush 200, 3) := by decide +kernel
theorem dX7_healthIn_16 : decode cX7_healthIn 16 = .ok (.invokestatic 138, 3) := by decide +kernel
theorem dX7_healthIn_19 : decode cX7_healthIn 19 = .ok (.ifCond .ne 6, 3) := by decide +kernel
theorem dX7_healthIn_22 : decode cX7_healthIn 22 = .ok (.ldc 121, 2) := by decide +kernel
theorem dX7_healthIn_24 : decode cX7_healthIn 24 = .ok (.freturn, 1) := by decide +kernel
theorem dX7_healthIn_25 : decode cX7_healthIn 25 = .ok (.aload_n 0, 1) := by decide +kernel
theorem dX7_healthIn_26 : decode cX7_healthIn 26 = .ok (.getfield 10, 3) := by decide +kernel
theorem dX7_healthIn_29 : decode cX7_healthIn 29 = .ok (.getfield 122, 3) := by decide +kernel
theorem dX7_healthIn_32 : decode cX7_healthIn 32 = .ok (.iload_n 1, 1) := by decide +kernel
theorem dX7_healthIn_33 : decode cX7_healthIn 33 = .ok (.aaload, 1) := by decide +kernel
theorem dX7_healthIn_34 : decode cX7_healthIn 34 = .ok (.iload_n 2, 1) := by decide +kernel
theorem dX7_healthIn_35 : decode cX7_healthIn 35 = .ok (.invokevirtual 142, 3) := by decide +kernel
theorem dX7_healthIn_38 : decode cX7_healthIn 38 = .ok (.freturn, 1) := by decide +kernel
theorem dX7_hoursTo_0 : decode cX7_hoursTo 0 = .ok (.aload_n 0, 1) := by decide +kernel
theorem dX7_hoursTo_1 : decode cX7_hoursTo 1 = .ok (.getfield 10, 3) := by decide +kernel
theorem dX7_hoursTo_4 : decode cX7_hoursTo 4 = .ok (.iload_n 1, 1) := by decide +kernel
theorem dX7_hoursTo_5 : decode cX7_hoursTo 5 = .ok (.invokevirtual 117, 3) := by decide +kernel
theorem dX7_hoursTo_8 : decode cX7_hoursTo 8 = .ok (.ifCond .ne 5, 3) := by decide +kernel
theorem dX7_hoursTo_11 : decode cX7_hoursTo 11 = .ok (.iconst (-1), 1) := by decide +kernel
theorem dX7_hoursTo_12 : decode cX7_hoursTo 12 = .ok (.ireturn, 1) := by decide +kernel
theorem dX7_hoursTo_13 : decode cX7_hoursTo 13 = .ok (.iload_n 2, 1) := by decide +kernel
theorem dX7_hoursTo_14 : decode cX7_hoursTo 14 = .ok (.iconst 1, 1) := by decide +kernel
theorem dX7_hoursTo_15 : decode cX7_hoursTo 15 = .ok (.bipush 100, 2) := by decide +kernel
theorem dX7_hoursTo_17 : decode cX7_hoursTo 17 = .ok (.invokestatic 138, 3) := by decide +kernel
theorem dX7_hoursTo_20 : decode cX7_hoursTo 20 = .ok (.ifCond .ne 6, 3) := by decide +kernel
theorem dX7_hoursTo_23 : decode cX7_hoursTo 23 = .ok (.bipush (-2), 2) := by decide +kernel
theorem dX7_hoursTo_25 : decode cX7_hoursTo 25 = .ok (.ireturn, 1) := by decide +kernel
theorem dX7_hoursTo_26 : decode cX7_hoursTo 26 = .ok (.aload_n 0, 1) := by decide +kernel
theorem dX7_hoursTo_27 : decode cX7_hoursTo 27 = .ok (.getfield 10, 3) := by decide +kernel
theorem dX7_hoursTo_30 : decode cX7_hoursTo 30 = .ok (.getfield 122, 3) := by decide +kernel
theorem dX7_hoursTo_33 : decode cX7_hoursTo 33 = .ok (.iload_n 1, 1) := by decide +kernel
theorem dX7_hoursTo_34 : decode cX7_hoursTo 34 = .ok (.aaload, 1) := by decide +kernel
theorem dX7_hoursTo_35 : decode cX7_hoursTo 35 = .ok (.iload_n 2, 1) := by decide +kernel
theorem dX7_hoursTo_36 : decode cX7_hoursTo 36 = .ok (.i2f, 1) := by decide +kernel
theorem dX7_hoursTo_37 : decode cX7_hoursTo 37 = .ok (.ldc 146, 2) := by decide +kernel
theorem dX7_hoursTo_39 : decode cX7_hoursTo 39 = .ok (.fdiv, 1) := by decide +kernel
theorem dX7_hoursTo_40 : decode cX7_hoursTo 40 = .ok (.invokevirtual 147, 3) := by decide +kernel
theorem dX7_hoursTo_43 : decode cX7_hoursTo 43 = .ok (.ireturn, 1) := by decide +kernel
theorem dX7_asset_0 : decode cX7_asset 0 = .ok (.aload_n 0, 1) := by decide +kernel
theorem dX7_asset_1 : decode cX7_asset 1 = .ok (.getfield 10, 3) := by decide +kernel
theorem dX7_asset_4 : decode cX7_asset 4 = .ok (.iload_n 1, 1) := by decide +kernel
theorem dX7_asset_5 : decode cX7_asset 5 = .ok (.invokevirtual 117, 3) := by decide +kernel
theorem dX7_asset_8 : decode cX7_asset 8 = .ok (.ifCond .ne 5, 3) := by decide +kernel
theorem dX7_asset_11 : decode cX7_asset 11 = .ok (.iconst (-1), 1) := by decide +kernel
theorem dX7_asset_12 : decode cX7_asset 12 = .ok (.ireturn, 1) := by decide +kernel
theorem dX7_asset_13 : decode cX7_asset 13 = .ok (.aload_n 0, 1) := by decide +kernel
theorem dX7_asset_14 : decode cX7_asset 14 = .ok (.getfield 10, 3) := by decide +kernel
theorem dX7_asset_17 : decode cX7_asset 17 = .ok (.getfield 122, 3) := by decide +kernel
theorem dX7_asset_20 : decode cX7_asset 20 = .ok (.iload_n 1, 1) := by decide +kernel
theorem dX7_asset_21 : decode cX7_asset 21 = .ok (.aaload, 1) := by decide +kernel
theorem dX7_asset_22 : decode cX7_asset 22 = .ok (.astore_n 3, 1) := by decide +kernel
theorem dX7_asset_23 : decode cX7_asset 23 = .ok (.iload_n 2, 1) := by decide +kernel
theorem dX7_asset_24 : decode cX7_asset 24 = .ok (.tableswitch 122 0 7 #[48, 61, 70, 80, 85, 96, 107, 116], 48) := by decide +kernel
theorem dX7_asset_72 : decode cX7_asset 72 = .ok (.aload_n 3, 1) := by decide +kernel
theorem dX7_asset_73 : decode cX7_asset 73 = .ok (.getfield 151, 3) := by decide +kernel
theorem dX7_asset_76 : decode cX7_asset 76 = .ok (.ifCond .eq 7, 3) := by decide +kernel
theorem dX7_asset_79 : decode cX7_asset 79 = .ok (.iconst 1, 1) := by decide +kernel
theorem dX7_asset_80 : decode cX7_asset 80 = .ok (.goto 4, 3) := by decide +kernel
theorem dX7_asset_83 : decode cX7_asset 83 = .ok (.iconst 0, 1) := by decide +kernel
theorem dX7_asset_84 : decode cX7_asset 84 = .ok (.ireturn, 1) := by decide +kernel
theorem dX7_asset_85 : decode cX7_asset 85 = .ok (.aload_n 0, 1) := by decide +kernel
theorem dX7_asset_86 : decode cX7_asset 86 = .ok (.getfield 10, 3) := by decide +kernel
theorem dX7_asset_89 : decode cX7_asset 89 = .ok (.iload_n 1, 1) := by decide +kernel
theorem dX7_asset_90 : decode cX7_asset 90 = .ok (.invokevirtual 154, 3) := by decide +kernel
theorem dX7_asset_93 : decode cX7_asset 93 = .ok (.ireturn, 1) := by decide +kernel
theorem dX7_asset_94 : decode cX7_asset 94 = .ok (.aload_n 0, 1) := by decide +kernel
theorem dX7_asset_95 : decode cX7_asset 95 = .ok (.getfield 10, 3) := by decide +kernel
theorem dX7_asset_98 : decode cX7_asset 98 = .ok (.iload_n 1, 1) := by decide +kernel
theorem dX7_asset_99 : decode cX7_asset 99 = .ok (.iconst 0, 1) := by decide +kernel
theorem dX7_asset_100 : decode cX7_asset 100 = .ok (.invokevirtual 157, 3) := by decide +kernel
theorem dX7_asset_103 : decode cX7_asset 103 = .ok (.ireturn, 1) := by decide +kernel
theorem dX7_asset_104 : decode cX7_asset 104 = .ok (.aload_n 3, 1) := by decide +kernel
theorem dX7_asset_105 : decode cX7_asset 105 = .ok (.getfield 160, 3) := by decide +kernel
theorem dX7_asset_108 : decode cX7_asset 108 = .ok (.ireturn, 1) := by decide +kernel
theorem dX7_asset_109 : decode cX7_asset 109 = .ok (.aload_n 0, 1) := by decide +kernel
theorem dX7_asset_110 : decode cX7_asset 110 = .ok (.getfield 10, 3) := by decide +kernel
theorem dX7_asset_113 : decode cX7_asset 113 = .ok (.iload_n 1, 1) := by decide +kernel
theorem dX7_asset_114 : decode cX7_asset 114 = .ok (.iconst 0, 1) := by decide +kernel
theorem dX7_asset_115 : decode cX7_asset 115 = .ok (.iconst 3, 1) := by decide +kernel
theorem dX7_asset_116 : decode cX7_asset 116 = .ok (.invokevirtual 163, 3) := by decide +kernel
theorem dX7_asset_119 : decode cX7_asset 119 = .ok (.ireturn, 1) := by decide +kernel
theorem dX7_asset_120 : decode cX7_asset 120 = .ok (.aload_n 0, 1) := by decide +kernel
theorem dX7_asset_121 : decode cX7_asset 121 = .ok (.getfield 10, 3) := by decide +kernel
theorem dX7_asset_124 : decode cX7_asset 124 = .ok (.iload_n 1, 1) := by decide +kernel
theorem dX7_asset_125 : decode cX7_asset 125 = .ok (.iconst 4, 1) := by decide +kernel
theorem dX7_asset_126 : decode cX7_asset 126 = .ok (.iconst 4, 1) := by decide +kernel
theorem dX7_asset_127 : decode cX7_asset 127 = .ok (.invokevirtual 163, 3) := by decide +kernel
theorem dX7_asset_130 : decode cX7_asset 130 = .ok (.ireturn, 1) := by decide +kernel
theorem dX7_asset_131 : decode cX7_asset 131 = .ok (.aload_n 3, 1) := by decide +kernel
theorem dX7_asset_132 : decode cX7_asset 132 = .ok (.getfield 126, 3) := by decide +kernel
theorem dX7_asset_135 : decode cX7_asset 135 = .ok (.ldc 167, 2) := by decide +kernel
theorem dX7_asset_137 : decode cX7_asset 137 = .ok (.fmul, 1) := by decide +kernel
theorem dX7_asset_138 : decode cX7_asset 138 = .ok (.f2i, 1) := by decide +kernel
theorem dX7_asset_139 : decode cX7_asset 139 = .ok (.ireturn, 1) := by decide +kernel
theorem dX7_asset_140 : decode cX7_asset 140 = .ok (.aload_n 3, 1) := by decide +kernel
theorem dX7_asset_141 : decode cX7_asset 141 = .ok (.getfield 132, 3) := by decide +kernel
theorem dX7_asset_144 : decode cX7_asset 144 = .ok (.f2i, 1) := by decide +kernel
theorem dX7_asset_145 : decode cX7_asset 145 = .ok (.ireturn, 1) := by decide +kernel
theorem dX7_asset_146 : decode cX7_asset 146 = .ok (.bipush (-2), 2) := by decide +kernel
theorem dX7_asset_148 : decode cX7_asset 148 = .ok (.ireturn, 1) := by decide +kernel
theorem dX7_tagAt_0 : decode cX7_tagAt 0 = .ok (.aload_n 0, 1) := by decide +kernel
theorem dX7_tagAt_1 : decode cX7_tagAt 1 = .ok (.getfield 10, 3) := by decide +kernel
theorem dX7_tagAt_4 : decode cX7_tagAt 4 = .ok (.iload_n 1, 1) := by decide +kernel
theorem dX7_tagAt_5 : decode cX7_tagAt 5 = .ok (.invokevirtual 117, 3) := by decide +kernel
theorem dX7_tagAt_8 : decode cX7_tagAt 8 = .ok (.ifCond .ne 5, 3) := by decide +kernel
theorem dX7_tagAt_11 : decode cX7_tagAt 11 = .ok (.iconst (-1), 1) := by decide +kernel
theorem dX7_tagAt_12 : decode cX7_tagAt 12 = .ok (.ireturn, 1) := by decide +kernel
theorem dX7_tagAt_13 : decode cX7_tagAt 13 = .ok (.iload_n 2, 1) := by decide +kernel
theorem dX7_tagAt_14 : decode cX7_tagAt 14 = .ok (.ifCond .ge 6, 3) := by decide +kernel
theorem dX7_tagAt_17 : decode cX7_tagAt 17 = .ok (.bipush (-2), 2) := by decide +kernel
theorem dX7_tagAt_19 : decode cX7_tagAt 19 = .ok (.ireturn, 1) := by decide +kernel
theorem dX7_tagAt_20 : decode cX7_tagAt 20 = .ok (.aload_n 0, 1) := by decide +kernel
theorem dX7_tagAt_21 : decode cX7_tagAt 21 = .ok (.getfield 10, 3) := by decide +kernel
theorem dX7_tagAt_24 : decode cX7_tagAt 24 = .ok (.iload_n 1, 1) := by decide +kernel
theorem dX7_tagAt_25 : decode cX7_tagAt 25 = .ok (.iload_n 2, 1) := by decide +kernel
theorem dX7_tagAt_26 : decode cX7_tagAt 26 = .ok (.invokevirtual 157, 3) := by decide +kernel
theorem dX7_tagAt_29 : decode cX7_tagAt 29 = .ok (.ireturn, 1) := by decide +kernel
theorem dX7_crew_0 : decode cX7_crew 0 = .ok (.aload_n 0, 1) := by decide +kernel
theorem dX7_crew_1 : decode cX7_crew 1 = .ok (.getfield 10, 3) := by decide +kernel
theorem dX7_crew_4 : decode cX7_crew 4 = .ok (.iload_n 1, 1) := by decide +kernel
theorem dX7_crew_5 : decode cX7_crew 5 = .ok (.invokevirtual 168, 3) := by decide +kernel
theorem dX7_crew_8 : decode cX7_crew 8 = .ok (.ifCond .ne 5, 3) := by decide +kernel
theorem dX7_crew_11 : decode cX7_crew 11 = .ok (.iconst (-1), 1) := by decide +kernel
theorem dX7_crew_12 : decode cX7_crew 12 = .ok (.ireturn, 1) := by decide +kernel
theorem dX7_crew_13 : decode cX7_crew 13 = .ok (.aload_n 0, 1) := by decide +kernel
theorem dX7_crew_14 : decode cX7_crew 14 = .ok (.getfield 10, 3) := by decide +kernel
theorem dX7_crew_17 : decode cX7_crew 17 = .ok (.getfield 171, 3) := by decide +kernel
theorem dX7_crew_20 : decode cX7_crew 20 = .ok (.iload_n 1, 1) := by decide +kernel
theorem dX7_crew_21 : decode cX7_crew 21 = .ok (.aaload, 1) := by decide +kernel
theorem dX7_crew_22 : decode cX7_crew 22 = .ok (.astore_n 3, 1) := by decide +kernel
theorem dX7_crew_23 : decode cX7_crew 23 = .ok (.iload_n 2, 1) := by decide +kernel
theorem dX7_crew_24 : decode cX7_crew 24 = .ok (.tableswitch 77 0 4 #[36, 41, 46, 55, 66], 36) := by decide +kernel
theorem dX7_crew_60 : decode cX7_crew 60 = .ok (.aload_n 3, 1) := by decide +kernel
theorem dX7_crew_61 : decode cX7_crew 61 = .ok (.getfield 175, 3) := by decide +kernel
theorem dX7_crew_64 : decode cX7_crew 64 = .ok (.ireturn, 1) := by decide +kernel
theorem dX7_crew_65 : decode cX7_crew 65 = .ok (.aload_n 3, 1) := by decide +kernel
theorem dX7_crew_66 : decode cX7_crew 66 = .ok (.getfield 180, 3) := by decide +kernel
theorem dX7_crew_69 : decode cX7_crew 69 = .ok (.ireturn, 1) := by decide +kernel
theorem dX7_crew_70 : decode cX7_crew 70 = .ok (.aload_n 0, 1) := by decide +kernel
theorem dX7_crew_71 : decode cX7_crew 71 = .ok (.getfield 10, 3) := by decide +kernel
theorem dX7_crew_74 : decode cX7_crew 74 = .ok (.iload_n 1, 1) := by decide +kernel
theorem dX7_crew_75 : decode cX7_crew 75 = .ok (.invokevirtual 183, 3) := by decide +kernel
theorem dX7_crew_78 : decode cX7_crew 78 = .ok (.ireturn, 1) := by decide +kernel
theorem dX7_crew_79 : decode cX7_crew 79 = .ok (.aload_n 0, 1) := by decide +kernel
theorem dX7_crew_80 : decode cX7_crew 80 = .ok (.getfield 10, 3) := by decide +kernel
theorem dX7_crew_83 : decode cX7_crew 83 = .ok (.iload_n 1, 1) := by decide +kernel
theorem dX7_crew_84 : decode cX7_crew 84 = .ok (.iconst 1, 1) := by decide +kernel
theorem dX7_crew_85 : decode cX7_crew 85 = .ok (.iconst 3, 1) := by decide +kernel
theorem dX7_crew_86 : decode cX7_crew 86 = .ok (.invokevirtual 186, 3) := by decide +kernel
theorem dX7_crew_89 : decode cX7_crew 89 = .ok (.ireturn, 1) := by decide +kernel
theorem dX7_crew_90 : decode cX7_crew 90 = .ok (.aload_n 0, 1) := by decide +kernel
theorem dX7_crew_91 : decode cX7_crew 91 = .ok (.getfield 10, 3) := by decide +kernel
theorem dX7_crew_94 : decode cX7_crew 94 = .ok (.iload_n 1, 1) := by decide +kernel
theorem dX7_crew_95 : decode cX7_crew 95 = .ok (.iconst 4, 1) := by decide +kernel
theorem dX7_crew_96 : decode cX7_crew 96 = .ok (.iconst 4, 1) := by decide +kernel
theorem dX7_crew_97 : decode cX7_crew 97 = .ok (.invokevirtual 186, 3) := by decide +kernel
theorem dX7_crew_100 : decode cX7_crew 100 = .ok (.ireturn, 1) := by decide +kernel
theorem dX7_crew_101 : decode cX7_crew 101 = .ok (.bipush (-2), 2) := by decide +kernel
theorem dX7_crew_103 : decode cX7_crew 103 = .ok (.ireturn, 1) := by decide +kernel
theorem dX7_task_0 : decode cX7_task 0 = .ok (.aload_n 0, 1) := by decide +kernel
theorem dX7_task_1 : decode cX7_task 1 = .ok (.getfield 10, 3) := by decide +kernel
theorem dX7_task_4 : decode cX7_task 4 = .ok (.iload_n 1, 1) := by decide +kernel
theorem dX7_task_5 : decode cX7_task 5 = .ok (.invokevirtual 189, 3) := by decide +kernel
theorem dX7_task_8 : decode cX7_task 8 = .ok (.ifCond .ne 5, 3) := by decide +kernel
theorem dX7_task_11 : decode cX7_task 11 = .ok (.iconst (-1), 1) := by decide +kernel
theorem dX7_task_12 : decode cX7_task 12 = .ok (.ireturn, 1) := by decide +kernel
theorem dX7_task_13 : decode cX7_task 13 = .ok (.aload_n 0, 1) := by decide +kernel
theorem dX7_task_14 : decode cX7_task 14 = .ok (.getfield 10, 3) := by decide +kernel
theorem dX7_task_17 : decode cX7_task 17 = .ok (.getfield 192, 3) := by decide +kernel
theorem dX7_task_20 : decode cX7_task 20 = .ok (.iload_n 1, 1) := by decide +kernel
theorem dX7_task_21 : decode cX7_task 21 = .ok (.aaload, 1) := by decide +kernel
theorem dX7_task_22 : decode cX7_task 22 = .ok (.astore_n 3, 1) := by decide +kernel
theorem dX7_task_23 : decode cX7_task 23 = .ok (.iload_n 2, 1) := by decide +kernel
theorem dX7_task_24 : decode cX7_task 24 = .ok (.tableswitch 154 0 12 #[68, 73, 78, 83, 88, 93, 98, 103, 108, 113, 131, 136, 145], 68) := by decide +kernel
theorem dX7_task_92 : decode cX7_task 92 = .ok (.aload_n 3, 1) := by decide +kernel
theorem dX7_task_93 : decode cX7_task 93 = .ok (.getfield 196, 3) := by decide +kernel
theorem dX7_task_96 : decode cX7_task 96 = .ok (.ireturn, 1) := by decide +kernel
theorem dX7_task_97 : decode cX7_task 97 = .ok (.aload_n 3, 1) := by decide +kernel
theorem dX7_task_98 : decode cX7_task 98 = .ok (.getfield 201, 3) := by decide +kernel
theorem dX7_task_101 : decode cX7_task 101 = .ok (.ireturn, 1) := by decide +kernel
theorem dX7_task_102 : decode cX7_task 102 = .ok (.aload_n 3, 1) := by decide +kernel
theorem dX7_task_103 : decode cX7_task 103 = .ok (.getfield 204, 3) := by decide +kernel
theorem dX7_task_106 : decode cX7_task 106 = .ok (.ireturn, 1) := by decide +kernel
theorem dX7_task_107 : decode cX7_task 107 = .ok (.aload_n 3, 1) := by decide +kernel
theorem dX7_task_108 : decode cX7_task 108 = .ok (.getfield 207, 3) := by decide +kernel
theorem dX7_task_111 : decode cX7_task 111 = .ok (.ireturn, 1) := by decide +kernel
theorem dX7_task_112 : decode cX7_task 112 = .ok (.aload_n 3, 1) := by decide +kernel
theorem dX7_task_113 : decode cX7_task 113 = .ok (.getfield 208, 3) := by decide +kernel
theorem dX7_task_116 : decode cX7_task 116 = .ok (.ireturn, 1) := by decide +kernel
theorem dX7_task_117 : decode cX7_task 117 = .ok (.aload_n 3, 1) := by decide +kernel
theorem dX7_task_118 : decode cX7_task 118 = .ok (.getfield 211, 3) := by decide +kernel
theorem dX7_task_121 : decode cX7_task 121 = .ok (.ireturn, 1) := by decide +kernel
theorem dX7_task_122 : decode cX7_task 122 = .ok (.aload_n 3, 1) := by decide +kernel
theorem dX7_task_123 : decode cX7_task 123 = .ok (.getfield 214, 3) := by decide +kernel
theorem dX7_task_126 : decode cX7_task 126 = .ok (.ireturn, 1) := by decide +kernel
theorem dX7_task_127 : decode cX7_task 127 = .ok (.aload_n 3, 1) := by decide +kernel
theorem dX7_task_128 : decode cX7_task 128 = .ok (.getfield 217, 3) := by decide +kernel
theorem dX7_task_131 : decode cX7_task 131 = .ok (.ireturn, 1) := by decide +kernel
theorem dX7_task_132 : decode cX7_task 132 = .ok (.aload_n 3, 1) := by decide +kernel
theorem dX7_task_133 : decode cX7_task 133 = .ok (.getfield 220, 3) := by decide +kernel
theorem dX7_task_136 : decode cX7_task 136 = .ok (.ireturn, 1) := by decide +kernel
theorem dX7_task_137 : decode cX7_task 137 = .ok (.aload_n 3, 1) := by decide +kernel
theorem dX7_task_138 : decode cX7_task 138 = .ok (.getfield 201, 3) := by decide +kernel
theorem dX7_task_141 : decode cX7_task 141 = .ok (.iconst 2, 1) := by decide +kernel
theorem dX7_task_142 : decode cX7_task 142 = .ok (.if_icmp .ne 10, 3) := by decide +kernel
theorem dX7_task_145 : decode cX7_task 145 = .ok (.aload_n 3, 1) := by decide +kernel
theorem dX7_task_146 : decode cX7_task 146 = .ok (.getfield 223, 3) := by decide +kernel
theorem dX7_task_149 : decode cX7_task 149 = .ok (.goto 5, 3) := by decide +kernel
theorem dX7_task_152 : decode cX7_task 152 = .ok (.bipush (-5), 2) := by decide +kernel
theorem dX7_task_154 : decode cX7_task 154 = .ok (.ireturn, 1) := by decide +kernel
theorem dX7_task_155 : decode cX7_task 155 = .ok (.aload_n 3, 1) := by decide +kernel
theorem dX7_task_156 : decode cX7_task 156 = .ok (.getfield 226, 3) := by decide +kernel
theorem dX7_task_159 : decode cX7_task 159 = .ok (.ireturn, 1) := by decide +kernel
theorem dX7_task_160 : decode cX7_task 160 = .ok (.aload_n 0, 1) := by decide +kernel
theorem dX7_task_161 : decode cX7_task 161 = .ok (.getfield 10, 3) := by decide +kernel
theorem dX7_task_164 : decode cX7_task 164 = .ok (.iload_n 1, 1) := by decide +kernel
theorem dX7_task_165 : decode cX7_task 165 = .ok (.invokevirtual 229, 3) := by decide +kernel
theorem dX7_task_168 : decode cX7_task 168 = .ok (.ireturn, 1) := by decide +kernel
theorem dX7_task_169 : decode cX7_task 169 = .ok (.aload_n 0, 1) := by decide +kernel
theorem dX7_task_170 : decode cX7_task 170 = .ok (.getfield 10, 3) := by decide +kernel
theorem dX7_task_173 : decode cX7_task 173 = .ok (.iload_n 1, 1) := by decide +kernel
theorem dX7_task_174 : decode cX7_task 174 = .ok (.invokevirtual 232, 3) := by decide +kernel
theorem dX7_task_177 : decode cX7_task 177 = .ok (.ireturn, 1) := by decide +kernel
theorem dX7_task_178 : decode cX7_task 178 = .ok (.bipush (-2), 2) := by decide +kernel
theorem dX7_task_180 : decode cX7_task 180 = .ok (.ireturn, 1) := by decide +kernel
theorem dX7_crewFor_0 : decode cX7_crewFor 0 = .ok (.aload_n 0, 1) := by decide +kernel
theorem dX7_crewFor_1 : decode cX7_crewFor 1 = .ok (.getfield 10, 3) := by decide +kernel
theorem dX7_crewFor_4 : decode cX7_crewFor 4 = .ok (.iload_n 1, 1) := by decide +kernel
theorem dX7_crewFor_5 : decode cX7_crewFor 5 = .ok (.invokevirtual 189, 3) := by decide +kernel
theorem dX7_crewFor_8 : decode cX7_crewFor 8 = .ok (.ifCond .ne 5, 3) := by decide +kernel
theorem dX7_crewFor_11 : decode cX7_crewFor 11 = .ok (.iconst (-1), 1) := by decide +kernel
theorem dX7_crewFor_12 : decode cX7_crewFor 12 = .ok (.ireturn, 1) := by decide +kernel
theorem dX7_crewFor_13 : decode cX7_crewFor 13 = .ok (.aload_n 0, 1) := by decide +kernel
theorem dX7_crewFor_14 : decode cX7_crewFor 14 = .ok (.getfield 10, 3) := by decide +kernel
theorem dX7_crewFor_17 : decode cX7_crewFor 17 = .ok (.iload_n 1, 1) := by decide +kernel
theorem dX7_crewFor_18 : decode cX7_crewFor 18 = .ok (.invokevirtual 235, 3) := by decide +kernel
theorem dX7_crewFor_21 : decode cX7_crewFor 21 = .ok (.ireturn, 1) := by decide +kernel
theorem dX7_count_0 : decode cX7_count 0 = .ok (.iload_n 1, 1) := by decide +kernel
theorem dX7_count_1 : decode cX7_count 1 = .ok (.tableswitch 165 0 16 #[83, 91, 99, 107, 115, 165, 165, 165, 165, 165, 165, 165, 123, 133, 141, 149, 157], 83) := by decide +kernel
theorem dX7_count_84 : decode cX7_count 84 = .ok (.aload_n 0, 1) := by decide +kernel
theorem dX7_count_85 : decode cX7_count 85 = .ok (.getfield 10, 3) := by decide +kernel
theorem dX7_count_88 : decode cX7_count 88 = .ok (.getfield 114, 3) := by decide +kernel
theorem dX7_count_91 : decode cX7_count 91 = .ok (.ireturn, 1) := by decide +kernel
theorem dX7_count_92 : decode cX7_count 92 = .ok (.aload_n 0, 1) := by decide +kernel
theorem dX7_count_93 : decode cX7_count 93 = .ok (.getfield 10, 3) := by decide +kernel
theorem dX7_count_96 : decode cX7_count 96 = .ok (.getfield 238, 3) := by decide +kernel
theorem dX7_count_99 : decode cX7_count 99 = .ok (.ireturn, 1) := by decide +kernel
theorem dX7_count_100 : decode cX7_count 100 = .ok (.aload_n 0, 1) := by decide +kernel
theorem dX7_count_101 : decode cX7_count 101 = .ok (.getfield 10, 3) := by decide +kernel
theorem dX7_count_104 : decode cX7_count 104 = .ok (.invokevirtual 241, 3) := by decide +kernel
theorem dX7_count_107 : decode cX7_count 107 = .ok (.ireturn, 1) := by decide +kernel
theorem dX7_count_108 : decode cX7_count 108 = .ok (.aload_n 0, 1) := by decide +kernel
theorem dX7_count_109 : decode cX7_count 109 = .ok (.getfield 10, 3) := by decide +kernel
theorem dX7_count_112 : decode cX7_count 112 = .ok (.getfield 244, 3) := by decide +kernel
theorem dX7_count_115 : decode cX7_count 115 = .ok (.ireturn, 1) := by decide +kernel
theorem dX7_count_116 : decode cX7_count 116 = .ok (.aload_n 0, 1) := by decide +kernel
theorem dX7_count_117 : decode cX7_count 117 = .ok (.getfield 10, 3) := by decide +kernel
theorem dX7_count_120 : decode cX7_count 120 = .ok (.getfield 247, 3) := by decide +kernel
theorem dX7_count_123 : decode cX7_count 123 = .ok (.ireturn, 1) := by decide +kernel
theorem dX7_count_124 : decode cX7_count 124 = .ok (.aload_n 0, 1) := by decide +kernel
theorem dX7_count_125 : decode cX7_count 125 = .ok (.getfield 10, 3) := by decide +kernel
theorem dX7_count_128 : decode cX7_count 128 = .ok (.iconst 1, 1) := by decide +kernel
theorem dX7_count_129 : decode cX7_count 129 = .ok (.iconst 3, 1) := by decide +kernel
theorem dX7_count_130 : decode cX7_count 130 = .ok (.invokevirtual 250, 3) := by decide +kernel
theorem dX7_count_133 : decode cX7_count 133 = .ok (.ireturn, 1) := by decide +kernel
theorem dX7_count_134 : decode cX7_count 134 = .ok (.aload_n 0, 1) := by decide +kernel
theorem dX7_count_135 : decode cX7_count 135 = .ok (.getfield 10, 3) := by decide +kernel
theorem dX7_count_138 : decode cX7_count 138 = .ok (.invokevirtual 253, 3) := by decide +kernel
theorem dX7_count_141 : decode cX7_count 141 = .ok (.ireturn, 1) := by decide +kernel
theorem dX7_count_142 : decode cX7_count 142 = .ok (.aload_n 0, 1) := by decide +kernel
theorem dX7_count_143 : decode cX7_count 143 = .ok (.getfield 10, 3) := by decide +kernel
theorem dX7_count_146 : decode cX7_count 146 = .ok (.invokevirtual 256, 3) := by decide +kernel
theorem dX7_count_149 : decode cX7_count 149 = .ok (.ireturn, 1) := by decide +kernel
theorem dX7_count_150 : decode cX7_count 150 = .ok (.aload_n 0, 1) := by decide +kernel
theorem dX7_count_151 : decode cX7_count 151 = .ok (.getfield 29, 3) := by decide +kernel
theorem dX7_count_154 : decode cX7_count 154 = .ok (.getfield 259, 3) := by decide +kernel
theorem dX7_count_157 : decode cX7_count 157 = .ok (.ireturn, 1) := by decide +kernel
theorem dX7_count_158 : decode cX7_count 158 = .ok (.aload_n 0, 1) := by decide +kernel
theorem dX7_count_159 : decode cX7_count 159 = .ok (.getfield 36, 3) := by decide +kernel
theorem dX7_count_162 : decode cX7_count 162 = .ok (.getfield 262, 3) := by decide +kernel
theorem dX7_count_165 : decode cX7_count 165 = .ok (.ireturn, 1) := by decide +kernel
theorem dX7_count_166 : decode cX7_count 166 = .ok (.iload_n 1, 1) := by decide +kernel
theorem dX7_count_167 : decode cX7_count 167 = .ok (.iconst 5, 1) := by decide +kernel
theorem dX7_count_168 : decode cX7_count 168 = .ok (.bipush 11, 2) := by decide +kernel
theorem dX7_count_170 : decode cX7_count 170 = .ok (.invokestatic 138, 3) := by decide +kernel
theorem dX7_count_173 : decode cX7_count 173 = .ok (.ifCond .eq 17, 3) := by decide +kernel
theorem dX7_count_176 : decode cX7_count 176 = .ok (.aload_n 0, 1) := by decide +kernel
theorem dX7_count_177 : decode cX7_count 177 = .ok (.getfield 10, 3) := by decide +kernel
theorem dX7_count_180 : decode cX7_count 180 = .ok (.iload_n 1, 1) := by decide +kernel
theorem dX7_count_181 : decode cX7_count 181 = .ok (.iconst 5, 1) := by decide +kernel
theorem dX7_count_182 : decode cX7_count 182 = .ok (.isub, 1) := by decide +kernel
theorem dX7_count_183 : decode cX7_count 183 = .ok (.iload_n 1, 1) := by decide +kernel
theorem dX7_count_184 : decode cX7_count 184 = .ok (.iconst 5, 1) := by decide +kernel
theorem dX7_count_185 : decode cX7_count 185 = .ok (.isub, 1) := by decide +kernel
theorem dX7_count_186 : decode cX7_count 186 = .ok (.invokevirtual 250, 3) := by decide +kernel
theorem dX7_count_189 : decode cX7_count 189 = .ok (.ireturn, 1) := by decide +kernel
theorem dX7_count_190 : decode cX7_count 190 = .ok (.bipush (-2), 2) := by decide +kernel
theorem dX7_count_192 : decode cX7_count 192 = .ok (.ireturn, 1) := by decide +kernel
theorem dX7_recorded_0 : decode cX7_recorded 0 = .ok (.iload_n 1, 1) := by decide +kernel
theorem dX7_recorded_1 : decode cX7_recorded 1 = .ok (.ifCond .lt 14, 3) := by decide +kernel
theorem dX7_recorded_4 : decode cX7_recorded 4 = .ok (.aload_n 0, 1) := by decide +kernel
theorem dX7_recorded_5 : decode cX7_recorded 5 = .ok (.getfield 29, 3) := by decide +kernel
theorem dX7_recorded_8 : decode cX7_recorded 8 = .ok (.aload_n 0, 1) := by decide +kernel
theorem dX7_recorded_9 : decode cX7_recorded 9 = .ok (.getfield 16, 3) := by decide +kernel
theorem dX7_recorded_12 : decode cX7_recorded 12 = .ok (.invokevirtual 265, 3) := by decide +kernel
theorem dX7_recorded_15 : decode cX7_recorded 15 = .ok (.iload_n 1, 1) := by decide +kernel
theorem dX7_recorded_16 : decode cX7_recorded 16 = .ok (.ireturn, 1) := by decide +kernel
theorem dX7_follow_0 : decode cX7_follow 0 = .ok (.aload_n 1, 1) := by decide +kernel
theorem dX7_follow_1 : decode cX7_follow 1 = .ok (.getfield 268, 3) := by decide +kernel
theorem dX7_follow_4 : decode cX7_follow 4 = .ok (.bipush 104, 2) := by decide +kernel
theorem dX7_follow_6 : decode cX7_follow 6 = .ok (.if_icmp .ne 19, 3) := by decide +kernel
theorem dX7_follow_9 : decode cX7_follow 9 = .ok (.aload_n 0, 1) := by decide +kernel
theorem dX7_follow_10 : decode cX7_follow 10 = .ok (.getfield 10, 3) := by decide +kernel
theorem dX7_follow_13 : decode cX7_follow 13 = .ok (.aload_n 1, 1) := by decide +kernel
theorem dX7_follow_14 : decode cX7_follow 14 = .ok (.getfield 274, 3) := by decide +kernel
theorem dX7_follow_17 : decode cX7_follow 17 = .ok (.aload_n 1, 1) := by decide +kernel
theorem dX7_follow_18 : decode cX7_follow 18 = .ok (.getfield 277, 3) := by decide +kernel
theorem dX7_follow_21 : decode cX7_follow 21 = .ok (.invokevirtual 72, 3) := by decide +kernel
theorem dX7_follow_24 : decode cX7_follow 24 = .ok (.ireturn, 1) := by decide +kernel
theorem dX7_follow_25 : decode cX7_follow 25 = .ok (.aload_n 1, 1) := by decide +kernel
theorem dX7_follow_26 : decode cX7_follow 26 = .ok (.getfield 268, 3) := by decide +kernel
theorem dX7_follow_29 : decode cX7_follow 29 = .ok (.bipush 108, 2) := by decide +kernel
theorem dX7_follow_31 : decode cX7_follow 31 = .ok (.if_icmp .ne 19, 3) := by decide +kernel
theorem dX7_follow_34 : decode cX7_follow 34 = .ok (.aload_n 0, 1) := by decide +kernel
theorem dX7_follow_35 : decode cX7_follow 35 = .ok (.getfield 10, 3) := by decide +kernel
theorem dX7_follow_38 : decode cX7_follow 38 = .ok (.aload_n 1, 1) := by decide +kernel
theorem dX7_follow_39 : decode cX7_follow 39 = .ok (.getfield 274, 3) := by decide +kernel
theorem dX7_follow_42 : decode cX7_follow 42 = .ok (.aload_n 1, 1) := by decide +kernel
theorem dX7_follow_43 : decode cX7_follow 43 = .ok (.getfield 277, 3) := by decide +kernel
theorem dX7_follow_46 : decode cX7_follow 46 = .ok (.invokevirtual 78, 3) := by decide +kernel
theorem dX7_follow_49 : decode cX7_follow 49 = .ok (.ireturn, 1) := by decide +kernel
theorem dX7_follow_50 : decode cX7_follow 50 = .ok (.aload_n 1, 1) := by decide +kernel
theorem dX7_follow_51 : decode cX7_follow 51 = .ok (.getfield 268, 3) := by decide +kernel
theorem dX7_follow_54 : decode cX7_follow 54 = .ok (.bipush 98, 2) := by decide +kernel
theorem dX7_follow_56 : decode cX7_follow 56 = .ok (.if_icmp .ne 15, 3) := by decide +kernel
theorem dX7_follow_59 : decode cX7_follow 59 = .ok (.aload_n 0, 1) := by decide +kernel
theorem dX7_follow_60 : decode cX7_follow 60 = .ok (.getfield 10, 3) := by decide +kernel
theorem dX7_follow_63 : decode cX7_follow 63 = .ok (.aload_n 1, 1) := by decide +kernel
theorem dX7_follow_64 : decode cX7_follow 64 = .ok (.getfield 274, 3) := by decide +kernel
theorem dX7_follow_67 : decode cX7_follow 67 = .ok (.invokevirtual 75, 3) := by decide +kernel
theorem dX7_follow_70 : decode cX7_follow 70 = .ok (.ireturn, 1) := by decide +kernel
theorem dX7_follow_71 : decode cX7_follow 71 = .ok (.aload_n 1, 1) := by decide +kernel
theorem dX7_follow_72 : decode cX7_follow 72 = .ok (.getfield 268, 3) := by decide +kernel
theorem dX7_follow_75 : decode cX7_follow 75 = .ok (.bipush 114, 2) := by decide +kernel
theorem dX7_follow_77 : decode cX7_follow 77 = .ok (.if_icmp .ne 15, 3) := by decide +kernel
theorem dX7_follow_80 : decode cX7_follow 80 = .ok (.aload_n 0, 1) := by decide +kernel
theorem dX7_follow_81 : decode cX7_follow 81 = .ok (.getfield 10, 3) := by decide +kernel
theorem dX7_follow_84 : decode cX7_follow 84 = .ok (.aload_n 1, 1) := by decide +kernel
theorem dX7_follow_85 : decode cX7_follow 85 = .ok (.getfield 274, 3) := by decide +kernel
theorem dX7_follow_88 : decode cX7_follow 88 = .ok (.invokevirtual 66, 3) := by decide +kernel
theorem dX7_follow_91 : decode cX7_follow 91 = .ok (.ireturn, 1) := by decide +kernel
theorem dX7_follow_92 : decode cX7_follow 92 = .ok (.aload_n 1, 1) := by decide +kernel
theorem dX7_follow_93 : decode cX7_follow 93 = .ok (.getfield 268, 3) := by decide +kernel
theorem dX7_follow_96 : decode cX7_follow 96 = .ok (.bipush 115, 2) := by decide +kernel
theorem dX7_follow_98 : decode cX7_follow 98 = .ok (.if_icmp .ne 15, 3) := by decide +kernel
theorem dX7_follow_101 : decode cX7_follow 101 = .ok (.aload_n 0, 1) := by decide +kernel
theorem dX7_follow_102 : decode cX7_follow 102 = .ok (.getfield 10, 3) := by decide +kernel
theorem dX7_follow_105 : decode cX7_follow 105 = .ok (.aload_n 1, 1) := by decide +kernel
theorem dX7_follow_106 : decode cX7_follow 106 = .ok (.getfield 274, 3) := by decide +kernel
theorem dX7_follow_109 : decode cX7_follow 109 = .ok (.invokevirtual 69, 3) := by decide +kernel
theorem dX7_follow_112 : decode cX7_follow 112 = .ok (.ireturn, 1) := by decide +kernel
theorem dX7_follow_113 : decode cX7_follow 113 = .ok (.aload_n 0, 1) := by decide +kernel
theorem dX7_follow_114 : decode cX7_follow 114 = .ok (.getfield 10, 3) := by decide +kernel
theorem dX7_follow_117 : decode cX7_follow 117 = .ok (.aload_n 1, 1) := by decide +kernel
theorem dX7_follow_118 : decode cX7_follow 118 = .ok (.getfield 274, 3) := by decide +kernel
theorem dX7_follow_121 : decode cX7_follow 121 = .ok (.invokevirtual 84, 3) := by decide +kernel
theorem dX7_follow_124 : decode cX7_follow 124 = .ok (.ireturn, 1) := by decide +kernel
theorem dX7_within_0 : decode cX7_within 0 = .ok (.iload_n 0, 1) := by decide +kernel
theorem dX7_within_1 : decode cX7_within 1 = .ok (.iload_n 1, 1) := by decide +kernel
theorem dX7_within_2 : decode cX7_within 2 = .ok (.if_icmp .lt 12, 3) := by decide +kernel
theorem dX7_within_5 : decode cX7_within 5 = .ok (.iload_n 0, 1) := by decide +kernel
theorem dX7_within_6 : decode cX7_within 6 = .ok (.iload_n 2, 1) := by decide +kernel
theorem dX7_within_7 : decode cX7_within 7 = .ok (.if_icmp .gt 7, 3) := by decide +kernel
theorem dX7_within_10 : decode cX7_within 10 = .ok (.iconst 1, 1) := by decide +kernel
theorem dX7_within_11 : decode cX7_within 11 = .ok (.goto 4, 3) := by decide +kernel
theorem dX7_within_14 : decode cX7_within 14 = .ok (.iconst 0, 1) := by decide +kernel
theorem dX7_within_15 : decode cX7_within 15 = .ok (.ireturn, 1) := by decide +kernel
theorem dX8_init_0 : decode cX8_init 0 = .ok (.aload_n 0, 1) := by decide +kernel
theorem dX8_init_1 : decode cX8_init 1 = .ok (.invokespecial 1, 3) := by decide +kernel
theorem dX8_init_4 : decode cX8_init 4 = .ok (.aload_n 0, 1) := by decide +kernel
theorem dX8_init_5 : decode cX8_init 5 = .ok (.sipush 491, 3) := by decide +kernel
theorem dX8_init_8 : decode cX8_init 8 = .ok (.newarray .int, 2) := by decide +kernel
theorem dX8_init_10 : decode cX8_init 10 = .ok (.putfield 7, 3) := by decide +kernel
theorem dX8_init_13 : decode cX8_init 13 = .ok (.aload_n 0, 1) := by decide +kernel
theorem dX8_init_14 : decode cX8_init 14 = .ok (.bipush 8, 2) := by decide +kernel
theorem dX8_init_16 : decode cX8_init 16 = .ok (.newarray .float, 2) := by decide +kernel
theorem dX8_init_18 : decode cX8_init 18 = .ok (.putfield 13, 3) := by decide +kernel
theorem dX8_init_21 : decode cX8_init 21 = .ok (.aload_n 0, 1) := by decide +kernel
theorem dX8_init_22 : decode cX8_init 22 = .ok (.bipush 8, 2) := by decide +kernel
theorem dX8_init_24 : decode cX8_init 24 = .ok (.newarray .float, 2) := by decide +kernel
theorem dX8_init_26 : decode cX8_init 26 = .ok (.putfield 17, 3) := by decide +kernel
theorem dX8_init_29 : decode cX8_init 29 = .ok (.aload_n 0, 1) := by decide +kernel
theorem dX8_init_30 : decode cX8_init 30 = .ok (.sipush 2946, 3) := by decide +kernel
theorem dX8_init_33 : decode cX8_init 33 = .ok (.newarray .int, 2) := by decide +kernel
theorem dX8_init_35 : decode cX8_init 35 = .ok (.putfield 20, 3) := by decide +kernel
theorem dX8_init_38 : decode cX8_init 38 = .ok (.aload_n 0, 1) := by decide +kernel
theorem dX8_init_39 : decode cX8_init 39 = .ok (.bipush 48, 2) := by decide +kernel
theorem dX8_init_41 : decode cX8_init 41 = .ok (.newarray .float, 2) := by decide +kernel
theorem dX8_init_43 : decode cX8_init 43 = .ok (.putfield 23, 3) := by decide +kernel
theorem dX8_init_46 : decode cX8_init 46 = .ok (.aload_n 0, 1) := by decide +kernel
theorem dX8_init_47 : decode cX8_init 47 = .ok (.bipush 48, 2) := by decide +kernel
theorem dX8_init_49 : decode cX8_init 49 = .ok (.newarray .float, 2) := by decide +kernel
theorem dX8_init_51 : decode cX8_init 51 = .ok (.putfield 26, 3) := by decide +kernel
theorem dX8_init_54 : decode cX8_init 54 = .ok (.aload_n 0, 1) := by decide +kernel
theorem dX8_init_55 : decode cX8_init 55 = .ok (.bipush 60, 2) := by decide +kernel
theorem dX8_init_57 : decode cX8_init 57 = .ok (.newarray .int, 2) := by decide +kernel
theorem dX8_init_59 : decode cX8_init 59 = .ok (.putfield 29, 3) := by decide +kernel
theorem dX8_init_62 : decode cX8_init 62 = .ok (.return_, 1) := by decide +kernel
theorem dX8_isIn_0 : decode cX8_isIn 0 = .ok (.iload_n 0, 1) := by decide +kernel
theorem dX8_isIn_1 : decode cX8_isIn 1 = .ok (.iload_n 1, 1) := by decide +kernel
theorem dX8_isIn_2 : decode cX8_isIn 2 = .ok (.if_icmp .lt 12, 3) := by decide +kernel
theorem dX8_isIn_5 : decode cX8_isIn 5 = .ok (.iload_n 0, 1) := by decide +kernel
theorem dX8_isIn_6 : decode cX8_isIn 6 = .ok (.iload_n 2, 1) := by decide +kernel
theorem dX8_isIn_7 : decode cX8_isIn 7 = .ok (.if_icmp .gt 7, 3) := by decide +kernel
theorem dX8_isIn_10 : decode cX8_isIn 10 = .ok (.iconst 1, 1) := by decide +kernel
theorem dX8_isIn_11 : decode cX8_isIn 11 = .ok (.goto 4, 3) := by decide +kernel
theorem dX8_isIn_14 : decode cX8_isIn 14 = .ok (.iconst 0, 1) := by decide +kernel
theorem dX8_isIn_15 : decode cX8_isIn 15 = .ok (.ireturn, 1) := by decide +kernel
theorem dX8_of_0 : decode cX8_of 0 = .ok (.aload_n 0, 1) := by decide +kernel
theorem dX8_of_1 : decode cX8_of 1 = .ok (.getfield 7, 3) := by decide +kernel
theorem dX8_of_4 : decode cX8_of 4 = .ok (.iconst 4, 1) := by decide +kernel
theorem dX8_of_5 : decode cX8_of 5 = .ok (.iconst 5, 1) := by decide +kernel
theorem dX8_of_6 : decode cX8_of 6 = .ok (.iload_n 1, 1) := by decide +kernel
theorem dX8_of_7 : decode cX8_of 7 = .ok (.imul, 1) := by decide +kernel
theorem dX8_of_8 : decode cX8_of 8 = .ok (.iadd, 1) := by decide +kernel
theorem dX8_of_9 : decode cX8_of 9 = .ok (.iload_n 2, 1) := by decide +kernel
theorem dX8_of_10 : decode cX8_of 10 = .ok (.iadd, 1) := by decide +kernel
theorem dX8_of_11 : decode cX8_of 11 = .ok (.iaload, 1) := by decide +kernel
theorem dX8_of_12 : decode cX8_of 12 = .ok (.ireturn, 1) := by decide +kernel
theorem dX8_sets_0 : decode cX8_sets 0 = .ok (.aload_n 0, 1) := by decide +kernel
theorem dX8_sets_1 : decode cX8_sets 1 = .ok (.getfield 7, 3) := by decide +kernel
theorem dX8_sets_4 : decode cX8_sets 4 = .ok (.iconst 4, 1) := by decide +kernel
theorem dX8_sets_5 : decode cX8_sets 5 = .ok (.iconst 5, 1) := by decide +kernel
theorem dX8_sets_6 : decode cX8_sets 6 = .ok (.iload_n 1, 1) := by decide +kernel
theorem dX8_sets_7 : decode cX8_sets 7 = .ok (.imul, 1) := by decide +kernel
theorem dX8_sets_8 : decode cX8_sets 8 = .ok (.iadd, 1) := by decide +kernel
theorem dX8_sets_9 : decode cX8_sets 9 = .ok (.iload_n 2, 1) := by decide +kernel
theorem dX8_sets_10 : decode cX8_sets 10 = .ok (.iadd, 1) := by decide +kernel
theorem dX8_sets_11 : decode cX8_sets 11 = .ok (.iload_n 3, 1) := by decide +kernel
theorem dX8_sets_12 : decode cX8_sets 12 = .ok (.iastore, 1) := by decide +kernel
theorem dX8_sets_13 : decode cX8_sets 13 = .ok (.return_, 1) := by decide +kernel
theorem dX8_ofTask_0 : decode cX8_ofTask 0 = .ok (.aload_n 0, 1) := by decide +kernel
theorem dX8_ofTask_1 : decode cX8_ofTask 1 = .ok (.getfield 7, 3) := by decide +kernel
theorem dX8_ofTask_4 : decode cX8_ofTask 4 = .ok (.sipush 251, 3) := by decide +kernel
theorem dX8_ofTask_7 : decode cX8_ofTask 7 = .ok (.bipush 10, 2) := by decide +kernel
theorem dX8_ofTask_9 : decode cX8_ofTask 9 = .ok (.iload_n 1, 1) := by decide +kernel
theorem dX8_ofTask_10 : decode cX8_ofTask 10 = .ok (.imul, 1) := by decide +kernel
theorem dX8_ofTask_11 : decode cX8_ofTask 11 = .ok (.iadd, 1) := by decide +kernel
theorem dX8_ofTask_12 : decode cX8_ofTask 12 = .ok (.iload_n 2, 1) := by decide +kernel
theorem dX8_ofTask_13 : decode cX8_ofTask 13 = .ok (.iadd, 1) := by decide +kernel
theorem dX8_ofTask_14 : decode cX8_ofTask 14 = .ok (.iaload, 1) := by decide +kernel
theorem dX8_ofTask_15 : decode cX8_ofTask 15 = .ok (.ireturn, 1) := by decide +kernel
theorem dX8_setsTask_0 : decode cX8_setsTask 0 = .ok (.aload_n 0, 1) := by decide +kernel
theorem dX8_setsTask_1 : decode cX8_setsTask 1 = .ok (.getfield 7, 3) := by decide +kernel
theorem dX8_setsTask_4 : decode cX8_setsTask 4 = .ok (.sipush 251, 3) := by decide +kernel
theorem dX8_setsTask_7 : decode cX8_setsTask 7 = .ok (.bipush 10, 2) := by decide +kernel
theorem dX8_setsTask_9 : decode cX8_setsTask 9 = .ok (.iload_n 1, 1) := by decide +kernel
theorem dX8_setsTask_10 : decode cX8_setsTask 10 = .ok (.imul, 1) := by decide +kernel
theorem dX8_setsTask_11 : decode cX8_setsTask 11 = .ok (.iadd, 1) := by decide +kernel
theorem dX8_setsTask_12 : decode cX8_setsTask 12 = .ok (.iload_n 2, 1) := by decide +kernel
theorem dX8_setsTask_13 : decode cX8_setsTask 13 = .ok (.iadd, 1) := by decide +kernel
theorem dX8_setsTask_14 : decode cX8_setsTask 14 = .ok (.iload_n 3, 1) := by decide +kernel
theorem dX8_setsTask_15 : decode cX8_setsTask 15 = .ok (.iastore, 1) := by decide +kernel
theorem dX8_setsTask_16 : decode cX8_setsTask 16 = .ok (.return_, 1) := by decide +kernel
theorem dX8_isAsset_0 : decode cX8_isAsset 0 = .ok (.iload_n 1, 1) := by decide +kernel
theorem dX8_isAsset_1 : decode cX8_isAsset 1 = .ok (.iconst 0, 1) := by decide +kernel
theorem dX8_isAsset_2 : decode cX8_isAsset 2 = .ok (.aload_n 0, 1) := by decide +kernel
theorem dX8_isAsset_3 : decode cX8_isAsset 3 = .ok (.getfield 7, 3) := by decide +kernel
theorem dX8_isAsset_6 : decode cX8_isAsset 6 = .ok (.iconst 1, 1) := by decide +kernel
theorem dX8_isAsset_7 : decode cX8_isAsset 7 = .ok (.iaload, 1) := by decide +kernel
theorem dX8_isAsset_8 : decode cX8_isAsset 8 = .ok (.iconst 1, 1) := by decide +kernel
theorem dX8_isAsset_9 : decode cX8_isAsset 9 = .ok (.isub, 1) := by decide +kernel
theorem dX8_isAsset_10 : decode cX8_isAsset 10 = .ok (.invokestatic 32, 3) := by decide +kernel
theorem dX8_isAsset_13 : decode cX8_isAsset 13 = .ok (.ireturn, 1) := by decide +kernel
theorem dX8_isCrew_0 : decode cX8_isCrew 0 = .ok (.iload_n 1, 1) := by decide +kernel
theorem dX8_isCrew_1 : decode cX8_isCrew 1 = .ok (.iconst 0, 1) := by decide +kernel
theorem dX8_isCrew_2 : decode cX8_isCrew 2 = .ok (.aload_n 0, 1) := by decide +kernel
theorem dX8_isCrew_3 : decode cX8_isCrew 3 = .ok (.getfield 7, 3) := by decide +kernel
theorem dX8_isCrew_6 : decode cX8_isCrew 6 = .ok (.iconst 2, 1) := by decide +kernel
theorem dX8_isCrew_7 : decode cX8_isCrew 7 = .ok (.iaload, 1) := by decide +kernel
theorem dX8_isCrew_8 : decode cX8_isCrew 8 = .ok (.iconst 1, 1) := by decide +kernel
theorem dX8_isCrew_9 : decode cX8_isCrew 9 = .ok (.isub, 1) := by decide +kernel
theorem dX8_isCrew_10 : decode cX8_isCrew 10 = .ok (.invokestatic 32, 3) := by decide +kernel
theorem dX8_isCrew_13 : decode cX8_isCrew 13 = .ok (.ireturn, 1) := by decide +kernel
theorem dX8_isTask_0 : decode cX8_isTask 0 = .ok (.iload_n 1, 1) := by decide +kernel
theorem dX8_isTask_1 : decode cX8_isTask 1 = .ok (.iconst 0, 1) := by decide +kernel
theorem dX8_isTask_2 : decode cX8_isTask 2 = .ok (.aload_n 0, 1) := by decide +kernel
theorem dX8_isTask_3 : decode cX8_isTask 3 = .ok (.getfield 7, 3) := by decide +kernel
theorem dX8_isTask_6 : decode cX8_isTask 6 = .ok (.iconst 3, 1) := by decide +kernel
theorem dX8_isTask_7 : decode cX8_isTask 7 = .ok (.iaload, 1) := by decide +kernel
theorem dX8_isTask_8 : decode cX8_isTask 8 = .ok (.iconst 1, 1) := by decide +kernel
theorem dX8_isTask_9 : decode cX8_isTask 9 = .ok (.isub, 1) := by decide +kernel
theorem dX8_isTask_10 : decode cX8_isTask 10 = .ok (.invokestatic 32, 3) := by decide +kernel
theorem dX8_isTask_13 : decode cX8_isTask 13 = .ok (.ireturn, 1) := by decide +kernel
theorem dX8_ones_0 : decode cX8_ones 0 = .ok (.iconst 0, 1) := by decide +kernel
theorem dX8_ones_1 : decode cX8_ones 1 = .ok (.istore_n 1, 1) := by decide +kernel
theorem dX8_ones_2 : decode cX8_ones 2 = .ok (.iconst 0, 1) := by decide +kernel
theorem dX8_ones_3 : decode cX8_ones 3 = .ok (.istore_n 2, 1) := by decide +kernel
theorem dX8_ones_4 : decode cX8_ones 4 = .ok (.iload_n 2, 1) := by decide +kernel
theorem dX8_ones_5 : decode cX8_ones 5 = .ok (.bipush 8, 2) := by decide +kernel
theorem dX8_ones_7 : decode cX8_ones 7 = .ok (.if_icmp .ge 17, 3) := by decide +kernel
theorem dX8_ones_10 : decode cX8_ones 10 = .ok (.iload_n 1, 1) := by decide +kernel
theorem dX8_ones_11 : decode cX8_ones 11 = .ok (.iload_n 0, 1) := by decide +kernel
theorem dX8_ones_12 : decode cX8_ones 12 = .ok (.iload_n 2, 1) := by decide +kernel
theorem dX8_ones_13 : decode cX8_ones 13 = .ok (.ishr, 1) := by decide +kernel
theorem dX8_ones_14 : decode cX8_ones 14 = .ok (.iconst 1, 1) := by decide +kernel
theorem dX8_ones_15 : decode cX8_ones 15 = .ok (.iand, 1) := by decide +kernel
theorem dX8_ones_16 : decode cX8_ones 16 = .ok (.iadd, 1) := by decide +kernel
theorem dX8_ones_17 : decode cX8_ones 17 = .ok (.istore_n 1, 1) := by decide +kernel
theorem dX8_ones_18 : decode cX8_ones 18 = .ok (.iinc 2 1, 3) := by decide +kernel
theorem dX8_ones_21 : decode cX8_ones 21 = .ok (.goto (-17), 3) := by decide +kernel
theorem dX8_ones_24 : decode cX8_ones 24 = .ok (.iload_n 1, 1) := by decide +kernel
theorem dX8_ones_25 : decode cX8_ones 25 = .ok (.ireturn, 1) := by decide +kernel
theorem dX8_keeps_0 : decode cX8_keeps 0 = .ok (.iconst 0, 1) := by decide +kernel
theorem dX8_keeps_1 : decode cX8_keeps 1 = .ok (.istore_n 2, 1) := by decide +kernel
theorem dX8_keeps_2 : decode cX8_keeps 2 = .ok (.iload_n 2, 1) := by decide +kernel
theorem dX8_keeps_3 : decode cX8_keeps 3 = .ok (.sipush 491, 3) := by decide +kernel
theorem dX8_keeps_6 : decode cX8_keeps 6 = .ok (.if_icmp .ge 27, 3) := by decide +kernel
theorem dX8_keeps_9 : decode cX8_keeps 9 = .ok (.aload_n 0, 1) := by decide +kernel
theorem dX8_keeps_10 : decode cX8_keeps 10 = .ok (.getfield 20, 3) := by decide +kernel
theorem dX8_keeps_13 : decode cX8_keeps 13 = .ok (.iload_n 1, 1) := by decide +kernel
theorem dX8_keeps_14 : decode cX8_keeps 14 = .ok (.sipush 491, 3) := by decide +kernel
theorem dX8_keeps_17 : decode cX8_keeps 17 = .ok (.imul, 1) := by decide +kernel
theorem dX8_keeps_18 : decode cX8_keeps 18 = .ok (.iload_n 2, 1) := by decide +kernel
theorem dX8_keeps_19 : decode cX8_keeps 19 = .ok (.iadd, 1) := by decide +kernel
theorem dX8_keeps_20 : decode cX8_keeps 20 = .ok (.aload_n 0, 1) := by decide +kernel
theorem dX8_keeps_21 : decode cX8_keeps 21 = .ok (.getfield 7, 3) := by decide +kernel
theorem dX8_keeps_24 : decode cX8_keeps 24 = .ok (.iload_n 2, 1) := by decide +kernel
theorem dX8_keeps_25 : decode cX8_keeps 25 = .ok (.iaload, 1) := by decide +kernel
theorem dX8_keeps_26 : decode cX8_keeps 26 = .ok (.iastore, 1) := by decide +kernel
theorem dX8_keeps_27 : decode cX8_keeps 27 = .ok (.iinc 2 1, 3) := by decide +kernel
theorem dX8_keeps_30 : decode cX8_keeps 30 = .ok (.goto (-28), 3) := by decide +kernel
theorem dX8_keeps_33 : decode cX8_keeps 33 = .ok (.iconst 0, 1) := by decide +kernel
theorem dX8_keeps_34 : decode cX8_keeps 34 = .ok (.istore_n 2, 1) := by decide +kernel
theorem dX8_keeps_35 : decode cX8_keeps 35 = .ok (.iload_n 2, 1) := by decide +kernel
theorem dX8_keeps_36 : decode cX8_keeps 36 = .ok (.bipush 8, 2) := by decide +kernel
theorem dX8_keeps_38 : decode cX8_keeps 38 = .ok (.if_icmp .ge 43, 3) := by decide +kernel
theorem dX8_keeps_41 : decode cX8_keeps 41 = .ok (.aload_n 0, 1) := by decide +kernel
theorem dX8_keeps_42 : decode cX8_keeps 42 = .ok (.getfield 23, 3) := by decide +kernel
theorem dX8_keeps_45 : decode cX8_keeps 45 = .ok (.bipush 8, 2) := by decide +kernel
theorem dX8_keeps_47 : decode cX8_keeps 47 = .ok (.iload_n 1, 1) := by decide +kernel
theorem dX8_keeps_48 : decode cX8_keeps 48 = .ok (.imul, 1) := by decide +kernel
theorem dX8_keeps_49 : decode cX8_keeps 49 = .ok (.iload_n 2, 1) := by decide +kernel
theorem dX8_keeps_50 : decode cX8_keeps 50 = .ok (.iadd, 1) := by decide +kernel
theorem dX8_keeps_51 : decode cX8_keeps 51 = .ok (.aload_n 0, 1) := by decide +kernel
theorem dX8_keeps_52 : decode cX8_keeps 52 = .ok (.getfield 13, 3) := by decide +kernel
theorem dX8_keeps_55 : decode cX8_keeps 55 = .ok (.iload_n 2, 1) := by decide +kernel
theorem dX8_keeps_56 : decode cX8_keeps 56 = .ok (.faload, 1) := by decide +kernel
theorem dX8_keeps_57 : decode cX8_keeps 57 = .ok (.fastore, 1) := by decide +kernel
theorem dX8_keeps_58 : decode cX8_keeps 58 = .ok (.aload_n 0, 1) := by decide +kernel
theorem dX8_keeps_59 : decode cX8_keeps 59 = .ok (.getfield 26, 3) := by decide +kernel
theorem dX8_keeps_62 : decode cX8_keeps 62 = .ok (.bipush 8, 2) := by decide +kernel
theorem dX8_keeps_64 : decode cX8_keeps 64 = .ok (.iload_n 1, 1) := by decide +kernel
theorem dX8_keeps_65 : decode cX8_keeps 65 = .ok (.imul, 1) := by decide +kernel
theorem dX8_keeps_66 : decode cX8_keeps 66 = .ok (.iload_n 2, 1) := by decide +kernel
theorem dX8_keeps_67 : decode cX8_keeps 67 = .ok (.iadd, 1) := by decide +kernel
theorem dX8_keeps_68 : decode cX8_keeps 68 = .ok (.aload_n 0, 1) := by decide +kernel
theorem dX8_keeps_69 : decode cX8_keeps 69 = .ok (.getfield 17, 3) := by decide +kernel
theorem dX8_keeps_72 : decode cX8_keeps 72 = .ok (.iload_n 2, 1) := by decide +kernel
theorem dX8_keeps_73 : decode cX8_keeps 73 = .ok (.faload, 1) := by decide +kernel
theorem dX8_keeps_74 : decode cX8_keeps 74 = .ok (.fastore, 1) := by decide +kernel
theorem dX8_keeps_75 : decode cX8_keeps 75 = .ok (.iinc 2 1, 3) := by decide +kernel
theorem dX8_keeps_78 : decode cX8_keeps 78 = .ok (.goto (-43), 3) := by decide +kernel
theorem dX8_keeps_81 : decode cX8_keeps 81 = .ok (.return_, 1) := by decide +kernel
theorem dX8_brings_0 : decode cX8_brings 0 = .ok (.iconst 0, 1) := by decide +kernel
theorem dX8_brings_1 : decode cX8_brings 1 = .ok (.istore_n 2, 1) := by decide +kernel
theorem dX8_brings_2 : decode cX8_brings 2 = .ok (.iload_n 2, 1) := by decide +kernel
theorem dX8_brings_3 : decode cX8_brings 3 = .ok (.sipush 491, 3) := by decide +kernel
theorem dX8_brings_6 : decode cX8_brings 6 = .ok (.if_icmp .ge 27, 3) := by decide +kernel
theorem dX8_brings_9 : decode cX8_brings 9 = .ok (.aload_n 0, 1) := by decide +kernel
theorem dX8_brings_10 : decode cX8_brings 10 = .ok (.getfield 7, 3) := by decide +kernel
theorem dX8_brings_13 : decode cX8_brings 13 = .ok (.iload_n 2, 1) := by decide +kernel
theorem dX8_brings_14 : decode cX8_brings 14 = .ok (.aload_n 0, 1) := by decide +kernel
theorem dX8_brings_15 : decode cX8_brings 15 = .ok (.getfield 20, 3) := by decide +kernel
theorem dX8_brings_18 : decode cX8_brings 18 = .ok (.iload_n 1, 1) := by decide +kernel
theorem dX8_brings_19 : decode cX8_brings 19 = .ok (.sipush 491, 3) := by decide +kernel
theorem dX8_brings_22 : decode cX8_brings 22 = .ok (.imul, 1) := by decide +kernel
theorem dX8_brings_23 : decode cX8_brings 23 = .ok (.iload_n 2, 1) := by decide +kernel
theorem dX8_brings_24 : decode cX8_brings 24 = .ok (.iadd, 1) := by decide +kernel
theorem dX8_brings_25 : decode cX8_brings 25 = .ok (.iaload, 1) := by decide +kernel
theorem dX8_brings_26 : decode cX8_brings 26 = .ok (.iastore, 1) := by decide +kernel
theorem dX8_brings_27 : decode cX8_brings 27 = .ok (.iinc 2 1, 3) := by decide +kernel
theorem dX8_brings_30 : decode cX8_brings 30 = .ok (.goto (-28), 3) := by decide +kernel
theorem dX8_brings_33 : decode cX8_brings 33 = .ok (.iconst 0, 1) := by decide +kernel
theorem dX8_brings_34 : decode cX8_brings 34 = .ok (.istore_n 2, 1) := by decide +kernel
theorem dX8_brings_35 : decode cX8_brings 35 = .ok (.iload_n 2, 1) := by decide +kernel
theorem dX8_brings_36 : decode cX8_brings 36 = .ok (.bipush 8, 2) := by decide +kernel
theorem dX8_brings_38 : decode cX8_brings 38 = .ok (.if_icmp .ge 43, 3) := by decide +kernel
theorem dX8_brings_41 : decode cX8_brings 41 = .ok (.aload_n 0, 1) := by decide +kernel
theorem dX8_brings_42 : decode cX8_brings 42 = .ok (.getfield 13, 3) := by decide +kernel
theorem dX8_brings_45 : decode cX8_brings 45 = .ok (.iload_n 2, 1) := by decide +kernel
theorem dX8_brings_46 : decode cX8_brings 46 = .ok (.aload_n 0, 1) := by decide +kernel
theorem dX8_brings_47 : decode cX8_brings 47 = .ok (.getfield 23, 3) := by decide +kernel
theorem dX8_brings_50 : decode cX8_brings 50 = .ok (.bipush 8, 2) := by decide +kernel
theorem dX8_brings_52 : decode cX8_brings 52 = .ok (.iload_n 1, 1) := by decide +kernel
theorem dX8_brings_53 : decode cX8_brings 53 = .ok (.imul, 1) := by decide +kernel
theorem dX8_brings_54 : decode cX8_brings 54 = .ok (.iload_n 2, 1) := by decide +kernel
theorem dX8_brings_55 : decode cX8_brings 55 = .ok (.iadd, 1) := by decide +kernel
theorem dX8_brings_56 : decode cX8_brings 56 = .ok (.faload, 1) := by decide +kernel
theorem dX8_brings_57 : decode cX8_brings 57 = .ok (.fastore, 1) := by decide +kernel
theorem dX8_brings_58 : decode cX8_brings 58 = .ok (.aload_n 0, 1) := by decide +kernel
theorem dX8_brings_59 : decode cX8_brings 59 = .ok (.getfield 17, 3) := by decide +kernel
theorem dX8_brings_62 : decode cX8_brings 62 = .ok (.iload_n 2, 1) := by decide +kernel
theorem dX8_brings_63 : decode cX8_brings 63 = .ok (.aload_n 0, 1) := by decide +kernel
theorem dX8_brings_64 : decode cX8_brings 64 = .ok (.getfield 26, 3) := by decide +kernel
theorem dX8_brings_67 : decode cX8_brings 67 = .ok (.bipush 8, 2) := by decide +kernel
theorem dX8_brings_69 : decode cX8_brings 69 = .ok (.iload_n 1, 1) := by decide +kernel
theorem dX8_brings_70 : decode cX8_brings 70 = .ok (.imul, 1) := by decide +kernel
theorem dX8_brings_71 : decode cX8_brings 71 = .ok (.iload_n 2, 1) := by decide +kernel
theorem dX8_brings_72 : decode cX8_brings 72 = .ok (.iadd, 1) := by decide +kernel
theorem dX8_brings_73 : decode cX8_brings 73 = .ok (.faload, 1) := by decide +kernel
theorem dX8_brings_74 : decode cX8_brings 74 = .ok (.fastore, 1) := by decide +kernel
theorem dX8_brings_75 : decode cX8_brings 75 = .ok (.iinc 2 1, 3) := by decide +kernel
theorem dX8_brings_78 : decode cX8_brings 78 = .ok (.goto (-43), 3) := by decide +kernel
theorem dX8_brings_81 : decode cX8_brings 81 = .ok (.return_, 1) := by decide +kernel
theorem dX8_copies_0 : decode cX8_copies 0 = .ok (.iconst 0, 1) := by decide +kernel
theorem dX8_copies_1 : decode cX8_copies 1 = .ok (.istore_n 3, 1) := by decide +kernel
theorem dX8_copies_2 : decode cX8_copies 2 = .ok (.iload_n 3, 1) := by decide +kernel
theorem dX8_copies_3 : decode cX8_copies 3 = .ok (.sipush 491, 3) := by decide +kernel
theorem dX8_copies_6 : decode cX8_copies 6 = .ok (.if_icmp .ge 33, 3) := by decide +kernel
theorem dX8_copies_9 : decode cX8_copies 9 = .ok (.aload_n 0, 1) := by decide +kernel
theorem dX8_copies_10 : decode cX8_copies 10 = .ok (.getfield 20, 3) := by decide +kernel
theorem dX8_copies_13 : decode cX8_copies 13 = .ok (.iload_n 2, 1) := by decide +kernel
theorem dX8_copies_14 : decode cX8_copies 14 = .ok (.sipush 491, 3) := by decide +kernel
theorem dX8_copies_17 : decode cX8_copies 17 = .ok (.imul, 1) := by decide +kernel
theorem dX8_copies_18 : decode cX8_copies 18 = .ok (.iload_n 3, 1) := by decide +kernel
theorem dX8_copies_19 : decode cX8_copies 19 = .ok (.iadd, 1) := by decide +kernel
theorem dX8_copies_20 : decode cX8_copies 20 = .ok (.aload_n 0, 1) := by decide +kernel
theorem dX8_copies_21 : decode cX8_copies 21 = .ok (.getfield 20, 3) := by decide +kernel
theorem dX8_copies_24 : decode cX8_copies 24 = .ok (.iload_n 1, 1) := by decide +kernel
theorem dX8_copies_25 : decode cX8_copies 25 = .ok (.sipush 491, 3) := by decide +kernel
theorem dX8_copies_28 : decode cX8_copies 28 = .ok (.imul, 1) := by decide +kernel
theorem dX8_copies_29 : decode cX8_copies 29 = .ok (.iload_n 3, 1) := by decide +kernel
theorem dX8_copies_30 : decode cX8_copies 30 = .ok (.iadd, 1) := by decide +kernel
theorem dX8_copies_31 : decode cX8_copies 31 = .ok (.iaload, 1) := by decide +kernel
theorem dX8_copies_32 : decode cX8_copies 32 = .ok (.iastore, 1) := by decide +kernel
theorem dX8_copies_33 : decode cX8_copies 33 = .ok (.iinc 3 1, 3) := by decide +kernel
theorem dX8_copies_36 : decode cX8_copies 36 = .ok (.goto (-34), 3) := by decide +kernel
theorem dX8_copies_39 : decode cX8_copies 39 = .ok (.iconst 0, 1) := by decide +kernel
theorem dX8_copies_40 : decode cX8_copies 40 = .ok (.istore_n 3, 1) := by decide +kernel
theorem dX8_copies_41 : decode cX8_copies 41 = .ok (.iload_n 3, 1) := by decide +kernel
theorem dX8_copies_42 : decode cX8_copies 42 = .ok (.bipush 8, 2) := by decide +kernel
theorem dX8_copies_44 : decode cX8_copies 44 = .ok (.if_icmp .ge 53, 3) := by decide +kernel
theorem dX8_copies_47 : decode cX8_copies 47 = .ok (.aload_n 0, 1) := by decide +kernel
theorem dX8_copies_48 : decode cX8_copies 48 = .ok (.getfield 23, 3) := by decide +kernel
theorem dX8_copies_51 : decode cX8_copies 51 = .ok (.bipush 8, 2) := by decide +kernel
theorem dX8_copies_53 : decode cX8_copies 53 = .ok (.iload_n 2, 1) := by decide +kernel
theorem dX8_copies_54 : decode cX8_copies 54 = .ok (.imul, 1) := by decide +kernel
theorem dX8_copies_55 : decode cX8_copies 55 = .ok (.iload_n 3, 1) := by decide +kernel
theorem dX8_copies_56 : decode cX8_copies 56 = .ok (.iadd, 1) := by decide +kernel
theorem dX8_copies_57 : decode cX8_copies 57 = .ok (.aload_n 0, 1) := by decide +kernel
theorem dX8_copies_58 : decode cX8_copies 58 = .ok (.getfield 23, 3) := by decide +kernel
theorem dX8_copies_61 : decode cX8_copies 61 = .ok (.bipush 8, 2) := by decide +kernel
theorem dX8_copies_63 : decode cX8_copies 63 = .ok (.iload_n 1, 1) := by decide +kernel
theorem dX8_copies_64 : decode cX8_copies 64 = .ok (.imul, 1) := by decide +kernel
theorem dX8_copies_65 : decode cX8_copies 65 = .ok (.iload_n 3, 1) := by decide +kernel
theorem dX8_copies_66 : decode cX8_copies 66 = .ok (.iadd, 1) := by decide +kernel
theorem dX8_copies_67 : decode cX8_copies 67 = .ok (.faload, 1) := by decide +kernel
theorem dX8_copies_68 : decode cX8_copies 68 = .ok (.fastore, 1) := by decide +kernel
theorem dX8_copies_69 : decode cX8_copies 69 = .ok (.aload_n 0, 1) := by decide +kernel
theorem dX8_copies_70 : decode cX8_copies 70 = .ok (.getfield 26, 3) := by decide +kernel
theorem dX8_copies_73 : decode cX8_copies 73 = .ok (.bipush 8, 2) := by decide +kernel
theorem dX8_copies_75 : decode cX8_copies 75 = .ok (.iload_n 2, 1) := by decide +kernel
theorem dX8_copies_76 : decode cX8_copies 76 = .ok (.imul, 1) := by decide +kernel
theorem dX8_copies_77 : decode cX8_copies 77 = .ok (.iload_n 3, 1) := by decide +kernel
theorem dX8_copies_78 : decode cX8_copies 78 = .ok (.iadd, 1) := by decide +kernel
theorem dX8_copies_79 : decode cX8_copies 79 = .ok (.aload_n 0, 1) := by decide +kernel
theorem dX8_copies_80 : decode cX8_copies 80 = .ok (.getfield 26, 3) := by decide +kernel
theorem dX8_copies_83 : decode cX8_copies 83 = .ok (.bipush 8, 2) := by decide +kernel
theorem dX8_copies_85 : decode cX8_copies 85 = .ok (.iload_n 1, 1) := by decide +kernel
theorem dX8_copies_86 : decode cX8_copies 86 = .ok (.imul, 1) := by decide +kernel
theorem dX8_copies_87 : decode cX8_copies 87 = .ok (.iload_n 3, 1) := by decide +kernel
theorem dX8_copies_88 : decode cX8_copies 88 = .ok (.iadd, 1) := by decide +kernel
theorem dX8_copies_89 : decode cX8_copies 89 = .ok (.faload, 1) := by decide +kernel
theorem dX8_copies_90 : decode cX8_copies 90 = .ok (.fastore, 1) := by decide +kernel
theorem dX8_copies_91 : decode cX8_copies 91 = .ok (.iinc 3 1, 3) := by decide +kernel
theorem dX8_copies_94 : decode cX8_copies 94 = .ok (.goto (-53), 3) := by decide +kernel
theorem dX8_copies_97 : decode cX8_copies 97 = .ok (.return_, 1) := by decide +kernel
theorem dX8_recordsTrial_0 : decode cX8_recordsTrial 0 = .ok (.aload_n 0, 1) := by decide +kernel
theorem dX8_recordsTrial_1 : decode cX8_recordsTrial 1 = .ok (.getfield 36, 3) := by decide +kernel
theorem dX8_recordsTrial_4 : decode cX8_recordsTrial 4 = .ok (.iconst 4, 1) := by decide +kernel
theorem dX8_recordsTrial_5 : decode cX8_recordsTrial 5 = .ok (.if_icmp .ne 34, 3) := by decide +kernel
theorem dX8_recordsTrial_8 : decode cX8_recordsTrial 8 = .ok (.iconst 1, 1) := by decide +kernel
theorem dX8_recordsTrial_9 : decode cX8_recordsTrial 9 = .ok (.istore_n 1, 1) := by decide +kernel
theorem dX8_recordsTrial_10 : decode cX8_recordsTrial 10 = .ok (.iload_n 1, 1) := by decide +kernel
theorem dX8_recordsTrial_11 : decode cX8_recordsTrial 11 = .ok (.iconst 4, 1) := by decide +kernel
theorem dX8_recordsTrial_12 : decode cX8_recordsTrial 12 = .ok (.if_icmp .ge 17, 3) := by decide +kernel
theorem dX8_recordsTrial_15 : decode cX8_recordsTrial 15 = .ok (.aload_n 0, 1) := by decide +kernel
theorem dX8_recordsTrial_16 : decode cX8_recordsTrial 16 = .ok (.iload_n 1, 1) := by decide +kernel
theorem dX8_recordsTrial_17 : decode cX8_recordsTrial 17 = .ok (.iload_n 1, 1) := by decide +kernel
theorem dX8_recordsTrial_18 : decode cX8_recordsTrial 18 = .ok (.iconst 1, 1) := by decide +kernel
theorem dX8_recordsTrial_19 : decode cX8_recordsTrial 19 = .ok (.isub, 1) := by decide +kernel
theorem dX8_recordsTrial_20 : decode cX8_recordsTrial 20 = .ok (.invokevirtual 40, 3) := by decide +kernel
theorem dX8_recordsTrial_23 : decode cX8_recordsTrial 23 = .ok (.iinc 1 1, 3) := by decide +kernel
theorem dX8_recordsTrial_26 : decode cX8_recordsTrial 26 = .ok (.goto (-16), 3) := by decide +kernel
theorem dX8_recordsTrial_29 : decode cX8_recordsTrial 29 = .ok (.aload_n 0, 1) := by decide +kernel
theorem dX8_recordsTrial_30 : decode cX8_recordsTrial 30 = .ok (.dup, 1) := by decide +kernel
theorem dX8_recordsTrial_31 : decode cX8_recordsTrial 31 = .ok (.getfield 36, 3) := by decide +kernel
theorem dX8_recordsTrial_34 : decode cX8_recordsTrial 34 = .ok (.iconst 1, 1) := by decide +kernel
theorem dX8_recordsTrial_35 : decode cX8_recordsTrial 35 = .ok (.isub, 1) := by decide +kernel
theorem dX8_recordsTrial_36 : decode cX8_recordsTrial 36 = .ok (.putfield 36, 3) := by decide +kernel
theorem dX8_recordsTrial_39 : decode cX8_recordsTrial 39 = .ok (.aload_n 0, 1) := by decide +kernel
theorem dX8_recordsTrial_40 : decode cX8_recordsTrial 40 = .ok (.iconst 5, 1) := by decide +kernel
theorem dX8_recordsTrial_41 : decode cX8_recordsTrial 41 = .ok (.aload_n 0, 1) := by decide +kernel
theorem dX8_recordsTrial_42 : decode cX8_recordsTrial 42 = .ok (.getfield 36, 3) := by decide +kernel
theorem dX8_recordsTrial_45 : decode cX8_recordsTrial 45 = .ok (.invokevirtual 40, 3) := by decide +kernel
theorem dX8_recordsTrial_48 : decode cX8_recordsTrial 48 = .ok (.aload_n 0, 1) := by decide +kernel
theorem dX8_recordsTrial_49 : decode cX8_recordsTrial 49 = .ok (.dup, 1) := by decide +kernel
theorem dX8_recordsTrial_50 : decode cX8_recordsTrial 50 = .ok (.getfield 36, 3) := by decide +kernel
theorem dX8_recordsTrial_53 : decode cX8_recordsTrial 53 = .ok (.iconst 1, 1) := by decide +kernel
theorem dX8_recordsTrial_54 : decode cX8_recordsTrial 54 = .ok (.iadd, 1) := by decide +kernel
theorem dX8_recordsTrial_55 : decode cX8_recordsTrial 55 = .ok (.putfield 36, 3) := by decide +kernel
theorem dX8_recordsTrial_58 : decode cX8_recordsTrial 58 = .ok (.return_, 1) := by decide +kernel
theorem dX8_records_0 : decode cX8_records 0 = .ok (.aload_n 0, 1) := by decide +kernel
theorem dX8_records_1 : decode cX8_records 1 = .ok (.iconst 5, 1) := by decide +kernel
theorem dX8_records_2 : decode cX8_records 2 = .ok (.invokevirtual 44, 3) := by decide +kernel
theorem dX8_records_5 : decode cX8_records 5 = .ok (.aload_n 0, 1) := by decide +kernel
theorem dX8_records_6 : decode cX8_records 6 = .ok (.invokevirtual 48, 3) := by decide +kernel
theorem dX8_records_9 : decode cX8_records 9 = .ok (.return_, 1) := by decide +kernel
theorem dX8_undo_0 : decode cX8_undo 0 = .ok (.aload_n 0, 1) := by decide +kernel
theorem dX8_undo_1 : decode cX8_undo 1 = .ok (.getfield 36, 3) := by decide +kernel
theorem dX8_undo_4 : decode cX8_undo 4 = .ok (.ifCond .ne 6, 3) := by decide +kernel
theorem dX8_undo_7 : decode cX8_undo 7 = .ok (.bipush (-5), 2) := by decide +kernel
theorem dX8_undo_9 : decode cX8_undo 9 = .ok (.ireturn, 1) := by decide +kernel
theorem dX8_undo_10 : decode cX8_undo 10 = .ok (.aload_n 0, 1) := by decide +kernel
theorem dX8_undo_11 : decode cX8_undo 11 = .ok (.dup, 1) := by decide +kernel
theorem dX8_undo_12 : decode cX8_undo 12 = .ok (.getfield 36, 3) := by decide +kernel
theorem dX8_undo_15 : decode cX8_undo 15 = .ok (.iconst 1, 1) := by decide +kernel
theorem dX8_undo_16 : decode cX8_undo 16 = .ok (.isub, 1) := by decide +kernel
theorem dX8_undo_17 : decode cX8_undo 17 = .ok (.putfield 36, 3) := by decide +kernel
theorem dX8_undo_20 : decode cX8_undo 20 = .ok (.aload_n 0, 1) := by decide +kernel
theorem dX8_undo_21 : decode cX8_undo 21 = .ok (.aload_n 0, 1) := by decide +kernel
theorem dX8_undo_22 : decode cX8_undo 22 = .ok (.getfield 36, 3) := by decide +kernel
theorem dX8_undo_25 : decode cX8_undo 25 = .ok (.invokevirtual 51, 3) := by decide +kernel
theorem dX8_undo_28 : decode cX8_undo 28 = .ok (.aload_n 0, 1) := by decide +kernel
theorem dX8_undo_29 : decode cX8_undo 29 = .ok (.getfield 36, 3) := by decide +kernel
theorem dX8_undo_32 : decode cX8_undo 32 = .ok (.ireturn, 1) := by decide +kernel
theorem dX8_keep_0 : decode cX8_keep 0 = .ok (.aload_n 0, 1) := by decide +kernel
theorem dX8_keep_1 : decode cX8_keep 1 = .ok (.iconst 4, 1) := by decide +kernel
theorem dX8_keep_2 : decode cX8_keep 2 = .ok (.invokevirtual 44, 3) := by decide +kernel
theorem dX8_keep_5 : decode cX8_keep 5 = .ok (.aload_n 0, 1) := by decide +kernel
theorem dX8_keep_6 : decode cX8_keep 6 = .ok (.iconst 1, 1) := by decide +kernel
theorem dX8_keep_7 : decode cX8_keep 7 = .ok (.putfield 54, 3) := by decide +kernel
theorem dX8_keep_10 : decode cX8_keep 10 = .ok (.aload_n 0, 1) := by decide +kernel
theorem dX8_keep_11 : decode cX8_keep 11 = .ok (.getfield 7, 3) := by decide +kernel
theorem dX8_keep_14 : decode cX8_keep 14 = .ok (.iconst 0, 1) := by decide +kernel
theorem dX8_keep_15 : decode cX8_keep 15 = .ok (.iaload, 1) := by decide +kernel
theorem dX8_keep_16 : decode cX8_keep 16 = .ok (.ireturn, 1) := by decide +kernel
theorem dX8_restore_0 : decode cX8_restore 0 = .ok (.aload_n 0, 1) := by decide +kernel
theorem dX8_restore_1 : decode cX8_restore 1 = .ok (.getfield 54, 3) := by decide +kernel
theorem dX8_restore_4 : decode cX8_restore 4 = .ok (.ifCond .ne 6, 3) := by decide +kernel
theorem dX8_restore_7 : decode cX8_restore 7 = .ok (.bipush (-5), 2) := by decide +kernel
theorem dX8_restore_9 : decode cX8_restore 9 = .ok (.ireturn, 1) := by decide +kernel
theorem dX8_restore_10 : decode cX8_restore 10 = .ok (.aload_n 0, 1) := by decide +kernel
theorem dX8_restore_11 : decode cX8_restore 11 = .ok (.invokevirtual 58, 3) := by decide +kernel
theorem dX8_restore_14 : decode cX8_restore 14 = .ok (.aload_n 0, 1) := by decide +kernel
theorem dX8_restore_15 : decode cX8_restore 15 = .ok (.iconst 4, 1) := by decide +kernel
theorem dX8_restore_16 : decode cX8_restore 16 = .ok (.invokevirtual 51, 3) := by decide +kernel
theorem dX8_restore_19 : decode cX8_restore 19 = .ok (.aload_n 0, 1) := by decide +kernel
theorem dX8_restore_20 : decode cX8_restore 20 = .ok (.getfield 7, 3) := by decide +kernel
theorem dX8_restore_23 : decode cX8_restore 23 = .ok (.iconst 0, 1) := by decide +kernel
theorem dX8_restore_24 : decode cX8_restore 24 = .ok (.iaload, 1) := by decide +kernel
theorem dX8_restore_25 : decode cX8_restore 25 = .ok (.ireturn, 1) := by decide +kernel
theorem dX8_addAsset_0 : decode cX8_addAsset 0 = .ok (.iload_n 1, 1) := by decide +kernel
theorem dX8_addAsset_1 : decode cX8_addAsset 1 = .ok (.iconst 1, 1) := by decide +kernel
theorem dX8_addAsset_2 : decode cX8_addAsset 2 = .ok (.bipush 100, 2) := by decide +kernel
theorem dX8_addAsset_4 : decode cX8_addAsset 4 = .ok (.invokestatic 32, 3) := by decide +kernel
theorem dX8_addAsset_7 : decode cX8_addAsset 7 = .ok (.ifCond .eq 14, 3) := by decide +kernel
theorem dX8_addAsset_10 : decode cX8_addAsset 10 = .ok (.iload_n 2, 1) := by decide +kernel
theorem dX8_addAsset_11 : decode cX8_addAsset 11 = .ok (.iconst 1, 1) := by decide +kernel
theorem dX8_addAsset_12 : decode cX8_addAsset 12 = .ok (.sipush 200, 3) := by decide +kernel
theorem dX8_addAsset_15 : decode cX8_addAsset 15 = .ok (.invokestatic 32, 3) := by decide +kernel
theorem dX8_addAsset_18 : decode cX8_addAsset 18 = .ok (.ifCond .ne 6, 3) := by decide +kernel
theorem dX8_addAsset_21 : decode cX8_addAsset 21 = .ok (.bipush (-2), 2) := by decide +kernel
theorem dX8_addAsset_23 : decode cX8_addAsset 23 = .ok (.ireturn, 1) := by decide +kernel
theorem dX8_addAsset_24 : decode cX8_addAsset 24 = .ok (.aload_n 0, 1) := by decide +kernel
theorem dX8_addAsset_25 : decode cX8_addAsset 25 = .ok (.getfield 7, 3) := by decide +kernel
theorem dX8_addAsset_28 : decode cX8_addAsset 28 = .ok (.iconst 1, 1) := by decide +kernel
theorem dX8_addAsset_29 : decode cX8_addAsset 29 = .ok (.iaload, 1) := by decide +kernel
theorem dX8_addAsset_30 : decode cX8_addAsset 30 = .ok (.bipush 8, 2) := by decide +kernel
theorem dX8_addAsset_32 : decode cX8_addAsset 32 = .ok (.if_icmp .ne 6, 3) := by decide +kernel
theorem dX8_addAsset_35 : decode cX8_addAsset 35 = .ok (.bipush (-3), 2) := by decide +kernel
theorem dX8_addAsset_37 : decode cX8_addAsset 37 = .ok (.ireturn, 1) := by decide +kernel
theorem dX8_addAsset_38 : decode cX8_addAsset 38 = .ok (.aload_n 0, 1) := by decide +kernel
theorem dX8_addAsset_39 : decode cX8_addAsset 39 = .ok (.invokevirtual 58, 3) := by decide +kernel
theorem dX8_addAsset_42 : decode cX8_addAsset 42 = .ok (.aload_n 0, 1) := by decide +kernel
theorem dX8_addAsset_43 : decode cX8_addAsset 43 = .ok (.getfield 7, 3) := by decide +kernel
theorem dX8_addAsset_46 : decode cX8_addAsset 46 = .ok (.iconst 1, 1) := by decide +kernel
theorem dX8_addAsset_47 : decode cX8_addAsset 47 = .ok (.iaload, 1) := by decide +kernel
theorem dX8_addAsset_48 : decode cX8_addAsset 48 = .ok (.istore_n 3, 1) := by decide +kernel
theorem dX8_addAsset_49 : decode cX8_addAsset 49 = .ok (.aload_n 0, 1) := by decide +kernel
theorem dX8_addAsset_50 : decode cX8_addAsset 50 = .ok (.getfield 7, 3) := by decide +kernel
theorem dX8_addAsset_53 : decode cX8_addAsset 53 = .ok (.iconst 1, 1) := by decide +kernel
theorem dX8_addAsset_54 : decode cX8_addAsset 54 = .ok (.dup2, 1) := by decide +kernel
theorem dX8_addAsset_55 : decode cX8_addAsset 55 = .ok (.iaload, 1) := by decide +kernel
theorem dX8_addAsset_56 : decode cX8_addAsset 56 = .ok (.iconst 1, 1) := by decide +kernel
theorem dX8_addAsset_57 : decode cX8_addAsset 57 = .ok (.iadd, 1) := by decide +kernel
theorem dX8_addAsset_58 : decode cX8_addAsset 58 = .ok (.iastore, 1) := by decide +kernel
theorem dX8_addAsset_59 : decode cX8_addAsset 59 = .ok (.aload_n 0, 1) := by decide +kernel
theorem dX8_addAsset_60 : decode cX8_addAsset 60 = .ok (.iload_n 3, 1) := by decide +kernel
theorem dX8_addAsset_61 : decode cX8_addAsset 61 = .ok (.iconst 0, 1) := by decide +kernel
theorem dX8_addAsset_62 : decode cX8_addAsset 62 = .ok (.iload_n 1, 1) := by decide +kernel
theorem dX8_addAsset_63 : decode cX8_addAsset 63 = .ok (.invokevirtual 61, 3) := by decide +kernel
theorem dX8_addAsset_66 : decode cX8_addAsset 66 = .ok (.aload_n 0, 1) := by decide +kernel
theorem dX8_addAsset_67 : decode cX8_addAsset 67 = .ok (.iload_n 3, 1) := by decide +kernel
theorem dX8_addAsset_68 : decode cX8_addAsset 68 = .ok (.iconst 1, 1) := by decide +kernel
theorem dX8_addAsset_69 : decode cX8_addAsset 69 = .ok (.iload_n 2, 1) := by decide +kernel
theorem dX8_addAsset_70 : decode cX8_addAsset 70 = .ok (.invokevirtual 61, 3) := by decide +kernel
theorem dX8_addAsset_73 : decode cX8_addAsset 73 = .ok (.aload_n 0, 1) := by decide +kernel
theorem dX8_addAsset_74 : decode cX8_addAsset 74 = .ok (.iload_n 3, 1) := by decide +kernel
theorem dX8_addAsset_75 : decode cX8_addAsset 75 = .ok (.iconst 2, 1) := by decide +kernel
theorem dX8_addAsset_76 : decode cX8_addAsset 76 = .ok (.iconst 0, 1) := by decide +kernel
theorem dX8_addAsset_77 : decode cX8_addAsset 77 = .ok (.invokevirtual 61, 3) := by decide +kernel
theorem dX8_addAsset_80 : decode cX8_addAsset 80 = .ok (.aload_n 0, 1) := by decide +kernel
theorem dX8_addAsset_81 : decode cX8_addAsset 81 = .ok (.iload_n 3, 1) := by decide +kernel
theorem dX8_addAsset_82 : decode cX8_addAsset 82 = .ok (.iconst 3, 1) := by decide +kernel
theorem dX8_addAsset_83 : decode cX8_addAsset 83 = .ok (.iconst 0, 1) := by decide +kernel
theorem dX8_addAsset_84 : decode cX8_addAsset 84 = .ok (.invokevirtual 61, 3) := by decide +kernel
theorem dX8_addAsset_87 : decode cX8_addAsset 87 = .ok (.aload_n 0, 1) := by decide +kernel
theorem dX8_addAsset_88 : decode cX8_addAsset 88 = .ok (.iload_n 3, 1) := by decide +kernel
theorem dX8_addAsset_89 : decode cX8_addAsset 89 = .ok (.iconst 4, 1) := by decide +kernel
theorem dX8_addAsset_90 : decode cX8_addAsset 90 = .ok (.iconst 0, 1) := by decide +kernel
theorem dX8_addAsset_91 : decode cX8_addAsset 91 = .ok (.invokevirtual 61, 3) := by decide +kernel
theorem dX8_addAsset_94 : decode cX8_addAsset 94 = .ok (.aload_n 0, 1) := by decide +kernel
theorem dX8_addAsset_95 : decode cX8_addAsset 95 = .ok (.getfield 13, 3) := by decide +kernel
theorem dX8_addAsset_98 : decode cX8_addAsset 98 = .ok (.iload_n 3, 1) := by decide +kernel
theorem dX8_addAsset_99 : decode cX8_addAsset 99 = .ok (.fconst 1, 1) := by decide +kernel
theorem dX8_addAsset_100 : decode cX8_addAsset 100 = .ok (.fastore, 1) := by decide +kernel
theorem dX8_addAsset_101 : decode cX8_addAsset 101 = .ok (.aload_n 0, 1) := by decide +kernel
theorem dX8_addAsset_102 : decode cX8_addAsset 102 = .ok (.getfield 17, 3) := by decide +kernel
theorem dX8_addAsset_105 : decode cX8_addAsset 105 = .ok (.iload_n 3, 1) := by decide +kernel
theorem dX8_addAsset_106 : decode cX8_addAsset 106 = .ok (.fconst 0, 1) := by decide +kernel
theorem dX8_addAsset_107 : decode cX8_addAsset 107 = .ok (.fastore, 1) := by decide +kernel
theorem dX8_addAsset_108 : decode cX8_addAsset 108 = .ok (.iload_n 3, 1) := by decide +kernel
theorem dX8_addAsset_109 : decode cX8_addAsset 109 = .ok (.ireturn, 1) := by decide +kernel
theorem dX8_link_0 : decode cX8_link 0 = .ok (.aload_n 0, 1) := by decide +kernel
theorem dX8_link_1 : decode cX8_link 1 = .ok (.iload_n 1, 1) := by decide +kernel
theorem dX8_link_2 : decode cX8_link 2 = .ok (.invokevirtual 65, 3) := by decide +kernel
theorem dX8_link_5 : decode cX8_link 5 = .ok (.ifCond .eq 11, 3) := by decide +kernel
theorem dX8_link_8 : decode cX8_link 8 = .ok (.aload_n 0, 1) := by decide +kernel
theorem dX8_link_9 : decode cX8_link 9 = .ok (.iload_n 2, 1) := by decide +kernel
theorem dX8_link_10 : decode cX8_link 10 = .ok (.invokevirtual 65, 3) := by decide +kernel
theorem dX8_link_13 : decode cX8_link 13 = .ok (.ifCond .ne 5, 3) := by decide +kernel
theorem dX8_link_16 : decode cX8_link 16 = .ok (.iconst (-1), 1) := by decide +kernel
theorem dX8_link_17 : decode cX8_link 17 = .ok (.ireturn, 1) := by decide +kernel
theorem dX8_link_18 : decode cX8_link 18 = .ok (.iload_n 1, 1) := by decide +kernel
theorem dX8_link_19 : decode cX8_link 19 = .ok (.iload_n 2, 1) := by decide +kernel
theorem dX8_link_20 : decode cX8_link 20 = .ok (.if_icmp .ne 6, 3) := by decide +kernel
theorem dX8_link_23 : decode cX8_link 23 = .ok (.bipush (-2), 2) := by decide +kernel
theorem dX8_link_25 : decode cX8_link 25 = .ok (.ireturn, 1) := by decide +kernel
theorem dX8_link_26 : decode cX8_link 26 = .ok (.aload_n 0, 1) := by decide +kernel
theorem dX8_link_27 : decode cX8_link 27 = .ok (.iload_n 1, 1) := by decide +kernel
theorem dX8_link_28 : decode cX8_link 28 = .ok (.iconst 3, 1) := by decide +kernel
theorem dX8_link_29 : decode cX8_link 29 = .ok (.invokevirtual 69, 3) := by decide +kernel
theorem dX8_link_32 : decode cX8_link 32 = .ok (.iload_n 2, 1) := by decide +kernel
theorem dX8_link_33 : decode cX8_link 33 = .ok (.ishr, 1) := by decide +kernel
theorem dX8_link_34 : decode cX8_link 34 = .ok (.iconst 1, 1) := by decide +kernel
theorem dX8_link_35 : decode cX8_link 35 = .ok (.iand, 1) := by decide +kernel
theorem dX8_link_36 : decode cX8_link 36 = .ok (.iload_n 3, 1) := by decide +kernel
theorem dX8_link_37 : decode cX8_link 37 = .ok (.ifCond .eq 7, 3) := by decide +kernel
theorem dX8_link_40 : decode cX8_link 40 = .ok (.iconst 1, 1) := by decide +kernel
theorem dX8_link_41 : decode cX8_link 41 = .ok (.goto 4, 3) := by decide +kernel
theorem dX8_link_44 : decode cX8_link 44 = .ok (.iconst 0, 1) := by decide +kernel
theorem dX8_link_45 : decode cX8_link 45 = .ok (.if_icmp .ne 6, 3) := by decide +kernel
theorem dX8_link_48 : decode cX8_link 48 = .ok (.bipush (-5), 2) := by decide +kernel
theorem dX8_link_50 : decode cX8_link 50 = .ok (.ireturn, 1) := by decide +kernel
theorem dX8_link_51 : decode cX8_link 51 = .ok (.aload_n 0, 1) := by decide +kernel
theorem dX8_link_52 : decode cX8_link 52 = .ok (.invokevirtual 58, 3) := by decide +kernel
theorem dX8_link_55 : decode cX8_link 55 = .ok (.aload_n 0, 1) := by decide +kernel
theorem dX8_link_56 : decode cX8_link 56 = .ok (.iload_n 1, 1) := by decide +kernel
theorem dX8_link_57 : decode cX8_link 57 = .ok (.iconst 3, 1) := by decide +kernel
theorem dX8_link_58 : decode cX8_link 58 = .ok (.aload_n 0, 1) := by decide +kernel
theorem dX8_link_59 : decode cX8_link 59 = .ok (.iload_n 1, 1) := by decide +kernel
theorem dX8_link_60 : decode cX8_link 60 = .ok (.iconst 3, 1) := by decide +kernel
theorem dX8_link_61 : decode cX8_link 61 = .ok (.invokevirtual 69, 3) := by decide +kernel
theorem dX8_link_64 : decode cX8_link 64 = .ok (.iconst 1, 1) := by decide +kernel
theorem dX8_link_65 : decode cX8_link 65 = .ok (.iload_n 2, 1) := by decide +kernel
theorem dX8_link_66 : decode cX8_link 66 = .ok (.ishl, 1) := by decide +kernel
theorem dX8_link_67 : decode cX8_link 67 = .ok (.ixor, 1) := by decide +kernel
theorem dX8_link_68 : decode cX8_link 68 = .ok (.invokevirtual 61, 3) := by decide +kernel
theorem dX8_link_71 : decode cX8_link 71 = .ok (.aload_n 0, 1) := by decide +kernel
theorem dX8_link_72 : decode cX8_link 72 = .ok (.iload_n 2, 1) := by decide +kernel
theorem dX8_link_73 : decode cX8_link 73 = .ok (.iconst 3, 1) := by decide +kernel
theorem dX8_link_74 : decode cX8_link 74 = .ok (.aload_n 0, 1) := by decide +kernel
theorem dX8_link_75 : decode cX8_link 75 = .ok (.iload_n 2, 1) := by decide +kernel
theorem dX8_link_76 : decode cX8_link 76 = .ok (.iconst 3, 1) := by decide +kernel
theorem dX8_link_77 : decode cX8_link 77 = .ok (.invokevirtual 69, 3) := by decide +kernel
theorem dX8_link_80 : decode cX8_link 80 = .ok (.iconst 1, 1) := by decide +kernel
theorem dX8_link_81 : decode cX8_link 81 = .ok (.iload_n 1, 1) := by decide +kernel
theorem dX8_link_82 : decode cX8_link 82 = .ok (.ishl, 1) := by decide +kernel
theorem dX8_link_83 : decode cX8_link 83 = .ok (.ixor, 1) := by decide +kernel
theorem dX8_link_84 : decode cX8_link 84 = .ok (.invokevirtual 61, 3) := by decide +kernel
theorem dX8_link_87 : decode cX8_link 87 = .ok (.aload_n 0, 1) := by decide +kernel
theorem dX8_link_88 : decode cX8_link 88 = .ok (.iload_n 1, 1) := by decide +kernel
theorem dX8_link_89 : decode cX8_link 89 = .ok (.iconst 3, 1) := by decide +kernel
theorem dX8_link_90 : decode cX8_link 90 = .ok (.invokevirtual 69, 3) := by decide +kernel
theorem dX8_link_93 : decode cX8_link 93 = .ok (.invokestatic 73, 3) := by decide +kernel
theorem dX8_link_96 : decode cX8_link 96 = .ok (.ireturn, 1) := by decide +kernel
theorem dX8_bars_0 : decode cX8_bars 0 = .ok (.aload_n 0, 1) := by decide +kernel
theorem dX8_bars_1 : decode cX8_bars 1 = .ok (.getfield 7, 3) := by decide +kernel
theorem dX8_bars_4 : decode cX8_bars 4 = .ok (.sipush 246, 3) := by decide +kernel
theorem dX8_bars_7 : decode cX8_bars 7 = .ok (.iload_n 1, 1) := by decide +kernel
theorem dX8_bars_8 : decode cX8_bars 8 = .ok (.iadd, 1) := by decide +kernel
theorem dX8_bars_9 : decode cX8_bars 9 = .ok (.iaload, 1) := by decide +kernel
theorem dX8_bars_10 : decode cX8_bars 10 = .ok (.iload_n 2, 1) := by decide +kernel
theorem dX8_bars_11 : decode cX8_bars 11 = .ok (.ishr, 1) := by decide +kernel
theorem dX8_bars_12 : decode cX8_bars 12 = .ok (.iconst 1, 1) := by decide +kernel
theorem dX8_bars_13 : decode cX8_bars 13 = .ok (.iand, 1) := by decide +kernel
theorem dX8_bars_14 : decode cX8_bars 14 = .ok (.iconst 1, 1) := by decide +kernel
theorem dX8_bars_15 : decode cX8_bars 15 = .ok (.if_icmp .ne 7, 3) := by decide +kernel
theorem dX8_bars_18 : decode cX8_bars 18 = .ok (.iconst 1, 1) := by decide +kernel
theorem dX8_bars_19 : decode cX8_bars 19 = .ok (.goto 4, 3) := by decide +kernel
theorem dX8_bars_22 : decode cX8_bars 22 = .ok (.iconst 0, 1) := by decide +kernel
theorem dX8_bars_23 : decode cX8_bars 23 = .ok (.ireturn, 1) := by decide +kernel
theorem dX8_bar_0 : decode cX8_bar 0 = .ok (.iload_n 1, 1) := by decide +kernel
theorem dX8_bar_1 : decode cX8_bar 1 = .ok (.iconst 0, 1) := by decide +kernel
theorem dX8_bar_2 : decode cX8_bar 2 = .ok (.iconst 4, 1) := by decide +kernel
theorem dX8_bar_3 : decode cX8_bar 3 = .ok (.invokestatic 32, 3) := by decide +kernel
theorem dX8_bar_6 : decode cX8_bar 6 = .ok (.ifCond .eq 12, 3) := by decide +kernel
theorem dX8_bar_9 : decode cX8_bar 9 = .ok (.iload_n 2, 1) := by decide +kernel
theorem dX8_bar_10 : decode cX8_bar 10 = .ok (.iconst 0, 1) := by decide +kernel
theorem dX8_bar_11 : decode cX8_bar 11 = .ok (.iconst 4, 1) := by decide +kernel
theorem dX8_bar_12 : decode cX8_bar 12 = .ok (.invokestatic 32, 3) := by decide +kernel
theorem dX8_bar_15 : decode cX8_bar 15 = .ok (.ifCond .ne 6, 3) := by decide +kernel
theorem dX8_bar_18 : decode cX8_bar 18 = .ok (.bipush (-2), 2) := by decide +kernel
theorem dX8_bar_20 : decode cX8_bar 20 = .ok (.ireturn, 1) := by decide +kernel
theorem dX8_bar_21 : decode cX8_bar 21 = .ok (.aload_n 0, 1) := by decide +kernel
theorem dX8_bar_22 : decode cX8_bar 22 = .ok (.iload_n 1, 1) := by decide +kernel
theorem dX8_bar_23 : decode cX8_bar 23 = .ok (.iload_n 2, 1) := by decide +kernel
theorem dX8_bar_24 : decode cX8_bar 24 = .ok (.invokevirtual 77, 3) := by decide +kernel
theorem dX8_bar_27 : decode cX8_bar 27 = .ok (.iload_n 3, 1) := by decide +kernel
theorem dX8_bar_28 : decode cX8_bar 28 = .ok (.if_icmp .ne 6, 3) := by decide +kernel
theorem dX8_bar_31 : decode cX8_bar 31 = .ok (.bipush (-5), 2) := by decide +kernel
theorem dX8_bar_33 : decode cX8_bar 33 = .ok (.ireturn, 1) := by decide +kernel
theorem dX8_bar_34 : decode cX8_bar 34 = .ok (.aload_n 0, 1) := by decide +kernel
theorem dX8_bar_35 : decode cX8_bar 35 = .ok (.invokevirtual 58, 3) := by decide +kernel
theorem dX8_bar_38 : decode cX8_bar 38 = .ok (.aload_n 0, 1) := by decide +kernel
theorem dX8_bar_39 : decode cX8_bar 39 = .ok (.getfield 7, 3) := by decide +kernel
theorem dX8_bar_42 : decode cX8_bar 42 = .ok (.sipush 246, 3) := by decide +kernel
theorem dX8_bar_45 : decode cX8_bar 45 = .ok (.iload_n 1, 1) := by decide +kernel
theorem dX8_bar_46 : decode cX8_bar 46 = .ok (.iadd, 1) := by decide +kernel
theorem dX8_bar_47 : decode cX8_bar 47 = .ok (.dup2, 1) := by decide +kernel
theorem dX8_bar_48 : decode cX8_bar 48 = .ok (.iaload, 1) := by decide +kernel
theorem dX8_bar_49 : decode cX8_bar 49 = .ok (.iconst 1, 1) := by decide +kernel
theorem dX8_bar_50 : decode cX8_bar 50 = .ok (.iload_n 2, 1) := by decide +kernel
theorem dX8_bar_51 : decode cX8_bar 51 = .ok (.ishl, 1) := by decide +kernel
theorem dX8_bar_52 : decode cX8_bar 52 = .ok (.ixor, 1) := by decide +kernel
theorem dX8_bar_53 : decode cX8_bar 53 = .ok (.iastore, 1) := by decide +kernel
theorem dX8_bar_54 : decode cX8_bar 54 = .ok (.iload_n 1, 1) := by decide +kernel
theorem dX8_bar_55 : decode cX8_bar 55 = .ok (.iload_n 2, 1) := by decide +kernel
theorem dX8_bar_56 : decode cX8_bar 56 = .ok (.if_icmp .eq 19, 3) := by decide +kernel
theorem dX8_bar_59 : decode cX8_bar 59 = .ok (.aload_n 0, 1) := by decide +kernel
theorem dX8_bar_60 : decode cX8_bar 60 = .ok (.getfield 7, 3) := by decide +kernel
theorem dX8_bar_63 : decode cX8_bar 63 = .ok (.sipush 246, 3) := by decide +kernel
theorem dX8_bar_66 : decode cX8_bar 66 = .ok (.iload_n 2, 1) := by decide +kernel
theorem dX8_bar_67 : decode cX8_bar 67 = .ok (.iadd, 1) := by decide +kernel
theorem dX8_bar_68 : decode cX8_bar 68 = .ok (.dup2, 1) := by decide +kernel
theorem dX8_bar_69 : decode cX8_bar 69 = .ok (.iaload, 1) := by decide +kernel
theorem dX8_bar_70 : decode cX8_bar 70 = .ok (.iconst 1, 1) := by decide +kernel
theorem dX8_bar_71 : decode cX8_bar 71 = .ok (.iload_n 1, 1) := by decide +kernel
theorem dX8_bar_72 : decode cX8_bar 72 = .ok (.ishl, 1) := by decide +kernel
theorem dX8_bar_73 : decode cX8_bar 73 = .ok (.ixor, 1) := by decide +kernel
theorem dX8_bar_74 : decode cX8_bar 74 = .ok (.iastore, 1) := by decide +kernel
theorem dX8_bar_75 : decode cX8_bar 75 = .ok (.aload_n 0, 1) := by decide +kernel
theorem dX8_bar_76 : decode cX8_bar 76 = .ok (.getfield 7, 3) := by decide +kernel
theorem dX8_bar_79 : decode cX8_bar 79 = .ok (.sipush 246, 3) := by decide +kernel
theorem dX8_bar_82 : decode cX8_bar 82 = .ok (.iload_n 1, 1) := by decide +kernel
theorem dX8_bar_83 : decode cX8_bar 83 = .ok (.iadd, 1) := by decide +kernel
theorem dX8_bar_84 : decode cX8_bar 84 = .ok (.iaload, 1) := by decide +kernel
theorem dX8_bar_85 : decode cX8_bar 85 = .ok (.invokestatic 73, 3) := by decide +kernel
theorem dX8_bar_88 : decode cX8_bar 88 = .ok (.ireturn, 1) := by decide +kernel
theorem dX8_addCrew_0 : decode cX8_addCrew 0 = .ok (.iload_n 1, 1) := by decide +kernel
theorem dX8_addCrew_1 : decode cX8_addCrew 1 = .ok (.iconst 1, 1) := by decide +kernel
theorem dX8_addCrew_2 : decode cX8_addCrew 2 = .ok (.bipush 6, 2) := by decide +kernel
theorem dX8_addCrew_4 : decode cX8_addCrew 4 = .ok (.invokestatic 32, 3) := by decide +kernel
theorem dX8_addCrew_7 : decode cX8_addCrew 7 = .ok (.ifCond .eq 13, 3) := by decide +kernel
theorem dX8_addCrew_10 : decode cX8_addCrew 10 = .ok (.iload_n 2, 1) := by decide +kernel
theorem dX8_addCrew_11 : decode cX8_addCrew 11 = .ok (.iconst 0, 1) := by decide +kernel
theorem dX8_addCrew_12 : decode cX8_addCrew 12 = .ok (.bipush 15, 2) := by decide +kernel
theorem dX8_addCrew_14 : decode cX8_addCrew 14 = .ok (.invokestatic 32, 3) := by decide +kernel
theorem dX8_addCrew_17 : decode cX8_addCrew 17 = .ok (.ifCond .ne 6, 3) := by decide +kernel
theorem dX8_addCrew_20 : decode cX8_addCrew 20 = .ok (.bipush (-2), 2) := by decide +kernel
theorem dX8_addCrew_22 : decode cX8_addCrew 22 = .ok (.ireturn, 1) := by decide +kernel
theorem dX8_addCrew_23 : decode cX8_addCrew 23 = .ok (.aload_n 0, 1) := by decide +kernel
theorem dX8_addCrew_24 : decode cX8_addCrew 24 = .ok (.getfield 7, 3) := by decide +kernel
theorem dX8_addCrew_27 : decode cX8_addCrew 27 = .ok (.iconst 2, 1) := by decide +kernel
theorem dX8_addCrew_28 : decode cX8_addCrew 28 = .ok (.iaload, 1) := by decide +kernel
theorem dX8_addCrew_29 : decode cX8_addCrew 29 = .ok (.iconst 5, 1) := by decide +kernel
theorem dX8_addCrew_30 : decode cX8_addCrew 30 = .ok (.if_icmp .ne 6, 3) := by decide +kernel
theorem dX8_addCrew_33 : decode cX8_addCrew 33 = .ok (.bipush (-3), 2) := by decide +kernel
theorem dX8_addCrew_35 : decode cX8_addCrew 35 = .ok (.ireturn, 1) := by decide +kernel
theorem dX8_addCrew_36 : decode cX8_addCrew 36 = .ok (.aload_n 0, 1) := by decide +kernel
theorem dX8_addCrew_37 : decode cX8_addCrew 37 = .ok (.invokevirtual 58, 3) := by decide +kernel
theorem dX8_addCrew_40 : decode cX8_addCrew 40 = .ok (.aload_n 0, 1) := by decide +kernel
theorem dX8_addCrew_41 : decode cX8_addCrew 41 = .ok (.getfield 7, 3) := by decide +kernel
theorem dX8_addCrew_44 : decode cX8_addCrew 44 = .ok (.sipush 236, 3) := by decide +kernel
theorem dX8_addCrew_47 : decode cX8_addCrew 47 = .ok (.iconst 2, 1) := by decide +kernel
theorem dX8_addCrew_48 : decode cX8_addCrew 48 = .ok (.aload_n 0, 1) := by decide +kernel
theorem dX8_addCrew_49 : decode cX8_addCrew 49 = .ok (.getfield 7, 3) := by decide +kernel
theorem dX8_addCrew_52 : decode cX8_addCrew 52 = .ok (.iconst 2, 1) := by decide +kernel
theorem dX8_addCrew_53 : decode cX8_addCrew 53 = .ok (.iaload, 1) := by decide +kernel
theorem dX8_addCrew_54 : decode cX8_addCrew 54 = .ok (.imul, 1) := by decide +kernel
theorem dX8_addCrew_55 : decode cX8_addCrew 55 = .ok (.iadd, 1) := by decide +kernel
theorem dX8_addCrew_56 : decode cX8_addCrew 56 = .ok (.iload_n 1, 1) := by decide +kernel
theorem dX8_addCrew_57 : decode cX8_addCrew 57 = .ok (.iastore, 1) := by decide +kernel
theorem dX8_addCrew_58 : decode cX8_addCrew 58 = .ok (.aload_n 0, 1) := by decide +kernel
theorem dX8_addCrew_59 : decode cX8_addCrew 59 = .ok (.getfield 7, 3) := by decide +kernel
theorem dX8_addCrew_62 : decode cX8_addCrew 62 = .ok (.sipush 236, 3) := by decide +kernel
theorem dX8_addCrew_65 : decode cX8_addCrew 65 = .ok (.iconst 2, 1) := by decide +kernel
theorem dX8_addCrew_66 : decode cX8_addCrew 66 = .ok (.aload_n 0, 1) := by decide +kernel
theorem dX8_addCrew_67 : decode cX8_addCrew 67 = .ok (.getfield 7, 3) := by decide +kernel
theorem dX8_addCrew_70 : decode cX8_addCrew 70 = .ok (.iconst 2, 1) := by decide +kernel
theorem dX8_addCrew_71 : decode cX8_addCrew 71 = .ok (.iaload, 1) := by decide +kernel
theorem dX8_addCrew_72 : decode cX8_addCrew 72 = .ok (.imul, 1) := by decide +kernel
theorem dX8_addCrew_73 : decode cX8_addCrew 73 = .ok (.iadd, 1) := by decide +kernel
theorem dX8_addCrew_74 : decode cX8_addCrew 74 = .ok (.iconst 1, 1) := by decide +kernel
theorem dX8_addCrew_75 : decode cX8_addCrew 75 = .ok (.iadd, 1) := by decide +kernel
theorem dX8_addCrew_76 : decode cX8_addCrew 76 = .ok (.iload_n 2, 1) := by decide +kernel
theorem dX8_addCrew_77 : decode cX8_addCrew 77 = .ok (.iastore, 1) := by decide +kernel
theorem dX8_addCrew_78 : decode cX8_addCrew 78 = .ok (.aload_n 0, 1) := by decide +kernel
theorem dX8_addCrew_79 : decode cX8_addCrew 79 = .ok (.getfield 7, 3) := by decide +kernel
theorem dX8_addCrew_82 : decode cX8_addCrew 82 = .ok (.iconst 2, 1) := by decide +kernel
theorem dX8_addCrew_83 : decode cX8_addCrew 83 = .ok (.dup2, 1) := by decide +kernel
theorem dX8_addCrew_84 : decode cX8_addCrew 84 = .ok (.iaload, 1) := by decide +kernel
theorem dX8_addCrew_85 : decode cX8_addCrew 85 = .ok (.iconst 1, 1) := by decide +kernel
theorem dX8_addCrew_86 : decode cX8_addCrew 86 = .ok (.iadd, 1) := by decide +kernel
theorem dX8_addCrew_87 : decode cX8_addCrew 87 = .ok (.iastore, 1) := by decide +kernel
theorem dX8_addCrew_88 : decode cX8_addCrew 88 = .ok (.aload_n 0, 1) := by decide +kernel
theorem dX8_addCrew_89 : decode cX8_addCrew 89 = .ok (.getfield 7, 3) := by decide +kernel
theorem dX8_addCrew_92 : decode cX8_addCrew 92 = .ok (.iconst 2, 1) := by decide +kernel
theorem dX8_addCrew_93 : decode cX8_addCrew 93 = .ok (.iaload, 1) := by decide +kernel
theorem dX8_addCrew_94 : decode cX8_addCrew 94 = .ok (.iconst 1, 1) := by decide +kernel
theorem dX8_addCrew_95 : decode cX8_addCrew 95 = .ok (.isub, 1) := by decide +kernel
theorem dX8_addCrew_96 : decode cX8_addCrew 96 = .ok (.ireturn, 1) := by decide +kernel
theorem dX8_addTask_0 : decode cX8_addTask 0 = .ok (.aload_n 0, 1) := by decide +kernel
theorem dX8_addTask_1 : decode cX8_addTask 1 = .ok (.iload_n 1, 1) := by decide +kernel
theorem dX8_addTask_2 : decode cX8_addTask 2 = .ok (.invokevirtual 65, 3) := by decide +kernel
theorem dX8_addTask_5 : decode cX8_addTask 5 = .ok (.ifCond .ne 5, 3) := by decide +kernel
theorem dX8_addTask_8 : decode cX8_addTask 8 = .ok (.iconst (-1), 1) := by decide +kernel
theorem dX8_addTask_9 : decode cX8_addTask 9 = .ok (.ireturn, 1) := by decide +kernel
theorem dX8_addTask_10 : decode cX8_addTask 10 = .ok (.iload_n 2, 1) := by decide +kernel
theorem dX8_addTask_11 : decode cX8_addTask 11 = .ok (.iconst 0, 1) := by decide +kernel
theorem dX8_addTask_12 : decode cX8_addTask 12 = .ok (.iconst 3, 1) := by decide +kernel
theorem dX8_addTask_13 : decode cX8_addTask 13 = .ok (.invokestatic 32, 3) := by decide +kernel
theorem dX8_addTask_16 : decode cX8_addTask 16 = .ok (.ifCond .eq 27, 3) := by decide +kernel
theorem dX8_addTask_19 : decode cX8_addTask 19 = .ok (.iload_n 3, 1) := by decide +kernel
theorem dX8_addTask_20 : decode cX8_addTask 20 = .ok (.iconst 1, 1) := by decide +kernel
theorem dX8_addTask_21 : decode cX8_addTask 21 = .ok (.bipush 6, 2) := by decide +kernel
theorem dX8_addTask_23 : decode cX8_addTask 23 = .ok (.invokestatic 32, 3) := by decide +kernel
theorem dX8_addTask_26 : decode cX8_addTask 26 = .ok (.ifCond .eq 17, 3) := by decide +kernel
theorem dX8_addTask_29 : decode cX8_addTask 29 = .ok (.iload 4, 2) := by decide +kernel
theorem dX8_addTask_31 : decode cX8_addTask 31 = .ok (.iconst 0, 1) := by decide +kernel
theorem dX8_addTask_32 : decode cX8_addTask 32 = .ok (.iconst 4, 1) := by decide +kernel
theorem dX8_addTask_33 : decode cX8_addTask 33 = .ok (.invokestatic 32, 3) := by decide +kernel
theorem dX8_addTask_36 : decode cX8_addTask 36 = .ok (.ifCond .eq 7, 3) := by decide +kernel
theorem dX8_addTask_39 : decode cX8_addTask 39 = .ok (.iconst 1, 1) := by decide +kernel
theorem dX8_addTask_40 : decode cX8_addTask 40 = .ok (.goto 4, 3) := by decide +kernel
theorem dX8_addTask_43 : decode cX8_addTask 43 = .ok (.iconst 0, 1) := by decide +kernel
theorem dX8_addTask_44 : decode cX8_addTask 44 = .ok (.istore 7, 2) := by decide +kernel
theorem dX8_addTask_46 : decode cX8_addTask 46 = .ok (.iload 7, 2) := by decide +kernel
theorem dX8_addTask_48 : decode cX8_addTask 48 = .ok (.ifCond .eq 31, 3) := by decide +kernel
theorem dX8_addTask_51 : decode cX8_addTask 51 = .ok (.iload 5, 2) := by decide +kernel
theorem dX8_addTask_53 : decode cX8_addTask 53 = .ok (.iconst 1, 1) := by decide +kernel
theorem dX8_addTask_54 : decode cX8_addTask 54 = .ok (.bipush 48, 2) := by decide +kernel
theorem dX8_addTask_56 : decode cX8_addTask 56 = .ok (.invokestatic 32, 3) := by decide +kernel
theorem dX8_addTask_59 : decode cX8_addTask 59 = .ok (.ifCond .eq 20, 3) := by decide +kernel
theorem dX8_addTask_62 : decode cX8_addTask 62 = .ok (.iload 6, 2) := by decide +kernel
theorem dX8_addTask_64 : decode cX8_addTask 64 = .ok (.aload_n 0, 1) := by decide +kernel
theorem dX8_addTask_65 : decode cX8_addTask 65 = .ok (.getfield 7, 3) := by decide +kernel
theorem dX8_addTask_68 : decode cX8_addTask 68 = .ok (.iconst 0, 1) := by decide +kernel
theorem dX8_addTask_69 : decode cX8_addTask 69 = .ok (.iaload, 1) := by decide +kernel
theorem dX8_addTask_70 : decode cX8_addTask 70 = .ok (.sipush 2000, 3) := by decide +kernel
theorem dX8_addTask_73 : decode cX8_addTask 73 = .ok (.invokestatic 32, 3) := by decide +kernel
theorem dX8_addTask_76 : decode cX8_addTask 76 = .ok (.ifCond .ne 6, 3) := by decide +kernel
theorem dX8_addTask_79 : decode cX8_addTask 79 = .ok (.bipush (-2), 2) := by decide +kernel
theorem dX8_addTask_81 : decode cX8_addTask 81 = .ok (.ireturn, 1) := by decide +kernel
theorem dX8_addTask_82 : decode cX8_addTask 82 = .ok (.aload_n 0, 1) := by decide +kernel
theorem dX8_addTask_83 : decode cX8_addTask 83 = .ok (.getfield 7, 3) := by decide +kernel
theorem dX8_addTask_86 : decode cX8_addTask 86 = .ok (.iconst 3, 1) := by decide +kernel
theorem dX8_addTask_87 : decode cX8_addTask 87 = .ok (.iaload, 1) := by decide +kernel
theorem dX8_addTask_88 : decode cX8_addTask 88 = .ok (.bipush 24, 2) := by decide +kernel
theorem dX8_addTask_90 : decode cX8_addTask 90 = .ok (.if_icmp .ne 6, 3) := by decide +kernel
theorem dX8_addTask_93 : decode cX8_addTask 93 = .ok (.bipush (-3), 2) := by decide +kernel
theorem dX8_addTask_95 : decode cX8_addTask 95 = .ok (.ireturn, 1) := by decide +kernel
theorem dX8_addTask_96 : decode cX8_addTask 96 = .ok (.aload_n 0, 1) := by decide +kernel
theorem dX8_addTask_97 : decode cX8_addTask 97 = .ok (.invokevirtual 58, 3) := by decide +kernel
theorem dX8_addTask_100 : decode cX8_addTask 100 = .ok (.aload_n 0, 1) := by decide +kernel
theorem dX8_addTask_101 : decode cX8_addTask 101 = .ok (.getfield 7, 3) := by decide +kernel
theorem dX8_addTask_104 : decode cX8_addTask 104 = .ok (.iconst 3, 1) := by decide +kernel
theorem dX8_addTask_105 : decode cX8_addTask 105 = .ok (.iaload, 1) := by decide +kernel
theorem dX8_addTask_106 : decode cX8_addTask 106 = .ok (.istore 8, 2) := by decide +kernel
theorem dX8_addTask_108 : decode cX8_addTask 108 = .ok (.aload_n 0, 1) := by decide +kernel
theorem dX8_addTask_109 : decode cX8_addTask 109 = .ok (.getfield 7, 3) := by decide +kernel
theorem dX8_addTask_112 : decode cX8_addTask 112 = .ok (.iconst 3, 1) := by decide +kernel
theorem dX8_addTask_113 : decode cX8_addTask 113 = .ok (.dup2, 1) := by decide +kernel
theorem dX8_addTask_114 : decode cX8_addTask 114 = .ok (.iaload, 1) := by decide +kernel
theorem dX8_addTask_115 : decode cX8_addTask 115 = .ok (.iconst 1, 1) := by decide +kernel
theorem dX8_addTask_116 : decode cX8_addTask 116 = .ok (.iadd, 1) := by decide +kernel
theorem dX8_addTask_117 : decode cX8_addTask 117 = .ok (.iastore, 1) := by decide +kernel
theorem dX8_addTask_118 : decode cX8_addTask 118 = .ok (.aload_n 0, 1) := by decide +kernel
theorem dX8_addTask_119 : decode cX8_addTask 119 = .ok (.iload 8, 2) := by decide +kernel
theorem dX8_addTask_121 : decode cX8_addTask 121 = .ok (.iconst 0, 1) := by decide +kernel
theorem dX8_addTask_122 : decode cX8_addTask 122 = .ok (.iload_n 1, 1) := by decide +kernel
theorem dX8_addTask_123 : decode cX8_addTask 123 = .ok (.invokevirtual 81, 3) := by decide +kernel
theorem dX8_addTask_126 : decode cX8_addTask 126 = .ok (.aload_n 0, 1) := by decide +kernel
theorem dX8_addTask_127 : decode cX8_addTask 127 = .ok (.iload 8, 2) := by decide +kernel
theorem dX8_addTask_129 : decode cX8_addTask 129 = .ok (.iconst 1, 1) := by decide +kernel
theorem dX8_addTask_130 : decode cX8_addTask 130 = .ok (.iload_n 2, 1) := by decide +kernel
theorem dX8_addTask_131 : decode cX8_addTask 131 = .ok (.invokevirtual 81, 3) := by decide +kernel
theorem dX8_addTask_134 : decode cX8_addTask 134 = .ok (.aload_n 0, 1) := by decide +kernel
theorem dX8_addTask_135 : decode cX8_addTask 135 = .ok (.iload 8, 2) := by decide +kernel
theorem dX8_addTask_137 : decode cX8_addTask 137 = .ok (.iconst 2, 1) := by decide +kernel
theorem dX8_addTask_138 : decode cX8_addTask 138 = .ok (.iload_n 3, 1) := by decide +kernel
theorem dX8_addTask_139 : decode cX8_addTask 139 = .ok (.invokevirtual 81, 3) := by decide +kernel
theorem dX8_addTask_142 : decode cX8_addTask 142 = .ok (.aload_n 0, 1) := by decide +kernel
theorem dX8_addTask_143 : decode cX8_addTask 143 = .ok (.iload 8, 2) := by decide +kernel
theorem dX8_addTask_145 : decode cX8_addTask 145 = .ok (.iconst 3, 1) := by decide +kernel
theorem dX8_addTask_146 : decode cX8_addTask 146 = .ok (.iload 4, 2) := by decide +kernel
theorem dX8_addTask_148 : decode cX8_addTask 148 = .ok (.invokevirtual 81, 3) := by decide +kernel
theorem dX8_addTask_151 : decode cX8_addTask 151 = .ok (.aload_n 0, 1) := by decide +kernel
theorem dX8_addTask_152 : decode cX8_addTask 152 = .ok (.iload 8, 2) := by decide +kernel
theorem dX8_addTask_154 : decode cX8_addTask 154 = .ok (.iconst 4, 1) := by decide +kernel
theorem dX8_addTask_155 : decode cX8_addTask 155 = .ok (.iload 5, 2) := by decide +kernel
theorem dX8_addTask_157 : decode cX8_addTask 157 = .ok (.invokevirtual 81, 3) := by decide +kernel
theorem dX8_addTask_160 : decode cX8_addTask 160 = .ok (.aload_n 0, 1) := by decide +kernel
theorem dX8_addTask_161 : decode cX8_addTask 161 = .ok (.iload 8, 2) := by decide +kernel
theorem dX8_addTask_163 : decode cX8_addTask 163 = .ok (.iconst 5, 1) := by decide +kernel
theorem dX8_addTask_164 : decode cX8_addTask 164 = .ok (.iload 6, 2) := by decide +kernel
theorem dX8_addTask_166 : decode cX8_addTask 166 = .ok (.invokevirtual 81, 3) := by decide +kernel
theorem dX8_addTask_169 : decode cX8_addTask 169 = .ok (.aload_n 0, 1) := by decide +kernel
theorem dX8_addTask_170 : decode cX8_addTask 170 = .ok (.iload 8, 2) := by decide +kernel
theorem dX8_addTask_172 : decode cX8_addTask 172 = .ok (.bipush 6, 2) := by decide +kernel
theorem dX8_addTask_174 : decode cX8_addTask 174 = .ok (.iconst 0, 1) := by decide +kernel
theorem dX8_addTask_175 : decode cX8_addTask 175 = .ok (.invokevirtual 81, 3) := by decide +kernel
theorem dX8_addTask_178 : decode cX8_addTask 178 = .ok (.aload_n 0, 1) := by decide +kernel
theorem dX8_addTask_179 : decode cX8_addTask 179 = .ok (.iload 8, 2) := by decide +kernel
theorem dX8_addTask_181 : decode cX8_addTask 181 = .ok (.bipush 7, 2) := by decide +kernel
theorem dX8_addTask_183 : decode cX8_addTask 183 = .ok (.bipush (-5), 2) := by decide +kernel
theorem dX8_addTask_185 : decode cX8_addTask 185 = .ok (.invokevirtual 81, 3) := by decide +kernel
theorem dX8_addTask_188 : decode cX8_addTask 188 = .ok (.aload_n 0, 1) := by decide +kernel
theorem dX8_addTask_189 : decode cX8_addTask 189 = .ok (.iload 8, 2) := by decide +kernel
theorem dX8_addTask_191 : decode cX8_addTask 191 = .ok (.bipush 8, 2) := by decide +kernel
theorem dX8_addTask_193 : decode cX8_addTask 193 = .ok (.iconst 0, 1) := by decide +kernel
theorem dX8_addTask_194 : decode cX8_addTask 194 = .ok (.invokevirtual 81, 3) := by decide +kernel
theorem dX8_addTask_197 : decode cX8_addTask 197 = .ok (.aload_n 0, 1) := by decide +kernel
theorem dX8_addTask_198 : decode cX8_addTask 198 = .ok (.iload 8, 2) := by decide +kernel
theorem dX8_addTask_200 : decode cX8_addTask 200 = .ok (.bipush 9, 2) := by decide +kernel
theorem dX8_addTask_202 : decode cX8_addTask 202 = .ok (.iconst 0, 1) := by decide +kernel
theorem dX8_addTask_203 : decode cX8_addTask 203 = .ok (.invokevirtual 81, 3) := by decide +kernel
theorem dX8_addTask_206 : decode cX8_addTask 206 = .ok (.iload 8, 2) := by decide +kernel
theorem dX8_addTask_208 : decode cX8_addTask 208 = .ok (.ireturn, 1) := by decide +kernel
theorem dX8_stateOf_0 : decode cX8_stateOf 0 = .ok (.aload_n 0, 1) := by decide +kernel
theorem dX8_stateOf_1 : decode cX8_stateOf 1 = .ok (.iload_n 1, 1) := by decide +kernel
theorem dX8_stateOf_2 : decode cX8_stateOf 2 = .ok (.bipush 6, 2) := by decide +kernel
theorem dX8_stateOf_4 : decode cX8_stateOf 4 = .ok (.invokevirtual 84, 3) := by decide +kernel
theorem dX8_stateOf_7 : decode cX8_stateOf 7 = .ok (.ireturn, 1) := by decide +kernel
theorem dX8_isBusy_0 : decode cX8_isBusy 0 = .ok (.aload_n 0, 1) := by decide +kernel
theorem dX8_isBusy_1 : decode cX8_isBusy 1 = .ok (.iload_n 1, 1) := by decide +kernel
theorem dX8_isBusy_2 : decode cX8_isBusy 2 = .ok (.invokevirtual 87, 3) := by decide +kernel
theorem dX8_isBusy_5 : decode cX8_isBusy 5 = .ok (.iconst 1, 1) := by decide +kernel
theorem dX8_isBusy_6 : decode cX8_isBusy 6 = .ok (.iconst 3, 1) := by decide +kernel
theorem dX8_isBusy_7 : decode cX8_isBusy 7 = .ok (.invokestatic 32, 3) := by decide +kernel
theorem dX8_isBusy_10 : decode cX8_isBusy 10 = .ok (.ireturn, 1) := by decide +kernel
theorem dX8_busy_0 : decode cX8_busy 0 = .ok (.iconst 0, 1) := by decide +kernel
theorem dX8_busy_1 : decode cX8_busy 1 = .ok (.istore_n 3, 1) := by decide +kernel
theorem dX8_busy_2 : decode cX8_busy 2 = .ok (.iconst 0, 1) := by decide +kernel
theorem dX8_busy_3 : decode cX8_busy 3 = .ok (.istore 4, 2) := by decide +kernel
theorem dX8_busy_5 : decode cX8_busy 5 = .ok (.iload 4, 2) := by decide +kernel
theorem dX8_busy_7 : decode cX8_busy 7 = .ok (.aload_n 0, 1) := by decide +kernel
theorem dX8_busy_8 : decode cX8_busy 8 = .ok (.getfield 7, 3) := by decide +kernel
theorem dX8_busy_11 : decode cX8_busy 11 = .ok (.iconst 3, 1) := by decide +kernel
theorem dX8_busy_12 : decode cX8_busy 12 = .ok (.iaload, 1) := by decide +kernel
theorem dX8_busy_13 : decode cX8_busy 13 = .ok (.if_icmp .ge 64, 3) := by decide +kernel
theorem dX8_busy_16 : decode cX8_busy 16 = .ok (.aload_n 0, 1) := by decide +kernel
theorem dX8_busy_17 : decode cX8_busy 17 = .ok (.iload 4, 2) := by decide +kernel
theorem dX8_busy_19 : decode cX8_busy 19 = .ok (.invokevirtual 90, 3) := by decide +kernel
theorem dX8_busy_22 : decode cX8_busy 22 = .ok (.ifCond .eq 19, 3) := by decide +kernel
theorem dX8_busy_25 : decode cX8_busy 25 = .ok (.aload_n 0, 1) := by decide +kernel
theorem dX8_busy_26 : decode cX8_busy 26 = .ok (.iload 4, 2) := by decide +kernel
theorem dX8_busy_28 : decode cX8_busy 28 = .ok (.bipush 7, 2) := by decide +kernel
theorem dX8_busy_30 : decode cX8_busy 30 = .ok (.invokevirtual 84, 3) := by decide +kernel
theorem dX8_busy_33 : decode cX8_busy 33 = .ok (.iload_n 1, 1) := by decide +kernel
theorem dX8_busy_34 : decode cX8_busy 34 = .ok (.if_icmp .ne 7, 3) := by decide +kernel
theorem dX8_busy_37 : decode cX8_busy 37 = .ok (.iconst 1, 1) := by decide +kernel
theorem dX8_busy_38 : decode cX8_busy 38 = .ok (.goto 4, 3) := by decide +kernel
theorem dX8_busy_41 : decode cX8_busy 41 = .ok (.iconst 0, 1) := by decide +kernel
theorem dX8_busy_42 : decode cX8_busy 42 = .ok (.istore 5, 2) := by decide +kernel
theorem dX8_busy_44 : decode cX8_busy 44 = .ok (.iload_n 3, 1) := by decide +kernel
theorem dX8_busy_45 : decode cX8_busy 45 = .ok (.iload 5, 2) := by decide +kernel
theorem dX8_busy_47 : decode cX8_busy 47 = .ok (.ifCond .ne 7, 3) := by decide +kernel
theorem dX8_busy_50 : decode cX8_busy 50 = .ok (.iconst 0, 1) := by decide +kernel
theorem dX8_busy_51 : decode cX8_busy 51 = .ok (.goto 18, 3) := by decide +kernel
theorem dX8_busy_54 : decode cX8_busy 54 = .ok (.iload_n 2, 1) := by decide +kernel
theorem dX8_busy_55 : decode cX8_busy 55 = .ok (.ifCond .eq 13, 3) := by decide +kernel
theorem dX8_busy_58 : decode cX8_busy 58 = .ok (.aload_n 0, 1) := by decide +kernel
theorem dX8_busy_59 : decode cX8_busy 59 = .ok (.iload 4, 2) := by decide +kernel
theorem dX8_busy_61 : decode cX8_busy 61 = .ok (.iconst 2, 1) := by decide +kernel
theorem dX8_busy_62 : decode cX8_busy 62 = .ok (.invokevirtual 84, 3) := by decide +kernel
theorem dX8_busy_65 : decode cX8_busy 65 = .ok (.goto 4, 3) := by decide +kernel
theorem dX8_busy_68 : decode cX8_busy 68 = .ok (.iconst 1, 1) := by decide +kernel
theorem dX8_busy_69 : decode cX8_busy 69 = .ok (.iadd, 1) := by decide +kernel
theorem dX8_busy_70 : decode cX8_busy 70 = .ok (.istore_n 3, 1) := by decide +kernel
theorem dX8_busy_71 : decode cX8_busy 71 = .ok (.iinc 4 1, 3) := by decide +kernel
theorem dX8_busy_74 : decode cX8_busy 74 = .ok (.goto (-69), 3) := by decide +kernel
theorem dX8_busy_77 : decode cX8_busy 77 = .ok (.iload_n 3, 1) := by decide +kernel
theorem dX8_busy_78 : decode cX8_busy 78 = .ok (.ireturn, 1) := by decide +kernel
theorem dX8_canHang_0 : decode cX8_canHang 0 = .ok (.aload_n 0, 1) := by decide +kernel
theorem dX8_canHang_1 : decode cX8_canHang 1 = .ok (.getfield 7, 3) := by decide +kernel
theorem dX8_canHang_4 : decode cX8_canHang 4 = .ok (.sipush 236, 3) := by decide +kernel
theorem dX8_canHang_7 : decode cX8_canHang 7 = .ok (.iconst 2, 1) := by decide +kernel
theorem dX8_canHang_8 : decode cX8_canHang 8 = .ok (.iload_n 2, 1) := by decide +kernel
theorem dX8_canHang_9 : decode cX8_canHang 9 = .ok (.imul, 1) := by decide +kernel
theorem dX8_canHang_10 : decode cX8_canHang 10 = .ok (.iadd, 1) := by decide +kernel
theorem dX8_canHang_11 : decode cX8_canHang 11 = .ok (.iconst 1, 1) := by decide +kernel
theorem dX8_canHang_12 : decode cX8_canHang 12 = .ok (.iadd, 1) := by decide +kernel
theorem dX8_canHang_13 : decode cX8_canHang 13 = .ok (.iaload, 1) := by decide +kernel
theorem dX8_canHang_14 : decode cX8_canHang 14 = .ok (.aload_n 0, 1) := by decide +kernel
theorem dX8_canHang_15 : decode cX8_canHang 15 = .ok (.iload_n 1, 1) := by decide +kernel
theorem dX8_canHang_16 : decode cX8_canHang 16 = .ok (.iconst 1, 1) := by decide +kernel
theorem dX8_canHang_17 : decode cX8_canHang 17 = .ok (.invokevirtual 84, 3) := by decide +kernel
theorem dX8_canHang_20 : decode cX8_canHang 20 = .ok (.ishr, 1) := by decide +kernel
theorem dX8_canHang_21 : decode cX8_canHang 21 = .ok (.iconst 1, 1) := by decide +kernel
theorem dX8_canHang_22 : decode cX8_canHang 22 = .ok (.iand, 1) := by decide +kernel
theorem dX8_canHang_23 : decode cX8_canHang 23 = .ok (.iconst 1, 1) := by decide +kernel
theorem dX8_canHang_24 : decode cX8_canHang 24 = .ok (.if_icmp .ne 7, 3) := by decide +kernel
theorem dX8_canHang_27 : decode cX8_canHang 27 = .ok (.iconst 1, 1) := by decide +kernel
theorem dX8_canHang_28 : decode cX8_canHang 28 = .ok (.goto 4, 3) := by decide +kernel
theorem dX8_canHang_31 : decode cX8_canHang 31 = .ok (.iconst 0, 1) := by decide +kernel
theorem dX8_canHang_32 : decode cX8_canHang 32 = .ok (.istore_n 3, 1) := by decide +kernel
theorem dX8_canHang_33 : decode cX8_canHang 33 = .ok (.iload_n 3, 1) := by decide +kernel
theorem dX8_canHang_34 : decode cX8_canHang 34 = .ok (.ifCond .eq 35, 3) := by decide +kernel
theorem dX8_canHang_37 : decode cX8_canHang 37 = .ok (.aload_n 0, 1) := by decide +kernel
theorem dX8_canHang_38 : decode cX8_canHang 38 = .ok (.getfield 7, 3) := by decide +kernel
theorem dX8_canHang_41 : decode cX8_canHang 41 = .ok (.sipush 236, 3) := by decide +kernel
theorem dX8_canHang_44 : decode cX8_canHang 44 = .ok (.iconst 2, 1) := by decide +kernel
theorem dX8_canHang_45 : decode cX8_canHang 45 = .ok (.iload_n 2, 1) := by decide +kernel
theorem dX8_canHang_46 : decode cX8_canHang 46 = .ok (.imul, 1) := by decide +kernel
theorem dX8_canHang_47 : decode cX8_canHang 47 = .ok (.iadd, 1) := by decide +kernel
theorem dX8_canHang_48 : decode cX8_canHang 48 = .ok (.iaload, 1) := by decide +kernel
theorem dX8_canHang_49 : decode cX8_canHang 49 = .ok (.aload_n 0, 1) := by decide +kernel
theorem dX8_canHang_50 : decode cX8_canHang 50 = .ok (.iload_n 2, 1) := by decide +kernel
theorem dX8_canHang_51 : decode cX8_canHang 51 = .ok (.iconst 1, 1) := by decide +kernel
theorem dX8_canHang_52 : decode cX8_canHang 52 = .ok (.invokevirtual 93, 3) := by decide +kernel
theorem dX8_canHang_55 : decode cX8_canHang 55 = .ok (.isub, 1) := by decide +kernel
theorem dX8_canHang_56 : decode cX8_canHang 56 = .ok (.aload_n 0, 1) := by decide +kernel
theorem dX8_canHang_57 : decode cX8_canHang 57 = .ok (.iload_n 1, 1) := by decide +kernel
theorem dX8_canHang_58 : decode cX8_canHang 58 = .ok (.iconst 2, 1) := by decide +kernel
theorem dX8_canHang_59 : decode cX8_canHang 59 = .ok (.invokevirtual 84, 3) := by decide +kernel
theorem dX8_canHang_62 : decode cX8_canHang 62 = .ok (.if_icmp .lt 7, 3) := by decide +kernel
theorem dX8_canHang_65 : decode cX8_canHang 65 = .ok (.iconst 1, 1) := by decide +kernel
theorem dX8_canHang_66 : decode cX8_canHang 66 = .ok (.goto 4, 3) := by decide +kernel
theorem dX8_canHang_69 : decode cX8_canHang 69 = .ok (.iconst 0, 1) := by decide +kernel
theorem dX8_canHang_70 : decode cX8_canHang 70 = .ok (.ireturn, 1) := by decide +kernel
theorem dX8_endOf_0 : decode cX8_endOf 0 = .ok (.aload_n 0, 1) := by decide +kernel
theorem dX8_endOf_1 : decode cX8_endOf 1 = .ok (.iload_n 1, 1) := by decide +kernel
theorem dX8_endOf_2 : decode cX8_endOf 2 = .ok (.iconst 5, 1) := by decide +kernel
theorem dX8_endOf_3 : decode cX8_endOf 3 = .ok (.invokevirtual 84, 3) := by decide +kernel
theorem dX8_endOf_6 : decode cX8_endOf 6 = .ok (.iconst 2, 1) := by decide +kernel
theorem dX8_endOf_7 : decode cX8_endOf 7 = .ok (.aload_n 0, 1) := by decide +kernel
theorem dX8_endOf_8 : decode cX8_endOf 8 = .ok (.iload_n 1, 1) := by decide +kernel
theorem dX8_endOf_9 : decode cX8_endOf 9 = .ok (.iconst 4, 1) := by decide +kernel
theorem dX8_endOf_10 : decode cX8_endOf 10 = .ok (.invokevirtual 84, 3) := by decide +kernel
theorem dX8_endOf_13 : decode cX8_endOf 13 = .ok (.imul, 1) := by decide +kernel
theorem dX8_endOf_14 : decode cX8_endOf 14 = .ok (.iadd, 1) := by decide +kernel
theorem dX8_endOf_15 : decode cX8_endOf 15 = .ok (.bipush 6, 2) := by decide +kernel
theorem dX8_endOf_17 : decode cX8_endOf 17 = .ok (.iadd, 1) := by decide +kernel
theorem dX8_endOf_18 : decode cX8_endOf 18 = .ok (.ireturn, 1) := by decide +kernel
theorem dX8_barredBy_0 : decode cX8_barredBy 0 = .ok (.aload_n 0, 1) := by decide +kernel
theorem dX8_barredBy_1 : decode cX8_barredBy 1 = .ok (.iload_n 1, 1) := by decide +kernel
theorem dX8_barredBy_2 : decode cX8_barredBy 2 = .ok (.iconst 0, 1) := by decide +kernel
theorem dX8_barredBy_3 : decode cX8_barredBy 3 = .ok (.invokevirtual 84, 3) := by decide +kernel
theorem dX8_barredBy_6 : decode cX8_barredBy 6 = .ok (.istore_n 2, 1) := by decide +kernel
theorem dX8_barredBy_7 : decode cX8_barredBy 7 = .ok (.iconst 0, 1) := by decide +kernel
theorem dX8_barredBy_8 : decode cX8_barredBy 8 = .ok (.istore_n 3, 1) := by decide +kernel
theorem dX8_barredBy_9 : decode cX8_barredBy 9 = .ok (.iload_n 3, 1) := by decide +kernel
theorem dX8_barredBy_10 : decode cX8_barredBy 10 = .ok (.aload_n 0, 1) := by decide +kernel
theorem dX8_barredBy_11 : decode cX8_barredBy 11 = .ok (.getfield 7, 3) := by decide +kernel
theorem dX8_barredBy_14 : decode cX8_barredBy 14 = .ok (.iconst 3, 1) := by decide +kernel
theorem dX8_barredBy_15 : decode cX8_barredBy 15 = .ok (.iaload, 1) := by decide +kernel
theorem dX8_barredBy_16 : decode cX8_barredBy 16 = .ok (.if_icmp .ge 85, 3) := by decide +kernel
theorem dX8_barredBy_19 : decode cX8_barredBy 19 = .ok (.aload_n 0, 1) := by decide +kernel
theorem dX8_barredBy_20 : decode cX8_barredBy 20 = .ok (.iload_n 3, 1) := by decide +kernel
theorem dX8_barredBy_21 : decode cX8_barredBy 21 = .ok (.iconst 0, 1) := by decide +kernel
theorem dX8_barredBy_22 : decode cX8_barredBy 22 = .ok (.invokevirtual 84, 3) := by decide +kernel
theorem dX8_barredBy_25 : decode cX8_barredBy 25 = .ok (.istore 4, 2) := by decide +kernel
theorem dX8_barredBy_27 : decode cX8_barredBy 27 = .ok (.iload 4, 2) := by decide +kernel
theorem dX8_barredBy_29 : decode cX8_barredBy 29 = .ok (.iload_n 2, 1) := by decide +kernel
theorem dX8_barredBy_30 : decode cX8_barredBy 30 = .ok (.if_icmp .eq 18, 3) := by decide +kernel
theorem dX8_barredBy_33 : decode cX8_barredBy 33 = .ok (.aload_n 0, 1) := by decide +kernel
theorem dX8_barredBy_34 : decode cX8_barredBy 34 = .ok (.iload_n 2, 1) := by decide +kernel
theorem dX8_barredBy_35 : decode cX8_barredBy 35 = .ok (.iconst 3, 1) := by decide +kernel
theorem dX8_barredBy_36 : decode cX8_barredBy 36 = .ok (.invokevirtual 69, 3) := by decide +kernel
theorem dX8_barredBy_39 : decode cX8_barredBy 39 = .ok (.iload 4, 2) := by decide +kernel
theorem dX8_barredBy_41 : decode cX8_barredBy 41 = .ok (.ishr, 1) := by decide +kernel
theorem dX8_barredBy_42 : decode cX8_barredBy 42 = .ok (.iconst 1, 1) := by decide +kernel
theorem dX8_barredBy_43 : decode cX8_barredBy 43 = .ok (.iand, 1) := by decide +kernel
theorem dX8_barredBy_44 : decode cX8_barredBy 44 = .ok (.iconst 1, 1) := by decide +kernel
theorem dX8_barredBy_45 : decode cX8_barredBy 45 = .ok (.if_icmp .ne 7, 3) := by decide +kernel
theorem dX8_barredBy_48 : decode cX8_barredBy 48 = .ok (.iconst 1, 1) := by decide +kernel
theorem dX8_barredBy_49 : decode cX8_barredBy 49 = .ok (.goto 4, 3) := by decide +kernel
theorem dX8_barredBy_52 : decode cX8_barredBy 52 = .ok (.iconst 0, 1) := by decide +kernel
theorem dX8_barredBy_53 : decode cX8_barredBy 53 = .ok (.istore 5, 2) := by decide +kernel
theorem dX8_barredBy_55 : decode cX8_barredBy 55 = .ok (.iload_n 3, 1) := by decide +kernel
theorem dX8_barredBy_56 : decode cX8_barredBy 56 = .ok (.iload_n 1, 1) := by decide +kernel
theorem dX8_barredBy_57 : decode cX8_barredBy 57 = .ok (.if_icmp .eq 38, 3) := by decide +kernel
theorem dX8_barredBy_60 : decode cX8_barredBy 60 = .ok (.aload_n 0, 1) := by decide +kernel
theorem dX8_barredBy_61 : decode cX8_barredBy 61 = .ok (.iload_n 3, 1) := by decide +kernel
theorem dX8_barredBy_62 : decode cX8_barredBy 62 = .ok (.invokevirtual 87, 3) := by decide +kernel
theorem dX8_barredBy_65 : decode cX8_barredBy 65 = .ok (.iconst 2, 1) := by decide +kernel
theorem dX8_barredBy_66 : decode cX8_barredBy 66 = .ok (.if_icmp .ne 29, 3) := by decide +kernel
theorem dX8_barredBy_69 : decode cX8_barredBy 69 = .ok (.iload 5, 2) := by decide +kernel
theorem dX8_barredBy_71 : decode cX8_barredBy 71 = .ok (.ifCond .eq 24, 3) := by decide +kernel
theorem dX8_barredBy_74 : decode cX8_barredBy 74 = .ok (.aload_n 0, 1) := by decide +kernel
theorem dX8_barredBy_75 : decode cX8_barredBy 75 = .ok (.aload_n 0, 1) := by decide +kernel
theorem dX8_barredBy_76 : decode cX8_barredBy 76 = .ok (.iload_n 1, 1) := by decide +kernel
theorem dX8_barredBy_77 : decode cX8_barredBy 77 = .ok (.iconst 3, 1) := by decide +kernel
theorem dX8_barredBy_78 : decode cX8_barredBy 78 = .ok (.invokevirtual 84, 3) := by decide +kernel
theorem dX8_barredBy_81 : decode cX8_barredBy 81 = .ok (.aload_n 0, 1) := by decide +kernel
theorem dX8_barredBy_82 : decode cX8_barredBy 82 = .ok (.iload_n 3, 1) := by decide +kernel
theorem dX8_barredBy_83 : decode cX8_barredBy 83 = .ok (.iconst 3, 1) := by decide +kernel
theorem dX8_barredBy_84 : decode cX8_barredBy 84 = .ok (.invokevirtual 84, 3) := by decide +kernel
theorem dX8_barredBy_87 : decode cX8_barredBy 87 = .ok (.invokevirtual 77, 3) := by decide +kernel
theorem dX8_barredBy_90 : decode cX8_barredBy 90 = .ok (.ifCond .eq 5, 3) := by decide +kernel
theorem dX8_barredBy_93 : decode cX8_barredBy 93 = .ok (.iload_n 3, 1) := by decide +kernel
theorem dX8_barredBy_94 : decode cX8_barredBy 94 = .ok (.ireturn, 1) := by decide +kernel
theorem dX8_barredBy_95 : decode cX8_barredBy 95 = .ok (.iinc 3 1, 3) := by decide +kernel
theorem dX8_barredBy_98 : decode cX8_barredBy 98 = .ok (.goto (-89), 3) := by decide +kernel
theorem dX8_barredBy_101 : decode cX8_barredBy 101 = .ok (.bipush (-5), 2) := by decide +kernel
theorem dX8_barredBy_103 : decode cX8_barredBy 103 = .ok (.ireturn, 1) := by decide +kernel
theorem dX8_isTooLate_0 : decode cX8_isTooLate 0 = .ok (.aload_n 0, 1) := by decide +kernel
theorem dX8_isTooLate_1 : decode cX8_isTooLate 1 = .ok (.getfield 7, 3) := by decide +kernel
theorem dX8_isTooLate_4 : decode cX8_isTooLate 4 = .ok (.iconst 0, 1) := by decide +kernel
theorem dX8_isTooLate_5 : decode cX8_isTooLate 5 = .ok (.iaload, 1) := by decide +kernel
theorem dX8_isTooLate_6 : decode cX8_isTooLate 6 = .ok (.aload_n 0, 1) := by decide +kernel
theorem dX8_isTooLate_7 : decode cX8_isTooLate 7 = .ok (.iload_n 1, 1) := by decide +kernel
theorem dX8_isTooLate_8 : decode cX8_isTooLate 8 = .ok (.iconst 4, 1) := by decide +kernel
theorem dX8_isTooLate_9 : decode cX8_isTooLate 9 = .ok (.invokevirtual 84, 3) := by decide +kernel
theorem dX8_isTooLate_12 : decode cX8_isTooLate 12 = .ok (.iadd, 1) := by decide +kernel
theorem dX8_isTooLate_13 : decode cX8_isTooLate 13 = .ok (.aload_n 0, 1) := by decide +kernel
theorem dX8_isTooLate_14 : decode cX8_isTooLate 14 = .ok (.iload_n 1, 1) := by decide +kernel
theorem dX8_isTooLate_15 : decode cX8_isTooLate 15 = .ok (.invokevirtual 97, 3) := by decide +kernel
theorem dX8_isTooLate_18 : decode cX8_isTooLate 18 = .ok (.if_icmp .le 7, 3) := by decide +kernel
theorem dX8_isTooLate_21 : decode cX8_isTooLate 21 = .ok (.iconst 1, 1) := by decide +kernel
theorem dX8_isTooLate_22 : decode cX8_isTooLate 22 = .ok (.goto 4, 3) := by decide +kernel
theorem dX8_isTooLate_25 : decode cX8_isTooLate 25 = .ok (.iconst 0, 1) := by decide +kernel
theorem dX8_isTooLate_26 : decode cX8_isTooLate 26 = .ok (.ireturn, 1) := by decide +kernel
theorem dX8_reasonOf_0 : decode cX8_reasonOf 0 = .ok (.aload_n 0, 1) := by decide +kernel
theorem dX8_reasonOf_1 : decode cX8_reasonOf 1 = .ok (.iload_n 1, 1) := by decide +kernel
theorem dX8_reasonOf_2 : decode cX8_reasonOf 2 = .ok (.invokevirtual 87, 3) := by decide +kernel
theorem dX8_reasonOf_5 : decode cX8_reasonOf 5 = .ok (.iconst 1, 1) := by decide +kernel
theorem dX8_reasonOf_6 : decode cX8_reasonOf 6 = .ok (.if_icmp .eq 5, 3) := by decide +kernel
theorem dX8_reasonOf_9 : decode cX8_reasonOf 9 = .ok (.iconst 1, 1) := by decide +kernel
theorem dX8_reasonOf_10 : decode cX8_reasonOf 10 = .ok (.ireturn, 1) := by decide +kernel
theorem dX8_reasonOf_11 : decode cX8_reasonOf 11 = .ok (.aload_n 0, 1) := by decide +kernel
theorem dX8_reasonOf_12 : decode cX8_reasonOf 12 = .ok (.getfield 7, 3) := by decide +kernel
theorem dX8_reasonOf_15 : decode cX8_reasonOf 15 = .ok (.iconst 0, 1) := by decide +kernel
theorem dX8_reasonOf_16 : decode cX8_reasonOf 16 = .ok (.iaload, 1) := by decide +kernel
theorem dX8_reasonOf_17 : decode cX8_reasonOf 17 = .ok (.aload_n 0, 1) := by decide +kernel
theorem dX8_reasonOf_18 : decode cX8_reasonOf 18 = .ok (.iload_n 1, 1) := by decide +kernel
theorem dX8_reasonOf_19 : decode cX8_reasonOf 19 = .ok (.iconst 5, 1) := by decide +kernel
theorem dX8_reasonOf_20 : decode cX8_reasonOf 20 = .ok (.invokevirtual 84, 3) := by decide +kernel
theorem dX8_reasonOf_23 : decode cX8_reasonOf 23 = .ok (.if_icmp .ge 5, 3) := by decide +kernel
theorem dX8_reasonOf_26 : decode cX8_reasonOf 26 = .ok (.iconst 2, 1) := by decide +kernel
theorem dX8_reasonOf_27 : decode cX8_reasonOf 27 = .ok (.ireturn, 1) := by decide +kernel
theorem dX8_reasonOf_28 : decode cX8_reasonOf 28 = .ok (.aload_n 0, 1) := by decide +kernel
theorem dX8_reasonOf_29 : decode cX8_reasonOf 29 = .ok (.iload_n 1, 1) := by decide +kernel
theorem dX8_reasonOf_30 : decode cX8_reasonOf 30 = .ok (.invokevirtual 100, 3) := by decide +kernel
theorem dX8_reasonOf_33 : decode cX8_reasonOf 33 = .ok (.ifCond .eq 5, 3) := by decide +kernel
theorem dX8_reasonOf_36 : decode cX8_reasonOf 36 = .ok (.iconst 3, 1) := by decide +kernel
theorem dX8_reasonOf_37 : decode cX8_reasonOf 37 = .ok (.ireturn, 1) := by decide +kernel
theorem dX8_reasonOf_38 : decode cX8_reasonOf 38 = .ok (.aload_n 0, 1) := by decide +kernel
theorem dX8_reasonOf_39 : decode cX8_reasonOf 39 = .ok (.iload_n 1, 1) := by decide +kernel
theorem dX8_reasonOf_40 : decode cX8_reasonOf 40 = .ok (.invokevirtual 103, 3) := by decide +kernel
theorem dX8_reasonOf_43 : decode cX8_reasonOf 43 = .ok (.bipush (-5), 2) := by decide +kernel
theorem dX8_reasonOf_45 : decode cX8_reasonOf 45 = .ok (.if_icmp .ne 7, 3) := by decide +kernel
theorem dX8_reasonOf_48 : decode cX8_reasonOf 48 = .ok (.iconst 0, 1) := by decide +kernel
theorem dX8_reasonOf_49 : decode cX8_reasonOf 49 = .ok (.goto 4, 3) := by decide +kernel
theorem dX8_reasonOf_52 : decode cX8_reasonOf 52 = .ok (.iconst 4, 1) := by decide +kernel
theorem dX8_reasonOf_53 : decode cX8_reasonOf 53 = .ok (.ireturn, 1) := by decide +kernel
theorem dX8_running_0 : decode cX8_running 0 = .ok (.iconst 0, 1) := by decide +kernel
theorem dX8_running_1 : decode cX8_running 1 = .ok (.istore_n 1, 1) := by decide +kernel
theorem dX8_running_2 : decode cX8_running 2 = .ok (.iconst 0, 1) := by decide +kernel
theorem dX8_running_3 : decode cX8_running 3 = .ok (.istore_n 2, 1) := by decide +kernel
theorem dX8_running_4 : decode cX8_running 4 = .ok (.iload_n 2, 1) := by decide +kernel
theorem dX8_running_5 : decode cX8_running 5 = .ok (.aload_n 0, 1) := by decide +kernel
theorem dX8_running_6 : decode cX8_running 6 = .ok (.getfield 7, 3) := by decide +kernel
theorem dX8_running_9 : decode cX8_running 9 = .ok (.iconst 1, 1) := by decide +kernel
theorem dX8_running_10 : decode cX8_running 10 = .ok (.iaload, 1) := by decide +kernel
theorem dX8_running_11 : decode cX8_running 11 = .ok (.if_icmp .ge 18, 3) := by decide +kernel
theorem dX8_running_14 : decode cX8_running 14 = .ok (.iload_n 1, 1) := by decide +kernel
theorem dX8_running_15 : decode cX8_running 15 = .ok (.aload_n 0, 1) := by decide +kernel
theorem dX8_running_16 : decode cX8_running 16 = .ok (.iload_n 2, 1) := by decide +kernel
theorem dX8_running_17 : decode cX8_running 17 = .ok (.iconst 2, 1) := by decide +kernel
theorem dX8_running_18 : decode cX8_running 18 = .ok (.invokevirtual 69, 3) := by decide +kernel
theorem dX8_running_21 : decode cX8_running 21 = .ok (.iadd, 1) := by decide +kernel
theorem dX8_running_22 : decode cX8_running 22 = .ok (.istore_n 1, 1) := by decide +kernel
theorem dX8_running_23 : decode cX8_running 23 = .ok (.iinc 2 1, 3) := by decide +kernel
theorem dX8_running_26 : decode cX8_running 26 = .ok (.goto (-22), 3) := by decide +kernel
theorem dX8_running_29 : decode cX8_running 29 = .ok (.iload_n 1, 1) := by decide +kernel
theorem dX8_running_30 : decode cX8_running 30 = .ok (.ireturn, 1) := by decide +kernel
theorem dX8_runError_0 : decode cX8_runError 0 = .ok (.aload_n 0, 1) := by decide +kernel
theorem dX8_runError_1 : decode cX8_runError 1 = .ok (.iload_n 1, 1) := by decide +kernel
theorem dX8_runError_2 : decode cX8_runError 2 = .ok (.invokevirtual 65, 3) := by decide +kernel
theorem dX8_runError_5 : decode cX8_runError 5 = .ok (.ifCond .ne 5, 3) := by decide +kernel
theorem dX8_runError_8 : decode cX8_runError 8 = .ok (.iconst (-1), 1) := by decide +kernel
theorem dX8_runError_9 : decode cX8_runError 9 = .ok (.ireturn, 1) := by decide +kernel
theorem dX8_runError_10 : decode cX8_runError 10 = .ok (.aload_n 0, 1) := by decide +kernel
theorem dX8_runError_11 : decode cX8_runError 11 = .ok (.iload_n 1, 1) := by decide +kernel
theorem dX8_runError_12 : decode cX8_runError 12 = .ok (.iconst 4, 1) := by decide +kernel
theorem dX8_runError_13 : decode cX8_runError 13 = .ok (.invokevirtual 69, 3) := by decide +kernel
theorem dX8_runError_16 : decode cX8_runError 16 = .ok (.ifCond .le 6, 3) := by decide +kernel
theorem dX8_runError_19 : decode cX8_runError 19 = .ok (.bipush (-4), 2) := by decide +kernel
theorem dX8_runError_21 : decode cX8_runError 21 = .ok (.ireturn, 1) := by decide +kernel
theorem dX8_runError_22 : decode cX8_runError 22 = .ok (.aload_n 0, 1) := by decide +kernel
theorem dX8_runError_23 : decode cX8_runError 23 = .ok (.iload_n 1, 1) := by decide +kernel
theorem dX8_runError_24 : decode cX8_runError 24 = .ok (.iconst 2, 1) := by decide +kernel
theorem dX8_runError_25 : decode cX8_runError 25 = .ok (.invokevirtual 69, 3) := by decide +kernel
theorem dX8_runError_28 : decode cX8_runError 28 = .ok (.iconst 1, 1) := by decide +kernel
theorem dX8_runError_29 : decode cX8_runError 29 = .ok (.if_icmp .ne 8, 3) := by decide +kernel
theorem dX8_runError_32 : decode cX8_runError 32 = .ok (.bipush (-5), 2) := by decide +kernel
theorem dX8_runError_34 : decode cX8_runError 34 = .ok (.goto 4, 3) := by decide +kernel
theorem dX8_runError_37 : decode cX8_runError 37 = .ok (.iconst 0, 1) := by decide +kernel
theorem dX8_runError_38 : decode cX8_runError 38 = .ok (.ireturn, 1) := by decide +kernel
theorem dX8_stopError_0 : decode cX8_stopError 0 = .ok (.aload_n 0, 1) := by decide +kernel
theorem dX8_stopError_1 : decode cX8_stopError 1 = .ok (.iload_n 1, 1) := by decide +kernel
theorem dX8_stopError_2 : decode cX8_stopError 2 = .ok (.invokevirtual 65, 3) := by decide +kernel
theorem dX8_stopError_5 : decode cX8_stopError 5 = .ok (.ifCond .ne 5, 3) := by decide +kernel
theorem dX8_stopError_8 : decode cX8_stopError 8 = .ok (.iconst (-1), 1) := by decide +kernel
theorem dX8_stopError_9 : decode cX8_stopError 9 = .ok (.ireturn, 1) := by decide +kernel
theorem dX8_stopError_10 : decode cX8_stopError 10 = .ok (.aload_n 0, 1) := by decide +kernel
theorem dX8_stopError_11 : decode cX8_stopError 11 = .ok (.iload_n 1, 1) := by decide +kernel
theorem dX8_stopError_12 : decode cX8_stopError 12 = .ok (.iconst 2, 1) := by decide +kernel
theorem dX8_stopError_13 : decode cX8_stopError 13 = .ok (.invokevirtual 69, 3) := by decide +kernel
theorem dX8_stopError_16 : decode cX8_stopError 16 = .ok (.ifCond .ne 8, 3) := by decide +kernel
theorem dX8_stopError_19 : decode cX8_stopError 19 = .ok (.bipush (-5), 2) := by decide +kernel
theorem dX8_stopError_21 : decode cX8_stopError 21 = .ok (.goto 4, 3) := by decide +kernel
theorem dX8_stopError_24 : decode cX8_stopError 24 = .ok (.iconst 0, 1) := by decide +kernel
theorem dX8_stopError_25 : decode cX8_stopError 25 = .ok (.ireturn, 1) := by decide +kernel
theorem dX8_goes_0 : decode cX8_goes 0 = .ok (.aload_n 0, 1) := by decide +kernel
theorem dX8_goes_1 : decode cX8_goes 1 = .ok (.iload_n 1, 1) := by decide +kernel
theorem dX8_goes_2 : decode cX8_goes 2 = .ok (.iconst 2, 1) := by decide +kernel
theorem dX8_goes_3 : decode cX8_goes 3 = .ok (.iload_n 2, 1) := by decide +kernel
theorem dX8_goes_4 : decode cX8_goes 4 = .ok (.invokevirtual 61, 3) := by decide +kernel
theorem dX8_goes_7 : decode cX8_goes 7 = .ok (.aload_n 0, 1) := by decide +kernel
theorem dX8_goes_8 : decode cX8_goes 8 = .ok (.invokevirtual 106, 3) := by decide +kernel
theorem dX8_goes_11 : decode cX8_goes 11 = .ok (.ireturn, 1) := by decide +kernel
theorem dX8_run_0 : decode cX8_run 0 = .ok (.aload_n 0, 1) := by decide +kernel
theorem dX8_run_1 : decode cX8_run 1 = .ok (.iload_n 1, 1) := by decide +kernel
theorem dX8_run_2 : decode cX8_run 2 = .ok (.invokevirtual 110, 3) := by decide +kernel
theorem dX8_run_5 : decode cX8_run 5 = .ok (.istore_n 2, 1) := by decide +kernel
theorem dX8_run_6 : decode cX8_run 6 = .ok (.iload_n 2, 1) := by decide +kernel
theorem dX8_run_7 : decode cX8_run 7 = .ok (.ifCond .eq 5, 3) := by decide +kernel
theorem dX8_run_10 : decode cX8_run 10 = .ok (.iload_n 2, 1) := by decide +kernel
theorem dX8_run_11 : decode cX8_run 11 = .ok (.ireturn, 1) := by decide +kernel
theorem dX8_run_12 : decode cX8_run 12 = .ok (.aload_n 0, 1) := by decide +kernel
theorem dX8_run_13 : decode cX8_run 13 = .ok (.invokevirtual 58, 3) := by decide +kernel
theorem dX8_run_16 : decode cX8_run 16 = .ok (.aload_n 0, 1) := by decide +kernel
theorem dX8_run_17 : decode cX8_run 17 = .ok (.iload_n 1, 1) := by decide +kernel
theorem dX8_run_18 : decode cX8_run 18 = .ok (.iconst 1, 1) := by decide +kernel
theorem dX8_run_19 : decode cX8_run 19 = .ok (.invokevirtual 113, 3) := by decide +kernel
theorem dX8_run_22 : decode cX8_run 22 = .ok (.ireturn, 1) := by decide +kernel
theorem dX8_stop_0 : decode cX8_stop 0 = .ok (.aload_n 0, 1) := by decide +kernel
theorem dX8_stop_1 : decode cX8_stop 1 = .ok (.iload_n 1, 1) := by decide +kernel
theorem dX8_stop_2 : decode cX8_stop 2 = .ok (.invokevirtual 116, 3) := by decide +kernel
theorem dX8_stop_5 : decode cX8_stop 5 = .ok (.istore_n 2, 1) := by decide +kernel
theorem dX8_stop_6 : decode cX8_stop 6 = .ok (.iload_n 2, 1) := by decide +kernel
theorem dX8_stop_7 : decode cX8_stop 7 = .ok (.ifCond .eq 5, 3) := by decide +kernel
theorem dX8_stop_10 : decode cX8_stop 10 = .ok (.iload_n 2, 1) := by decide +kernel
theorem dX8_stop_11 : decode cX8_stop 11 = .ok (.ireturn, 1) := by decide +kernel
theorem dX8_stop_12 : decode cX8_stop 12 = .ok (.aload_n 0, 1) := by decide +kernel
theorem dX8_stop_13 : decode cX8_stop 13 = .ok (.invokevirtual 58, 3) := by decide +kernel
theorem dX8_stop_16 : decode cX8_stop 16 = .ok (.aload_n 0, 1) := by decide +kernel
theorem dX8_stop_17 : decode cX8_stop 17 = .ok (.iload_n 1, 1) := by decide +kernel
theorem dX8_stop_18 : decode cX8_stop 18 = .ok (.iconst 0, 1) := by decide +kernel
theorem dX8_stop_19 : decode cX8_stop 19 = .ok (.invokevirtual 113, 3) := by decide +kernel
theorem dX8_stop_22 : decode cX8_stop 22 = .ok (.ireturn, 1) := by decide +kernel
theorem dX8_hangError_0 : decode cX8_hangError 0 = .ok (.aload_n 0, 1) := by decide +kernel
theorem dX8_hangError_1 : decode cX8_hangError 1 = .ok (.iload_n 1, 1) := by decide +kernel
theorem dX8_hangError_2 : decode cX8_hangError 2 = .ok (.invokevirtual 119, 3) := by decide +kernel
theorem dX8_hangError_5 : decode cX8_hangError 5 = .ok (.ifCond .eq 11, 3) := by decide +kernel
theorem dX8_hangError_8 : decode cX8_hangError 8 = .ok (.aload_n 0, 1) := by decide +kernel
theorem dX8_hangError_9 : decode cX8_hangError 9 = .ok (.iload_n 2, 1) := by decide +kernel
theorem dX8_hangError_10 : decode cX8_hangError 10 = .ok (.invokevirtual 122, 3) := by decide +kernel
theorem dX8_hangError_13 : decode cX8_hangError 13 = .ok (.ifCond .ne 5, 3) := by decide +kernel
theorem dX8_hangError_16 : decode cX8_hangError 16 = .ok (.iconst (-1), 1) := by decide +kernel
theorem dX8_hangError_17 : decode cX8_hangError 17 = .ok (.ireturn, 1) := by decide +kernel
theorem dX8_hangError_18 : decode cX8_hangError 18 = .ok (.aload_n 0, 1) := by decide +kernel
theorem dX8_hangError_19 : decode cX8_hangError 19 = .ok (.iload_n 1, 1) := by decide +kernel
theorem dX8_hangError_20 : decode cX8_hangError 20 = .ok (.invokevirtual 87, 3) := by decide +kernel
theorem dX8_hangError_23 : decode cX8_hangError 23 = .ok (.ifCond .ne 30, 3) := by decide +kernel
theorem dX8_hangError_26 : decode cX8_hangError 26 = .ok (.aload_n 0, 1) := by decide +kernel
theorem dX8_hangError_27 : decode cX8_hangError 27 = .ok (.aload_n 0, 1) := by decide +kernel
theorem dX8_hangError_28 : decode cX8_hangError 28 = .ok (.iload_n 1, 1) := by decide +kernel
theorem dX8_hangError_29 : decode cX8_hangError 29 = .ok (.iconst 0, 1) := by decide +kernel
theorem dX8_hangError_30 : decode cX8_hangError 30 = .ok (.invokevirtual 84, 3) := by decide +kernel
theorem dX8_hangError_33 : decode cX8_hangError 33 = .ok (.iconst 2, 1) := by decide +kernel
theorem dX8_hangError_34 : decode cX8_hangError 34 = .ok (.invokevirtual 69, 3) := by decide +kernel
theorem dX8_hangError_37 : decode cX8_hangError 37 = .ok (.ifCond .ne 16, 3) := by decide +kernel
theorem dX8_hangError_40 : decode cX8_hangError 40 = .ok (.aload_n 0, 1) := by decide +kernel
theorem dX8_hangError_41 : decode cX8_hangError 41 = .ok (.iload_n 1, 1) := by decide +kernel
theorem dX8_hangError_42 : decode cX8_hangError 42 = .ok (.iload_n 2, 1) := by decide +kernel
theorem dX8_hangError_43 : decode cX8_hangError 43 = .ok (.invokevirtual 125, 3) := by decide +kernel
theorem dX8_hangError_46 : decode cX8_hangError 46 = .ok (.ifCond .eq 7, 3) := by decide +kernel
theorem dX8_hangError_49 : decode cX8_hangError 49 = .ok (.iconst 1, 1) := by decide +kernel
theorem dX8_hangError_50 : decode cX8_hangError 50 = .ok (.goto 4, 3) := by decide +kernel
theorem dX8_hangError_53 : decode cX8_hangError 53 = .ok (.iconst 0, 1) := by decide +kernel
theorem dX8_hangError_54 : decode cX8_hangError 54 = .ok (.istore_n 3, 1) := by decide +kernel
theorem dX8_hangError_55 : decode cX8_hangError 55 = .ok (.iload_n 3, 1) := by decide +kernel
theorem dX8_hangError_56 : decode cX8_hangError 56 = .ok (.ifCond .eq 7, 3) := by decide +kernel
theorem dX8_hangError_59 : decode cX8_hangError 59 = .ok (.iconst 0, 1) := by decide +kernel
theorem dX8_hangError_60 : decode cX8_hangError 60 = .ok (.goto 5, 3) := by decide +kernel
theorem dX8_hangError_63 : decode cX8_hangError 63 = .ok (.bipush (-4), 2) := by decide +kernel
theorem dX8_hangError_65 : decode cX8_hangError 65 = .ok (.ireturn, 1) := by decide +kernel
theorem dX8_hangs_0 : decode cX8_hangs 0 = .ok (.aload_n 0, 1) := by decide +kernel
theorem dX8_hangs_1 : decode cX8_hangs 1 = .ok (.iload_n 1, 1) := by decide +kernel
theorem dX8_hangs_2 : decode cX8_hangs 2 = .ok (.iconst 0, 1) := by decide +kernel
theorem dX8_hangs_3 : decode cX8_hangs 3 = .ok (.invokevirtual 84, 3) := by decide +kernel
theorem dX8_hangs_6 : decode cX8_hangs 6 = .ok (.istore_n 3, 1) := by decide +kernel
theorem dX8_hangs_7 : decode cX8_hangs 7 = .ok (.aload_n 0, 1) := by decide +kernel
theorem dX8_hangs_8 : decode cX8_hangs 8 = .ok (.iload_n 3, 1) := by decide +kernel
theorem dX8_hangs_9 : decode cX8_hangs 9 = .ok (.iconst 4, 1) := by decide +kernel
theorem dX8_hangs_10 : decode cX8_hangs 10 = .ok (.invokevirtual 69, 3) := by decide +kernel
theorem dX8_hangs_13 : decode cX8_hangs 13 = .ok (.istore 4, 2) := by decide +kernel
theorem dX8_hangs_15 : decode cX8_hangs 15 = .ok (.aload_n 0, 1) := by decide +kernel
theorem dX8_hangs_16 : decode cX8_hangs 16 = .ok (.getfield 7, 3) := by decide +kernel
theorem dX8_hangs_19 : decode cX8_hangs 19 = .ok (.bipush 44, 2) := by decide +kernel
theorem dX8_hangs_21 : decode cX8_hangs 21 = .ok (.bipush 24, 2) := by decide +kernel
theorem dX8_hangs_23 : decode cX8_hangs 23 = .ok (.iload_n 3, 1) := by decide +kernel
theorem dX8_hangs_24 : decode cX8_hangs 24 = .ok (.imul, 1) := by decide +kernel
theorem dX8_hangs_25 : decode cX8_hangs 25 = .ok (.iadd, 1) := by decide +kernel
theorem dX8_hangs_26 : decode cX8_hangs 26 = .ok (.iload 4, 2) := by decide +kernel
theorem dX8_hangs_28 : decode cX8_hangs 28 = .ok (.iadd, 1) := by decide +kernel
theorem dX8_hangs_29 : decode cX8_hangs 29 = .ok (.iload_n 1, 1) := by decide +kernel
theorem dX8_hangs_30 : decode cX8_hangs 30 = .ok (.iastore, 1) := by decide +kernel
theorem dX8_hangs_31 : decode cX8_hangs 31 = .ok (.aload_n 0, 1) := by decide +kernel
theorem dX8_hangs_32 : decode cX8_hangs 32 = .ok (.iload_n 3, 1) := by decide +kernel
theorem dX8_hangs_33 : decode cX8_hangs 33 = .ok (.iconst 4, 1) := by decide +kernel
theorem dX8_hangs_34 : decode cX8_hangs 34 = .ok (.iload 4, 2) := by decide +kernel
theorem dX8_hangs_36 : decode cX8_hangs 36 = .ok (.iconst 1, 1) := by decide +kernel
theorem dX8_hangs_37 : decode cX8_hangs 37 = .ok (.iadd, 1) := by decide +kernel
theorem dX8_hangs_38 : decode cX8_hangs 38 = .ok (.invokevirtual 61, 3) := by decide +kernel
theorem dX8_hangs_41 : decode cX8_hangs 41 = .ok (.aload_n 0, 1) := by decide +kernel
theorem dX8_hangs_42 : decode cX8_hangs 42 = .ok (.iload_n 1, 1) := by decide +kernel
theorem dX8_hangs_43 : decode cX8_hangs 43 = .ok (.bipush 6, 2) := by decide +kernel
theorem dX8_hangs_45 : decode cX8_hangs 45 = .ok (.iconst 1, 1) := by decide +kernel
theorem dX8_hangs_46 : decode cX8_hangs 46 = .ok (.invokevirtual 81, 3) := by decide +kernel
theorem dX8_hangs_49 : decode cX8_hangs 49 = .ok (.aload_n 0, 1) := by decide +kernel
theorem dX8_hangs_50 : decode cX8_hangs 50 = .ok (.iload_n 1, 1) := by decide +kernel
theorem dX8_hangs_51 : decode cX8_hangs 51 = .ok (.bipush 7, 2) := by decide +kernel
theorem dX8_hangs_53 : decode cX8_hangs 53 = .ok (.iload_n 2, 1) := by decide +kernel
theorem dX8_hangs_54 : decode cX8_hangs 54 = .ok (.invokevirtual 81, 3) := by decide +kernel
theorem dX8_hangs_57 : decode cX8_hangs 57 = .ok (.iload 4, 2) := by decide +kernel
theorem dX8_hangs_59 : decode cX8_hangs 59 = .ok (.iconst 1, 1) := by decide +kernel
theorem dX8_hangs_60 : decode cX8_hangs 60 = .ok (.iadd, 1) := by decide +kernel
theorem dX8_hangs_61 : decode cX8_hangs 61 = .ok (.ireturn, 1) := by decide +kernel
theorem dX8_hang_0 : decode cX8_hang 0 = .ok (.aload_n 0, 1) := by decide +kernel
theorem dX8_hang_1 : decode cX8_hang 1 = .ok (.iload_n 1, 1) := by decide +kernel
theorem dX8_hang_2 : decode cX8_hang 2 = .ok (.iload_n 2, 1) := by decide +kernel
theorem dX8_hang_3 : decode cX8_hang 3 = .ok (.invokevirtual 128, 3) := by decide +kernel
theorem dX8_hang_6 : decode cX8_hang 6 = .ok (.istore_n 3, 1) := by decide +kernel
theorem dX8_hang_7 : decode cX8_hang 7 = .ok (.iload_n 3, 1) := by decide +kernel
theorem dX8_hang_8 : decode cX8_hang 8 = .ok (.ifCond .eq 5, 3) := by decide +kernel
theorem dX8_hang_11 : decode cX8_hang 11 = .ok (.iload_n 3, 1) := by decide +kernel
theorem dX8_hang_12 : decode cX8_hang 12 = .ok (.ireturn, 1) := by decide +kernel
theorem dX8_hang_13 : decode cX8_hang 13 = .ok (.aload_n 0, 1) := by decide +kernel
theorem dX8_hang_14 : decode cX8_hang 14 = .ok (.invokevirtual 58, 3) := by decide +kernel
theorem dX8_hang_17 : decode cX8_hang 17 = .ok (.aload_n 0, 1) := by decide +kernel
theorem dX8_hang_18 : decode cX8_hang 18 = .ok (.iload_n 1, 1) := by decide +kernel
theorem dX8_hang_19 : decode cX8_hang 19 = .ok (.iload_n 2, 1) := by decide +kernel
theorem dX8_hang_20 : decode cX8_hang 20 = .ok (.invokevirtual 131, 3) := by decide +kernel
theorem dX8_hang_23 : decode cX8_hang 23 = .ok (.ireturn, 1) := by decide +kernel
theorem dX8_beginError_0 : decode cX8_beginError 0 = .ok (.aload_n 0, 1) := by decide +kernel
theorem dX8_beginError_1 : decode cX8_beginError 1 = .ok (.iload_n 1, 1) := by decide +kernel
theorem dX8_beginError_2 : decode cX8_beginError 2 = .ok (.invokevirtual 119, 3) := by decide +kernel
theorem dX8_beginError_5 : decode cX8_beginError 5 = .ok (.ifCond .ne 5, 3) := by decide +kernel
theorem dX8_beginError_8 : decode cX8_beginError 8 = .ok (.iconst (-1), 1) := by decide +kernel
theorem dX8_beginError_9 : decode cX8_beginError 9 = .ok (.ireturn, 1) := by decide +kernel
theorem dX8_beginError_10 : decode cX8_beginError 10 = .ok (.aload_n 0, 1) := by decide +kernel
theorem dX8_beginError_11 : decode cX8_beginError 11 = .ok (.iload_n 1, 1) := by decide +kernel
theorem dX8_beginError_12 : decode cX8_beginError 12 = .ok (.invokevirtual 134, 3) := by decide +kernel
theorem dX8_beginError_15 : decode cX8_beginError 15 = .ok (.ifCond .ne 7, 3) := by decide +kernel
theorem dX8_beginError_18 : decode cX8_beginError 18 = .ok (.iconst 0, 1) := by decide +kernel
theorem dX8_beginError_19 : decode cX8_beginError 19 = .ok (.goto 5, 3) := by decide +kernel
theorem dX8_beginError_22 : decode cX8_beginError 22 = .ok (.bipush (-4), 2) := by decide +kernel
theorem dX8_beginError_24 : decode cX8_beginError 24 = .ok (.ireturn, 1) := by decide +kernel
theorem dX8_begins_0 : decode cX8_begins 0 = .ok (.aload_n 0, 1) := by decide +kernel
theorem dX8_begins_1 : decode cX8_begins 1 = .ok (.iload_n 1, 1) := by decide +kernel
theorem dX8_begins_2 : decode cX8_begins 2 = .ok (.bipush 6, 2) := by decide +kernel
theorem dX8_begins_4 : decode cX8_begins 4 = .ok (.iconst 2, 1) := by decide +kernel
theorem dX8_begins_5 : decode cX8_begins 5 = .ok (.invokevirtual 81, 3) := by decide +kernel
theorem dX8_begins_8 : decode cX8_begins 8 = .ok (.aload_n 0, 1) := by decide +kernel
theorem dX8_begins_9 : decode cX8_begins 9 = .ok (.iload_n 1, 1) := by decide +kernel
theorem dX8_begins_10 : decode cX8_begins 10 = .ok (.bipush 8, 2) := by decide +kernel
theorem dX8_begins_12 : decode cX8_begins 12 = .ok (.aload_n 0, 1) := by decide +kernel
theorem dX8_begins_13 : decode cX8_begins 13 = .ok (.iload_n 1, 1) := by decide +kernel
theorem dX8_begins_14 : decode cX8_begins 14 = .ok (.iconst 4, 1) := by decide +kernel
theorem dX8_begins_15 : decode cX8_begins 15 = .ok (.invokevirtual 84, 3) := by decide +kernel
theorem dX8_begins_18 : decode cX8_begins 18 = .ok (.invokevirtual 81, 3) := by decide +kernel
theorem dX8_begins_21 : decode cX8_begins 21 = .ok (.aload_n 0, 1) := by decide +kernel
theorem dX8_begins_22 : decode cX8_begins 22 = .ok (.getfield 7, 3) := by decide +kernel
theorem dX8_begins_25 : decode cX8_begins 25 = .ok (.iconst 0, 1) := by decide +kernel
theorem dX8_begins_26 : decode cX8_begins 26 = .ok (.iaload, 1) := by decide +kernel
theorem dX8_begins_27 : decode cX8_begins 27 = .ok (.aload_n 0, 1) := by decide +kernel
theorem dX8_begins_28 : decode cX8_begins 28 = .ok (.iload_n 1, 1) := by decide +kernel
theorem dX8_begins_29 : decode cX8_begins 29 = .ok (.iconst 4, 1) := by decide +kernel
theorem dX8_begins_30 : decode cX8_begins 30 = .ok (.invokevirtual 84, 3) := by decide +kernel
theorem dX8_begins_33 : decode cX8_begins 33 = .ok (.iadd, 1) := by decide +kernel
theorem dX8_begins_34 : decode cX8_begins 34 = .ok (.ireturn, 1) := by decide +kernel
theorem dX8_begin_0 : decode cX8_begin 0 = .ok (.aload_n 0, 1) := by decide +kernel
theorem dX8_begin_1 : decode cX8_begin 1 = .ok (.iload_n 1, 1) := by decide +kernel
theorem dX8_begin_2 : decode cX8_begin 2 = .ok (.invokevirtual 137, 3) := by decide +kernel
theorem dX8_begin_5 : decode cX8_begin 5 = .ok (.istore_n 2, 1) := by decide +kernel
theorem dX8_begin_6 : decode cX8_begin 6 = .ok (.iload_n 2, 1) := by decide +kernel
theorem dX8_begin_7 : decode cX8_begin 7 = .ok (.ifCond .eq 5, 3) := by decide +kernel
theorem dX8_begin_10 : decode cX8_begin 10 = .ok (.iload_n 2, 1) := by decide +kernel
theorem dX8_begin_11 : decode cX8_begin 11 = .ok (.ireturn, 1) := by decide +kernel
theorem dX8_begin_12 : decode cX8_begin 12 = .ok (.aload_n 0, 1) := by decide +kernel
theorem dX8_begin_13 : decode cX8_begin 13 = .ok (.invokevirtual 58, 3) := by decide +kernel
theorem dX8_begin_16 : decode cX8_begin 16 = .ok (.aload_n 0, 1) := by decide +kernel
theorem dX8_begin_17 : decode cX8_begin 17 = .ok (.iload_n 1, 1) := by decide +kernel
theorem dX8_begin_18 : decode cX8_begin 18 = .ok (.invokevirtual 140, 3) := by decide +kernel
theorem dX8_begin_21 : decode cX8_begin 21 = .ok (.ireturn, 1) := by decide +kernel
theorem dX8_topOf_0 : decode cX8_topOf 0 = .ok (.aload_n 0, 1) := by decide +kernel
theorem dX8_topOf_1 : decode cX8_topOf 1 = .ok (.iload_n 1, 1) := by decide +kernel
theorem dX8_topOf_2 : decode cX8_topOf 2 = .ok (.iconst 4, 1) := by decide +kernel
theorem dX8_topOf_3 : decode cX8_topOf 3 = .ok (.invokevirtual 69, 3) := by decide +kernel
theorem dX8_topOf_6 : decode cX8_topOf 6 = .ok (.istore_n 2, 1) := by decide +kernel
theorem dX8_topOf_7 : decode cX8_topOf 7 = .ok (.iload_n 2, 1) := by decide +kernel
theorem dX8_topOf_8 : decode cX8_topOf 8 = .ok (.ifCond .ne 8, 3) := by decide +kernel
theorem dX8_topOf_11 : decode cX8_topOf 11 = .ok (.bipush (-5), 2) := by decide +kernel
theorem dX8_topOf_13 : decode cX8_topOf 13 = .ok (.goto 19, 3) := by decide +kernel
theorem dX8_topOf_16 : decode cX8_topOf 16 = .ok (.aload_n 0, 1) := by decide +kernel
theorem dX8_topOf_17 : decode cX8_topOf 17 = .ok (.getfield 7, 3) := by decide +kernel
theorem dX8_topOf_20 : decode cX8_topOf 20 = .ok (.bipush 44, 2) := by decide +kernel
theorem dX8_topOf_22 : decode cX8_topOf 22 = .ok (.bipush 24, 2) := by decide +kernel
theorem dX8_topOf_24 : decode cX8_topOf 24 = .ok (.iload_n 1, 1) := by decide +kernel
theorem dX8_topOf_25 : decode cX8_topOf 25 = .ok (.imul, 1) := by decide +kernel
theorem dX8_topOf_26 : decode cX8_topOf 26 = .ok (.iadd, 1) := by decide +kernel
theorem dX8_topOf_27 : decode cX8_topOf 27 = .ok (.iload_n 2, 1) := by decide +kernel
theorem dX8_topOf_28 : decode cX8_topOf 28 = .ok (.iadd, 1) := by decide +kernel
theorem dX8_topOf_29 : decode cX8_topOf 29 = .ok (.iconst 1, 1) := by decide +kernel
theorem dX8_topOf_30 : decode cX8_topOf 30 = .ok (.isub, 1) := by decide +kernel
theorem dX8_topOf_31 : decode cX8_topOf 31 = .ok (.iaload, 1) := by decide +kernel
theorem dX8_topOf_32 : decode cX8_topOf 32 = .ok (.ireturn, 1) := by decide +kernel
theorem dX8_liftError_0 : decode cX8_liftError 0 = .ok (.aload_n 0, 1) := by decide +kernel
theorem dX8_liftError_1 : decode cX8_liftError 1 = .ok (.iload_n 1, 1) := by decide +kernel
theorem dX8_liftError_2 : decode cX8_liftError 2 = .ok (.invokevirtual 119, 3) := by decide +kernel
theorem dX8_liftError_5 : decode cX8_liftError 5 = .ok (.ifCond .eq 11, 3) := by decide +kernel
theorem dX8_liftError_8 : decode cX8_liftError 8 = .ok (.aload_n 0, 1) := by decide +kernel
theorem dX8_liftError_9 : decode cX8_liftError 9 = .ok (.iload_n 2, 1) := by decide +kernel
theorem dX8_liftError_10 : decode cX8_liftError 10 = .ok (.invokevirtual 122, 3) := by decide +kernel
theorem dX8_liftError_13 : decode cX8_liftError 13 = .ok (.ifCond .ne 5, 3) := by decide +kernel
theorem dX8_liftError_16 : decode cX8_liftError 16 = .ok (.iconst (-1), 1) := by decide +kernel
theorem dX8_liftError_17 : decode cX8_liftError 17 = .ok (.ireturn, 1) := by decide +kernel
theorem dX8_liftError_18 : decode cX8_liftError 18 = .ok (.aload_n 0, 1) := by decide +kernel
theorem dX8_liftError_19 : decode cX8_liftError 19 = .ok (.iload_n 1, 1) := by decide +kernel
theorem dX8_liftError_20 : decode cX8_liftError 20 = .ok (.invokevirtual 87, 3) := by decide +kernel
theorem dX8_liftError_23 : decode cX8_liftError 23 = .ok (.iconst 1, 1) := by decide +kernel
theorem dX8_liftError_24 : decode cX8_liftError 24 = .ok (.if_icmp .eq 12, 3) := by decide +kernel
theorem dX8_liftError_27 : decode cX8_liftError 27 = .ok (.aload_n 0, 1) := by decide +kernel
theorem dX8_liftError_28 : decode cX8_liftError 28 = .ok (.iload_n 1, 1) := by decide +kernel
theorem dX8_liftError_29 : decode cX8_liftError 29 = .ok (.invokevirtual 87, 3) := by decide +kernel
theorem dX8_liftError_32 : decode cX8_liftError 32 = .ok (.iconst 3, 1) := by decide +kernel
theorem dX8_liftError_33 : decode cX8_liftError 33 = .ok (.if_icmp .ne 7, 3) := by decide +kernel
theorem dX8_liftError_36 : decode cX8_liftError 36 = .ok (.iconst 1, 1) := by decide +kernel
theorem dX8_liftError_37 : decode cX8_liftError 37 = .ok (.goto 4, 3) := by decide +kernel
theorem dX8_liftError_40 : decode cX8_liftError 40 = .ok (.iconst 0, 1) := by decide +kernel
theorem dX8_liftError_41 : decode cX8_liftError 41 = .ok (.istore_n 3, 1) := by decide +kernel
theorem dX8_liftError_42 : decode cX8_liftError 42 = .ok (.iload_n 3, 1) := by decide +kernel
theorem dX8_liftError_43 : decode cX8_liftError 43 = .ok (.ifCond .eq 32, 3) := by decide +kernel
theorem dX8_liftError_46 : decode cX8_liftError 46 = .ok (.aload_n 0, 1) := by decide +kernel
theorem dX8_liftError_47 : decode cX8_liftError 47 = .ok (.iload_n 1, 1) := by decide +kernel
theorem dX8_liftError_48 : decode cX8_liftError 48 = .ok (.bipush 7, 2) := by decide +kernel
theorem dX8_liftError_50 : decode cX8_liftError 50 = .ok (.invokevirtual 84, 3) := by decide +kernel
theorem dX8_liftError_53 : decode cX8_liftError 53 = .ok (.iload_n 2, 1) := by decide +kernel
theorem dX8_liftError_54 : decode cX8_liftError 54 = .ok (.if_icmp .ne 21, 3) := by decide +kernel
theorem dX8_liftError_57 : decode cX8_liftError 57 = .ok (.aload_n 0, 1) := by decide +kernel
theorem dX8_liftError_58 : decode cX8_liftError 58 = .ok (.aload_n 0, 1) := by decide +kernel
theorem dX8_liftError_59 : decode cX8_liftError 59 = .ok (.iload_n 1, 1) := by decide +kernel
theorem dX8_liftError_60 : decode cX8_liftError 60 = .ok (.iconst 0, 1) := by decide +kernel
theorem dX8_liftError_61 : decode cX8_liftError 61 = .ok (.invokevirtual 84, 3) := by decide +kernel
theorem dX8_liftError_64 : decode cX8_liftError 64 = .ok (.invokevirtual 143, 3) := by decide +kernel
theorem dX8_liftError_67 : decode cX8_liftError 67 = .ok (.iload_n 1, 1) := by decide +kernel
theorem dX8_liftError_68 : decode cX8_liftError 68 = .ok (.if_icmp .ne 7, 3) := by decide +kernel
theorem dX8_liftError_71 : decode cX8_liftError 71 = .ok (.iconst 0, 1) := by decide +kernel
theorem dX8_liftError_72 : decode cX8_liftError 72 = .ok (.goto 5, 3) := by decide +kernel
theorem dX8_liftError_75 : decode cX8_liftError 75 = .ok (.bipush (-4), 2) := by decide +kernel
theorem dX8_liftError_77 : decode cX8_liftError 77 = .ok (.ireturn, 1) := by decide +kernel
theorem dX8_lifts_0 : decode cX8_lifts 0 = .ok (.aload_n 0, 1) := by decide +kernel
theorem dX8_lifts_1 : decode cX8_lifts 1 = .ok (.iload_n 1, 1) := by decide +kernel
theorem dX8_lifts_2 : decode cX8_lifts 2 = .ok (.iconst 0, 1) := by decide +kernel
theorem dX8_lifts_3 : decode cX8_lifts 3 = .ok (.invokevirtual 84, 3) := by decide +kernel
theorem dX8_lifts_6 : decode cX8_lifts 6 = .ok (.istore_n 2, 1) := by decide +kernel
theorem dX8_lifts_7 : decode cX8_lifts 7 = .ok (.aload_n 0, 1) := by decide +kernel
theorem dX8_lifts_8 : decode cX8_lifts 8 = .ok (.iload_n 2, 1) := by decide +kernel
theorem dX8_lifts_9 : decode cX8_lifts 9 = .ok (.iconst 4, 1) := by decide +kernel
theorem dX8_lifts_10 : decode cX8_lifts 10 = .ok (.aload_n 0, 1) := by decide +kernel
theorem dX8_lifts_11 : decode cX8_lifts 11 = .ok (.iload_n 2, 1) := by decide +kernel
theorem dX8_lifts_12 : decode cX8_lifts 12 = .ok (.iconst 4, 1) := by decide +kernel
theorem dX8_lifts_13 : decode cX8_lifts 13 = .ok (.invokevirtual 69, 3) := by decide +kernel
theorem dX8_lifts_16 : decode cX8_lifts 16 = .ok (.iconst 1, 1) := by decide +kernel
theorem dX8_lifts_17 : decode cX8_lifts 17 = .ok (.isub, 1) := by decide +kernel
theorem dX8_lifts_18 : decode cX8_lifts 18 = .ok (.invokevirtual 61, 3) := by decide +kernel
theorem dX8_lifts_21 : decode cX8_lifts 21 = .ok (.aload_n 0, 1) := by decide +kernel
theorem dX8_lifts_22 : decode cX8_lifts 22 = .ok (.iload_n 1, 1) := by decide +kernel
theorem dX8_lifts_23 : decode cX8_lifts 23 = .ok (.invokevirtual 87, 3) := by decide +kernel
theorem dX8_lifts_26 : decode cX8_lifts 26 = .ok (.iconst 3, 1) := by decide +kernel
theorem dX8_lifts_27 : decode cX8_lifts 27 = .ok (.if_icmp .ne 14, 3) := by decide +kernel
theorem dX8_lifts_30 : decode cX8_lifts 30 = .ok (.aload_n 0, 1) := by decide +kernel
theorem dX8_lifts_31 : decode cX8_lifts 31 = .ok (.iload_n 1, 1) := by decide +kernel
theorem dX8_lifts_32 : decode cX8_lifts 32 = .ok (.bipush 6, 2) := by decide +kernel
theorem dX8_lifts_34 : decode cX8_lifts 34 = .ok (.iconst 4, 1) := by decide +kernel
theorem dX8_lifts_35 : decode cX8_lifts 35 = .ok (.invokevirtual 81, 3) := by decide +kernel
theorem dX8_lifts_38 : decode cX8_lifts 38 = .ok (.goto 20, 3) := by decide +kernel
theorem dX8_lifts_41 : decode cX8_lifts 41 = .ok (.aload_n 0, 1) := by decide +kernel
theorem dX8_lifts_42 : decode cX8_lifts 42 = .ok (.iload_n 1, 1) := by decide +kernel
theorem dX8_lifts_43 : decode cX8_lifts 43 = .ok (.bipush 6, 2) := by decide +kernel
theorem dX8_lifts_45 : decode cX8_lifts 45 = .ok (.iconst 0, 1) := by decide +kernel
theorem dX8_lifts_46 : decode cX8_lifts 46 = .ok (.invokevirtual 81, 3) := by decide +kernel
theorem dX8_lifts_49 : decode cX8_lifts 49 = .ok (.aload_n 0, 1) := by decide +kernel
theorem dX8_lifts_50 : decode cX8_lifts 50 = .ok (.iload_n 1, 1) := by decide +kernel
theorem dX8_lifts_51 : decode cX8_lifts 51 = .ok (.bipush 7, 2) := by decide +kernel
theorem dX8_lifts_53 : decode cX8_lifts 53 = .ok (.bipush (-5), 2) := by decide +kernel
theorem dX8_lifts_55 : decode cX8_lifts 55 = .ok (.invokevirtual 81, 3) := by decide +kernel
theorem dX8_lifts_58 : decode cX8_lifts 58 = .ok (.aload_n 0, 1) := by decide +kernel
theorem dX8_lifts_59 : decode cX8_lifts 59 = .ok (.iload_n 2, 1) := by decide +kernel
theorem dX8_lifts_60 : decode cX8_lifts 60 = .ok (.iconst 4, 1) := by decide +kernel
theorem dX8_lifts_61 : decode cX8_lifts 61 = .ok (.invokevirtual 69, 3) := by decide +kernel
theorem dX8_lifts_64 : decode cX8_lifts 64 = .ok (.ireturn, 1) := by decide +kernel
theorem dX8_lift_0 : decode cX8_lift 0 = .ok (.aload_n 0, 1) := by decide +kernel
theorem dX8_lift_1 : decode cX8_lift 1 = .ok (.iload_n 1, 1) := by decide +kernel
theorem dX8_lift_2 : decode cX8_lift 2 = .ok (.iload_n 2, 1) := by decide +kernel
theorem dX8_lift_3 : decode cX8_lift 3 = .ok (.invokevirtual 146, 3) := by decide +kernel
theorem dX8_lift_6 : decode cX8_lift 6 = .ok (.istore_n 3, 1) := by decide +kernel
theorem dX8_lift_7 : decode cX8_lift 7 = .ok (.iload_n 3, 1) := by decide +kernel
theorem dX8_lift_8 : decode cX8_lift 8 = .ok (.ifCond .eq 5, 3) := by decide +kernel
theorem dX8_lift_11 : decode cX8_lift 11 = .ok (.iload_n 3, 1) := by decide +kernel
theorem dX8_lift_12 : decode cX8_lift 12 = .ok (.ireturn, 1) := by decide +kernel
theorem dX8_lift_13 : decode cX8_lift 13 = .ok (.aload_n 0, 1) := by decide +kernel
theorem dX8_lift_14 : decode cX8_lift 14 = .ok (.invokevirtual 58, 3) := by decide +kernel
theorem dX8_lift_17 : decode cX8_lift 17 = .ok (.aload_n 0, 1) := by decide +kernel
theorem dX8_lift_18 : decode cX8_lift 18 = .ok (.iload_n 1, 1) := by decide +kernel
theorem dX8_lift_19 : decode cX8_lift 19 = .ok (.invokevirtual 149, 3) := by decide +kernel
theorem dX8_lift_22 : decode cX8_lift 22 = .ok (.ireturn, 1) := by decide +kernel
theorem dX8_cancel_0 : decode cX8_cancel 0 = .ok (.aload_n 0, 1) := by decide +kernel
theorem dX8_cancel_1 : decode cX8_cancel 1 = .ok (.iload_n 1, 1) := by decide +kernel
theorem dX8_cancel_2 : decode cX8_cancel 2 = .ok (.invokevirtual 119, 3) := by decide +kernel
theorem dX8_cancel_5 : decode cX8_cancel 5 = .ok (.ifCond .ne 5, 3) := by decide +kernel
theorem dX8_cancel_8 : decode cX8_cancel 8 = .ok (.iconst (-1), 1) := by decide +kernel
theorem dX8_cancel_9 : decode cX8_cancel 9 = .ok (.ireturn, 1) := by decide +kernel
theorem dX8_cancel_10 : decode cX8_cancel 10 = .ok (.aload_n 0, 1) := by decide +kernel
theorem dX8_cancel_11 : decode cX8_cancel 11 = .ok (.iload_n 1, 1) := by decide +kernel
theorem dX8_cancel_12 : decode cX8_cancel 12 = .ok (.invokevirtual 87, 3) := by decide +kernel
theorem dX8_cancel_15 : decode cX8_cancel 15 = .ok (.ifCond .eq 6, 3) := by decide +kernel
theorem dX8_cancel_18 : decode cX8_cancel 18 = .ok (.bipush (-4), 2) := by decide +kernel
theorem dX8_cancel_20 : decode cX8_cancel 20 = .ok (.ireturn, 1) := by decide +kernel
theorem dX8_cancel_21 : decode cX8_cancel 21 = .ok (.aload_n 0, 1) := by decide +kernel
theorem dX8_cancel_22 : decode cX8_cancel 22 = .ok (.invokevirtual 58, 3) := by decide +kernel
theorem dX8_cancel_25 : decode cX8_cancel 25 = .ok (.aload_n 0, 1) := by decide +kernel
theorem dX8_cancel_26 : decode cX8_cancel 26 = .ok (.iload_n 1, 1) := by decide +kernel
theorem dX8_cancel_27 : decode cX8_cancel 27 = .ok (.bipush 6, 2) := by decide +kernel
theorem dX8_cancel_29 : decode cX8_cancel 29 = .ok (.bipush 6, 2) := by decide +kernel
theorem dX8_cancel_31 : decode cX8_cancel 31 = .ok (.invokevirtual 81, 3) := by decide +kernel
theorem dX8_cancel_34 : decode cX8_cancel 34 = .ok (.aload_n 0, 1) := by decide +kernel
theorem dX8_cancel_35 : decode cX8_cancel 35 = .ok (.iload_n 1, 1) := by decide +kernel
theorem dX8_cancel_36 : decode cX8_cancel 36 = .ok (.bipush 9, 2) := by decide +kernel
theorem dX8_cancel_38 : decode cX8_cancel 38 = .ok (.invokevirtual 84, 3) := by decide +kernel
theorem dX8_cancel_41 : decode cX8_cancel 41 = .ok (.ireturn, 1) := by decide +kernel
theorem dX8_worn_0 : decode cX8_worn 0 = .ok (.aload_n 0, 1) := by decide +kernel
theorem dX8_worn_1 : decode cX8_worn 1 = .ok (.iload_n 1, 1) := by decide +kernel
theorem dX8_worn_2 : decode cX8_worn 2 = .ok (.iconst 1, 1) := by decide +kernel
theorem dX8_worn_3 : decode cX8_worn 3 = .ok (.invokevirtual 69, 3) := by decide +kernel
theorem dX8_worn_6 : decode cX8_worn 6 = .ok (.i2f, 1) := by decide +kernel
theorem dX8_worn_7 : decode cX8_worn 7 = .ok (.ldc 152, 2) := by decide +kernel
theorem dX8_worn_9 : decode cX8_worn 9 = .ok (.fdiv, 1) := by decide +kernel
theorem dX8_worn_10 : decode cX8_worn 10 = .ok (.fstore_n 3, 1) := by decide +kernel
theorem dX8_worn_11 : decode cX8_worn 11 = .ok (.fload_n 2, 1) := by decide +kernel
theorem dX8_worn_12 : decode cX8_worn 12 = .ok (.fload_n 2, 1) := by decide +kernel
theorem dX8_worn_13 : decode cX8_worn 13 = .ok (.fload_n 3, 1) := by decide +kernel
theorem dX8_worn_14 : decode cX8_worn 14 = .ok (.fmul, 1) := by decide +kernel
theorem dX8_worn_15 : decode cX8_worn 15 = .ok (.fsub, 1) := by decide +kernel
theorem dX8_worn_16 : decode cX8_worn 16 = .ok (.fstore 4, 2) := by decide +kernel
theorem dX8_worn_18 : decode cX8_worn 18 = .ok (.fload 4, 2) := by decide +kernel
theorem dX8_worn_20 : decode cX8_worn 20 = .ok (.ldc 153, 2) := by decide +kernel
theorem dX8_worn_22 : decode cX8_worn 22 = .ok (.fcmp .g, 1) := by decide +kernel
theorem dX8_worn_23 : decode cX8_worn 23 = .ok (.ifCond .ge 8, 3) := by decide +kernel
theorem dX8_worn_26 : decode cX8_worn 26 = .ok (.ldc 153, 2) := by decide +kernel
theorem dX8_worn_28 : decode cX8_worn 28 = .ok (.goto 5, 3) := by decide +kernel
theorem dX8_worn_31 : decode cX8_worn 31 = .ok (.fload 4, 2) := by decide +kernel
theorem dX8_worn_33 : decode cX8_worn 33 = .ok (.freturn, 1) := by decide +kernel
theorem dX8_runsHour_0 : decode cX8_runsHour 0 = .ok (.aload_n 0, 1) := by decide +kernel
theorem dX8_runsHour_1 : decode cX8_runsHour 1 = .ok (.getfield 17, 3) := by decide +kernel
theorem dX8_runsHour_4 : decode cX8_runsHour 4 = .ok (.iload_n 1, 1) := by decide +kernel
theorem dX8_runsHour_5 : decode cX8_runsHour 5 = .ok (.aload_n 0, 1) := by decide +kernel
theorem dX8_runsHour_6 : decode cX8_runsHour 6 = .ok (.getfield 17, 3) := by decide +kernel
theorem dX8_runsHour_9 : decode cX8_runsHour 9 = .ok (.iload_n 1, 1) := by decide +kernel
theorem dX8_runsHour_10 : decode cX8_runsHour 10 = .ok (.faload, 1) := by decide +kernel
theorem dX8_runsHour_11 : decode cX8_runsHour 11 = .ok (.aload_n 0, 1) := by decide +kernel
theorem dX8_runsHour_12 : decode cX8_runsHour 12 = .ok (.iload_n 1, 1) := by decide +kernel
theorem dX8_runsHour_13 : decode cX8_runsHour 13 = .ok (.iconst 0, 1) := by decide +kernel
theorem dX8_runsHour_14 : decode cX8_runsHour 14 = .ok (.invokevirtual 69, 3) := by decide +kernel
theorem dX8_runsHour_17 : decode cX8_runsHour 17 = .ok (.i2f, 1) := by decide +kernel
theorem dX8_runsHour_18 : decode cX8_runsHour 18 = .ok (.aload_n 0, 1) := by decide +kernel
theorem dX8_runsHour_19 : decode cX8_runsHour 19 = .ok (.getfield 13, 3) := by decide +kernel
theorem dX8_runsHour_22 : decode cX8_runsHour 22 = .ok (.iload_n 1, 1) := by decide +kernel
theorem dX8_runsHour_23 : decode cX8_runsHour 23 = .ok (.faload, 1) := by decide +kernel
theorem dX8_runsHour_24 : decode cX8_runsHour 24 = .ok (.fmul, 1) := by decide +kernel
theorem dX8_runsHour_25 : decode cX8_runsHour 25 = .ok (.fadd, 1) := by decide +kernel
theorem dX8_runsHour_26 : decode cX8_runsHour 26 = .ok (.fastore, 1) := by decide +kernel
theorem dX8_runsHour_27 : decode cX8_runsHour 27 = .ok (.aload_n 0, 1) := by decide +kernel
theorem dX8_runsHour_28 : decode cX8_runsHour 28 = .ok (.getfield 13, 3) := by decide +kernel
theorem dX8_runsHour_31 : decode cX8_runsHour 31 = .ok (.iload_n 1, 1) := by decide +kernel
theorem dX8_runsHour_32 : decode cX8_runsHour 32 = .ok (.aload_n 0, 1) := by decide +kernel
theorem dX8_runsHour_33 : decode cX8_runsHour 33 = .ok (.iload_n 1, 1) := by decide +kernel
theorem dX8_runsHour_34 : decode cX8_runsHour 34 = .ok (.aload_n 0, 1) := by decide +kernel
theorem dX8_runsHour_35 : decode cX8_runsHour 35 = .ok (.getfield 13, 3) := by decide +kernel
theorem dX8_runsHour_38 : decode cX8_runsHour 38 = .ok (.iload_n 1, 1) := by decide +kernel
theorem dX8_runsHour_39 : decode cX8_runsHour 39 = .ok (.faload, 1) := by decide +kernel
theorem dX8_runsHour_40 : decode cX8_runsHour 40 = .ok (.invokevirtual 154, 3) := by decide +kernel
theorem dX8_runsHour_43 : decode cX8_runsHour 43 = .ok (.fastore, 1) := by decide +kernel
theorem dX8_runsHour_44 : decode cX8_runsHour 44 = .ok (.return_, 1) := by decide +kernel
theorem dX8_slips_0 : decode cX8_slips 0 = .ok (.aload_n 0, 1) := by decide +kernel
theorem dX8_slips_1 : decode cX8_slips 1 = .ok (.iload_n 1, 1) := by decide +kernel
theorem dX8_slips_2 : decode cX8_slips 2 = .ok (.invokevirtual 87, 3) := by decide +kernel
theorem dX8_slips_5 : decode cX8_slips 5 = .ok (.ifCond .ne 25, 3) := by decide +kernel
theorem dX8_slips_8 : decode cX8_slips 8 = .ok (.aload_n 0, 1) := by decide +kernel
theorem dX8_slips_9 : decode cX8_slips 9 = .ok (.iload_n 1, 1) := by decide +kernel
theorem dX8_slips_10 : decode cX8_slips 10 = .ok (.bipush 9, 2) := by decide +kernel
theorem dX8_slips_12 : decode cX8_slips 12 = .ok (.invokevirtual 84, 3) := by decide +kernel
theorem dX8_slips_15 : decode cX8_slips 15 = .ok (.iconst 3, 1) := by decide +kernel
theorem dX8_slips_16 : decode cX8_slips 16 = .ok (.if_icmp .lt 14, 3) := by decide +kernel
theorem dX8_slips_19 : decode cX8_slips 19 = .ok (.aload_n 0, 1) := by decide +kernel
theorem dX8_slips_20 : decode cX8_slips 20 = .ok (.iload_n 1, 1) := by decide +kernel
theorem dX8_slips_21 : decode cX8_slips 21 = .ok (.bipush 6, 2) := by decide +kernel
theorem dX8_slips_23 : decode cX8_slips 23 = .ok (.iconst 5, 1) := by decide +kernel
theorem dX8_slips_24 : decode cX8_slips 24 = .ok (.invokevirtual 81, 3) := by decide +kernel
theorem dX8_slips_27 : decode cX8_slips 27 = .ok (.goto 34, 3) := by decide +kernel
theorem dX8_slips_30 : decode cX8_slips 30 = .ok (.aload_n 0, 1) := by decide +kernel
theorem dX8_slips_31 : decode cX8_slips 31 = .ok (.iload_n 1, 1) := by decide +kernel
theorem dX8_slips_32 : decode cX8_slips 32 = .ok (.iconst 5, 1) := by decide +kernel
theorem dX8_slips_33 : decode cX8_slips 33 = .ok (.aload_n 0, 1) := by decide +kernel
theorem dX8_slips_34 : decode cX8_slips 34 = .ok (.iload_n 1, 1) := by decide +kernel
theorem dX8_slips_35 : decode cX8_slips 35 = .ok (.iconst 5, 1) := by decide +kernel
theorem dX8_slips_36 : decode cX8_slips 36 = .ok (.invokevirtual 84, 3) := by decide +kernel
theorem dX8_slips_39 : decode cX8_slips 39 = .ok (.bipush 24, 2) := by decide +kernel
theorem dX8_slips_41 : decode cX8_slips 41 = .ok (.iadd, 1) := by decide +kernel
theorem dX8_slips_42 : decode cX8_slips 42 = .ok (.invokevirtual 81, 3) := by decide +kernel
theorem dX8_slips_45 : decode cX8_slips 45 = .ok (.aload_n 0, 1) := by decide +kernel
theorem dX8_slips_46 : decode cX8_slips 46 = .ok (.iload_n 1, 1) := by decide +kernel
theorem dX8_slips_47 : decode cX8_slips 47 = .ok (.bipush 9, 2) := by decide +kernel
theorem dX8_slips_49 : decode cX8_slips 49 = .ok (.aload_n 0, 1) := by decide +kernel
theorem dX8_slips_50 : decode cX8_slips 50 = .ok (.iload_n 1, 1) := by decide +kernel
theorem dX8_slips_51 : decode cX8_slips 51 = .ok (.bipush 9, 2) := by decide +kernel
theorem dX8_slips_53 : decode cX8_slips 53 = .ok (.invokevirtual 84, 3) := by decide +kernel
theorem dX8_slips_56 : decode cX8_slips 56 = .ok (.iconst 1, 1) := by decide +kernel
theorem dX8_slips_57 : decode cX8_slips 57 = .ok (.iadd, 1) := by decide +kernel
theorem dX8_slips_58 : decode cX8_slips 58 = .ok (.invokevirtual 81, 3) := by decide +kernel
theorem dX8_slips_61 : decode cX8_slips 61 = .ok (.return_, 1) := by decide +kernel
theorem dX8_passesHour_0 : decode cX8_passesHour 0 = .ok (.iconst 0, 1) := by decide +kernel
theorem dX8_passesHour_1 : decode cX8_passesHour 1 = .ok (.istore_n 1, 1) := by decide +kernel
theorem dX8_passesHour_2 : decode cX8_passesHour 2 = .ok (.iconst 0, 1) := by decide +kernel
theorem dX8_passesHour_3 : decode cX8_passesHour 3 = .ok (.istore_n 2, 1) := by decide +kernel
theorem dX8_passesHour_4 : decode cX8_passesHour 4 = .ok (.iload_n 2, 1) := by decide +kernel
theorem dX8_passesHour_5 : decode cX8_passesHour 5 = .ok (.aload_n 0, 1) := by decide +kernel
theorem dX8_passesHour_6 : decode cX8_passesHour 6 = .ok (.getfield 7, 3) := by decide +kernel
theorem dX8_passesHour_9 : decode cX8_passesHour 9 = .ok (.iconst 1, 1) := by decide +kernel
theorem dX8_passesHour_10 : decode cX8_passesHour 10 = .ok (.iaload, 1) := by decide +kernel
theorem dX8_passesHour_11 : decode cX8_passesHour 11 = .ok (.if_icmp .ge 24, 3) := by decide +kernel
theorem dX8_passesHour_14 : decode cX8_passesHour 14 = .ok (.aload_n 0, 1) := by decide +kernel
theorem dX8_passesHour_15 : decode cX8_passesHour 15 = .ok (.iload_n 2, 1) := by decide +kernel
theorem dX8_passesHour_16 : decode cX8_passesHour 16 = .ok (.iconst 2, 1) := by decide +kernel
theorem dX8_passesHour_17 : decode cX8_passesHour 17 = .ok (.invokevirtual 69, 3) := by decide +kernel
theorem dX8_passesHour_20 : decode cX8_passesHour 20 = .ok (.iconst 1, 1) := by decide +kernel
theorem dX8_passesHour_21 : decode cX8_passesHour 21 = .ok (.if_icmp .ne 8, 3) := by decide +kernel
theorem dX8_passesHour_24 : decode cX8_passesHour 24 = .ok (.aload_n 0, 1) := by decide +kernel
theorem dX8_passesHour_25 : decode cX8_passesHour 25 = .ok (.iload_n 2, 1) := by decide +kernel
theorem dX8_passesHour_26 : decode cX8_passesHour 26 = .ok (.invokevirtual 158, 3) := by decide +kernel
theorem dX8_passesHour_29 : decode cX8_passesHour 29 = .ok (.iinc 2 1, 3) := by decide +kernel
theorem dX8_passesHour_32 : decode cX8_passesHour 32 = .ok (.goto (-28), 3) := by decide +kernel
theorem dX8_passesHour_35 : decode cX8_passesHour 35 = .ok (.iconst 0, 1) := by decide +kernel
theorem dX8_passesHour_36 : decode cX8_passesHour 36 = .ok (.istore_n 2, 1) := by decide +kernel
theorem dX8_passesHour_37 : decode cX8_passesHour 37 = .ok (.iload_n 2, 1) := by decide +kernel
theorem dX8_passesHour_38 : decode cX8_passesHour 38 = .ok (.aload_n 0, 1) := by decide +kernel
theorem dX8_passesHour_39 : decode cX8_passesHour 39 = .ok (.getfield 7, 3) := by decide +kernel
theorem dX8_passesHour_42 : decode cX8_passesHour 42 = .ok (.iconst 3, 1) := by decide +kernel
theorem dX8_passesHour_43 : decode cX8_passesHour 43 = .ok (.iaload, 1) := by decide +kernel
theorem dX8_passesHour_44 : decode cX8_passesHour 44 = .ok (.if_icmp .ge 86, 3) := by decide +kernel
theorem dX8_passesHour_47 : decode cX8_passesHour 47 = .ok (.aload_n 0, 1) := by decide +kernel
theorem dX8_passesHour_48 : decode cX8_passesHour 48 = .ok (.iload_n 2, 1) := by decide +kernel
theorem dX8_passesHour_49 : decode cX8_passesHour 49 = .ok (.invokevirtual 87, 3) := by decide +kernel
theorem dX8_passesHour_52 : decode cX8_passesHour 52 = .ok (.iconst 2, 1) := by decide +kernel
theorem dX8_passesHour_53 : decode cX8_passesHour 53 = .ok (.if_icmp .ne 71, 3) := by decide +kernel
theorem dX8_passesHour_56 : decode cX8_passesHour 56 = .ok (.aload_n 0, 1) := by decide +kernel
theorem dX8_passesHour_57 : decode cX8_passesHour 57 = .ok (.iload_n 2, 1) := by decide +kernel
theorem dX8_passesHour_58 : decode cX8_passesHour 58 = .ok (.bipush 8, 2) := by decide +kernel
theorem dX8_passesHour_60 : decode cX8_passesHour 60 = .ok (.aload_n 0, 1) := by decide +kernel
theorem dX8_passesHour_61 : decode cX8_passesHour 61 = .ok (.iload_n 2, 1) := by decide +kernel
theorem dX8_passesHour_62 : decode cX8_passesHour 62 = .ok (.bipush 8, 2) := by decide +kernel
theorem dX8_passesHour_64 : decode cX8_passesHour 64 = .ok (.invokevirtual 84, 3) := by decide +kernel
theorem dX8_passesHour_67 : decode cX8_passesHour 67 = .ok (.iconst 1, 1) := by decide +kernel
theorem dX8_passesHour_68 : decode cX8_passesHour 68 = .ok (.isub, 1) := by decide +kernel
theorem dX8_passesHour_69 : decode cX8_passesHour 69 = .ok (.invokevirtual 81, 3) := by decide +kernel
theorem dX8_passesHour_72 : decode cX8_passesHour 72 = .ok (.aload_n 0, 1) := by decide +kernel
theorem dX8_passesHour_73 : decode cX8_passesHour 73 = .ok (.iload_n 2, 1) := by decide +kernel
theorem dX8_passesHour_74 : decode cX8_passesHour 74 = .ok (.bipush 8, 2) := by decide +kernel
theorem dX8_passesHour_76 : decode cX8_passesHour 76 = .ok (.invokevirtual 84, 3) := by decide +kernel
theorem dX8_passesHour_79 : decode cX8_passesHour 79 = .ok (.ifCond .ne 45, 3) := by decide +kernel
theorem dX8_passesHour_82 : decode cX8_passesHour 82 = .ok (.aload_n 0, 1) := by decide +kernel
theorem dX8_passesHour_83 : decode cX8_passesHour 83 = .ok (.iload_n 2, 1) := by decide +kernel
theorem dX8_passesHour_84 : decode cX8_passesHour 84 = .ok (.iconst 0, 1) := by decide +kernel
theorem dX8_passesHour_85 : decode cX8_passesHour 85 = .ok (.invokevirtual 84, 3) := by decide +kernel
theorem dX8_passesHour_88 : decode cX8_passesHour 88 = .ok (.istore_n 3, 1) := by decide +kernel
theorem dX8_passesHour_89 : decode cX8_passesHour 89 = .ok (.aload_n 0, 1) := by decide +kernel
theorem dX8_passesHour_90 : decode cX8_passesHour 90 = .ok (.iload_n 2, 1) := by decide +kernel
theorem dX8_passesHour_91 : decode cX8_passesHour 91 = .ok (.bipush 6, 2) := by decide +kernel
theorem dX8_passesHour_93 : decode cX8_passesHour 93 = .ok (.iconst 3, 1) := by decide +kernel
theorem dX8_passesHour_94 : decode cX8_passesHour 94 = .ok (.invokevirtual 81, 3) := by decide +kernel
theorem dX8_passesHour_97 : decode cX8_passesHour 97 = .ok (.aload_n 0, 1) := by decide +kernel
theorem dX8_passesHour_98 : decode cX8_passesHour 98 = .ok (.getfield 13, 3) := by decide +kernel
theorem dX8_passesHour_101 : decode cX8_passesHour 101 = .ok (.iload_n 3, 1) := by decide +kernel
theorem dX8_passesHour_102 : decode cX8_passesHour 102 = .ok (.aload_n 0, 1) := by decide +kernel
theorem dX8_passesHour_103 : decode cX8_passesHour 103 = .ok (.getfield 13, 3) := by decide +kernel
theorem dX8_passesHour_106 : decode cX8_passesHour 106 = .ok (.iload_n 3, 1) := by decide +kernel
theorem dX8_passesHour_107 : decode cX8_passesHour 107 = .ok (.faload, 1) := by decide +kernel
theorem dX8_passesHour_108 : decode cX8_passesHour 108 = .ok (.fconst 1, 1) := by decide +kernel
theorem dX8_passesHour_109 : decode cX8_passesHour 109 = .ok (.aload_n 0, 1) := by decide +kernel
theorem dX8_passesHour_110 : decode cX8_passesHour 110 = .ok (.getfield 13, 3) := by decide +kernel
theorem dX8_passesHour_113 : decode cX8_passesHour 113 = .ok (.iload_n 3, 1) := by decide +kernel
theorem dX8_passesHour_114 : decode cX8_passesHour 114 = .ok (.faload, 1) := by decide +kernel
theorem dX8_passesHour_115 : decode cX8_passesHour 115 = .ok (.fsub, 1) := by decide +kernel
theorem dX8_passesHour_116 : decode cX8_passesHour 116 = .ok (.ldc 161, 2) := by decide +kernel
theorem dX8_passesHour_118 : decode cX8_passesHour 118 = .ok (.fmul, 1) := by decide +kernel
theorem dX8_passesHour_119 : decode cX8_passesHour 119 = .ok (.fadd, 1) := by decide +kernel
theorem dX8_passesHour_120 : decode cX8_passesHour 120 = .ok (.fastore, 1) := by decide +kernel
theorem dX8_passesHour_121 : decode cX8_passesHour 121 = .ok (.iinc 1 1, 3) := by decide +kernel
theorem dX8_passesHour_124 : decode cX8_passesHour 124 = .ok (.iinc 2 1, 3) := by decide +kernel
theorem dX8_passesHour_127 : decode cX8_passesHour 127 = .ok (.goto (-90), 3) := by decide +kernel
theorem dX8_passesHour_130 : decode cX8_passesHour 130 = .ok (.aload_n 0, 1) := by decide +kernel
theorem dX8_passesHour_131 : decode cX8_passesHour 131 = .ok (.getfield 7, 3) := by decide +kernel
theorem dX8_passesHour_134 : decode cX8_passesHour 134 = .ok (.iconst 0, 1) := by decide +kernel
theorem dX8_passesHour_135 : decode cX8_passesHour 135 = .ok (.dup2, 1) := by decide +kernel
theorem dX8_passesHour_136 : decode cX8_passesHour 136 = .ok (.iaload, 1) := by decide +kernel
theorem dX8_passesHour_137 : decode cX8_passesHour 137 = .ok (.iconst 1, 1) := by decide +kernel
theorem dX8_passesHour_138 : decode cX8_passesHour 138 = .ok (.iadd, 1) := by decide +kernel
theorem dX8_passesHour_139 : decode cX8_passesHour 139 = .ok (.iastore, 1) := by decide +kernel
theorem dX8_passesHour_140 : decode cX8_passesHour 140 = .ok (.iconst 0, 1) := by decide +kernel
theorem dX8_passesHour_141 : decode cX8_passesHour 141 = .ok (.istore_n 2, 1) := by decide +kernel
theorem dX8_passesHour_142 : decode cX8_passesHour 142 = .ok (.iload_n 2, 1) := by decide +kernel
theorem dX8_passesHour_143 : decode cX8_passesHour 143 = .ok (.aload_n 0, 1) := by decide +kernel
theorem dX8_passesHour_144 : decode cX8_passesHour 144 = .ok (.getfield 7, 3) := by decide +kernel
theorem dX8_passesHour_147 : decode cX8_passesHour 147 = .ok (.iconst 3, 1) := by decide +kernel
theorem dX8_passesHour_148 : decode cX8_passesHour 148 = .ok (.iaload, 1) := by decide +kernel
theorem dX8_passesHour_149 : decode cX8_passesHour 149 = .ok (.if_icmp .ge 35, 3) := by decide +kernel
theorem dX8_passesHour_152 : decode cX8_passesHour 152 = .ok (.aload_n 0, 1) := by decide +kernel
theorem dX8_passesHour_153 : decode cX8_passesHour 153 = .ok (.iload_n 2, 1) := by decide +kernel
theorem dX8_passesHour_154 : decode cX8_passesHour 154 = .ok (.invokevirtual 87, 3) := by decide +kernel
theorem dX8_passesHour_157 : decode cX8_passesHour 157 = .ok (.iconst 0, 1) := by decide +kernel
theorem dX8_passesHour_158 : decode cX8_passesHour 158 = .ok (.iconst 1, 1) := by decide +kernel
theorem dX8_passesHour_159 : decode cX8_passesHour 159 = .ok (.invokestatic 32, 3) := by decide +kernel
theorem dX8_passesHour_162 : decode cX8_passesHour 162 = .ok (.ifCond .eq 16, 3) := by decide +kernel
theorem dX8_passesHour_165 : decode cX8_passesHour 165 = .ok (.aload_n 0, 1) := by decide +kernel
theorem dX8_passesHour_166 : decode cX8_passesHour 166 = .ok (.iload_n 2, 1) := by decide +kernel
theorem dX8_passesHour_167 : decode cX8_passesHour 167 = .ok (.invokevirtual 100, 3) := by decide +kernel
theorem dX8_passesHour_170 : decode cX8_passesHour 170 = .ok (.ifCond .eq 8, 3) := by decide +kernel
theorem dX8_passesHour_173 : decode cX8_passesHour 173 = .ok (.aload_n 0, 1) := by decide +kernel
theorem dX8_passesHour_174 : decode cX8_passesHour 174 = .ok (.iload_n 2, 1) := by decide +kernel
theorem dX8_passesHour_175 : decode cX8_passesHour 175 = .ok (.invokevirtual 162, 3) := by decide +kernel
theorem dX8_passesHour_178 : decode cX8_passesHour 178 = .ok (.iinc 2 1, 3) := by decide +kernel
theorem dX8_passesHour_181 : decode cX8_passesHour 181 = .ok (.goto (-39), 3) := by decide +kernel
theorem dX8_passesHour_184 : decode cX8_passesHour 184 = .ok (.iload_n 1, 1) := by decide +kernel
theorem dX8_passesHour_185 : decode cX8_passesHour 185 = .ok (.ireturn, 1) := by decide +kernel
theorem dX8_passError_0 : decode cX8_passError 0 = .ok (.iload_n 1, 1) := by decide +kernel
theorem dX8_passError_1 : decode cX8_passError 1 = .ok (.iconst 1, 1) := by decide +kernel
theorem dX8_passError_2 : decode cX8_passError 2 = .ok (.bipush 48, 2) := by decide +kernel
theorem dX8_passError_4 : decode cX8_passError 4 = .ok (.invokestatic 32, 3) := by decide +kernel
theorem dX8_passError_7 : decode cX8_passError 7 = .ok (.ifCond .ne 6, 3) := by decide +kernel
theorem dX8_passError_10 : decode cX8_passError 10 = .ok (.bipush (-2), 2) := by decide +kernel
theorem dX8_passError_12 : decode cX8_passError 12 = .ok (.ireturn, 1) := by decide +kernel
theorem dX8_passError_13 : decode cX8_passError 13 = .ok (.aload_n 0, 1) := by decide +kernel
theorem dX8_passError_14 : decode cX8_passError 14 = .ok (.getfield 7, 3) := by decide +kernel
theorem dX8_passError_17 : decode cX8_passError 17 = .ok (.iconst 0, 1) := by decide +kernel
theorem dX8_passError_18 : decode cX8_passError 18 = .ok (.iaload, 1) := by decide +kernel
theorem dX8_passError_19 : decode cX8_passError 19 = .ok (.iload_n 1, 1) := by decide +kernel
theorem dX8_passError_20 : decode cX8_passError 20 = .ok (.iadd, 1) := by decide +kernel
theorem dX8_passError_21 : decode cX8_passError 21 = .ok (.sipush 2000, 3) := by decide +kernel
theorem dX8_passError_24 : decode cX8_passError 24 = .ok (.if_icmp .le 8, 3) := by decide +kernel
theorem dX8_passError_27 : decode cX8_passError 27 = .ok (.bipush (-4), 2) := by decide +kernel
theorem dX8_passError_29 : decode cX8_passError 29 = .ok (.goto 4, 3) := by decide +kernel
theorem dX8_passError_32 : decode cX8_passError 32 = .ok (.iconst 0, 1) := by decide +kernel
theorem dX8_passError_33 : decode cX8_passError 33 = .ok (.ireturn, 1) := by decide +kernel
theorem dX8_passes_0 : decode cX8_passes 0 = .ok (.iconst 0, 1) := by decide +kernel
theorem dX8_passes_1 : decode cX8_passes 1 = .ok (.istore_n 2, 1) := by decide +kernel
theorem dX8_passes_2 : decode cX8_passes 2 = .ok (.iconst 0, 1) := by decide +kernel
theorem dX8_passes_3 : decode cX8_passes 3 = .ok (.istore_n 3, 1) := by decide +kernel
theorem dX8_passes_4 : decode cX8_passes 4 = .ok (.iload_n 3, 1) := by decide +kernel
theorem dX8_passes_5 : decode cX8_passes 5 = .ok (.iload_n 1, 1) := by decide +kernel
theorem dX8_passes_6 : decode cX8_passes 6 = .ok (.if_icmp .ge 16, 3) := by decide +kernel
theorem dX8_passes_9 : decode cX8_passes 9 = .ok (.iload_n 2, 1) := by decide +kernel
theorem dX8_passes_10 : decode cX8_passes 10 = .ok (.aload_n 0, 1) := by decide +kernel
theorem dX8_passes_11 : decode cX8_passes 11 = .ok (.invokevirtual 165, 3) := by decide +kernel
theorem dX8_passes_14 : decode cX8_passes 14 = .ok (.iadd, 1) := by decide +kernel
theorem dX8_passes_15 : decode cX8_passes 15 = .ok (.istore_n 2, 1) := by decide +kernel
theorem dX8_passes_16 : decode cX8_passes 16 = .ok (.iinc 3 1, 3) := by decide +kernel
theorem dX8_passes_19 : decode cX8_passes 19 = .ok (.goto (-15), 3) := by decide +kernel
theorem dX8_passes_22 : decode cX8_passes 22 = .ok (.iload_n 2, 1) := by decide +kernel
theorem dX8_passes_23 : decode cX8_passes 23 = .ok (.ireturn, 1) := by decide +kernel
theorem dX8_pass_0 : decode cX8_pass 0 = .ok (.aload_n 0, 1) := by decide +kernel
theorem dX8_pass_1 : decode cX8_pass 1 = .ok (.iload_n 1, 1) := by decide +kernel
theorem dX8_pass_2 : decode cX8_pass 2 = .ok (.invokevirtual 168, 3) := by decide +kernel
theorem dX8_pass_5 : decode cX8_pass 5 = .ok (.istore_n 2, 1) := by decide +kernel
theorem dX8_pass_6 : decode cX8_pass 6 = .ok (.iload_n 2, 1) := by decide +kernel
theorem dX8_pass_7 : decode cX8_pass 7 = .ok (.ifCond .eq 5, 3) := by decide +kernel
theorem dX8_pass_10 : decode cX8_pass 10 = .ok (.iload_n 2, 1) := by decide +kernel
theorem dX8_pass_11 : decode cX8_pass 11 = .ok (.ireturn, 1) := by decide +kernel
theorem dX8_pass_12 : decode cX8_pass 12 = .ok (.aload_n 0, 1) := by decide +kernel
theorem dX8_pass_13 : decode cX8_pass 13 = .ok (.invokevirtual 58, 3) := by decide +kernel
theorem dX8_pass_16 : decode cX8_pass 16 = .ok (.aload_n 0, 1) := by decide +kernel
theorem dX8_pass_17 : decode cX8_pass 17 = .ok (.iload_n 1, 1) := by decide +kernel
theorem dX8_pass_18 : decode cX8_pass 18 = .ok (.invokevirtual 171, 3) := by decide +kernel
theorem dX8_pass_21 : decode cX8_pass 21 = .ok (.ireturn, 1) := by decide +kernel
theorem dX8_type_0 : decode cX8_type 0 = .ok (.aload_n 0, 1) := by decide +kernel
theorem dX8_type_1 : decode cX8_type 1 = .ok (.getfield 174, 3) := by decide +kernel
theorem dX8_type_4 : decode cX8_type 4 = .ok (.bipush 60, 2) := by decide +kernel
theorem dX8_type_6 : decode cX8_type 6 = .ok (.if_icmp .ne 6, 3) := by decide +kernel
theorem dX8_type_9 : decode cX8_type 9 = .ok (.bipush (-3), 2) := by decide +kernel
theorem dX8_type_11 : decode cX8_type 11 = .ok (.ireturn, 1) := by decide +kernel
theorem dX8_type_12 : decode cX8_type 12 = .ok (.aload_n 0, 1) := by decide +kernel
theorem dX8_type_13 : decode cX8_type 13 = .ok (.getfield 29, 3) := by decide +kernel
theorem dX8_type_16 : decode cX8_type 16 = .ok (.aload_n 0, 1) := by decide +kernel
theorem dX8_type_17 : decode cX8_type 17 = .ok (.getfield 174, 3) := by decide +kernel
theorem dX8_type_20 : decode cX8_type 20 = .ok (.iload_n 1, 1) := by decide +kernel
theorem dX8_type_21 : decode cX8_type 21 = .ok (.iastore, 1) := by decide +kernel
theorem dX8_type_22 : decode cX8_type 22 = .ok (.aload_n 0, 1) := by decide +kernel
theorem dX8_type_23 : decode cX8_type 23 = .ok (.dup, 1) := by decide +kernel
theorem dX8_type_24 : decode cX8_type 24 = .ok (.getfield 174, 3) := by decide +kernel
theorem dX8_type_27 : decode cX8_type 27 = .ok (.iconst 1, 1) := by decide +kernel
theorem dX8_type_28 : decode cX8_type 28 = .ok (.iadd, 1) := by decide +kernel
theorem dX8_type_29 : decode cX8_type 29 = .ok (.putfield 174, 3) := by decide +kernel
theorem dX8_type_32 : decode cX8_type 32 = .ok (.aload_n 0, 1) := by decide +kernel
theorem dX8_type_33 : decode cX8_type 33 = .ok (.getfield 174, 3) := by decide +kernel
theorem dX8_type_36 : decode cX8_type 36 = .ok (.ireturn, 1) := by decide +kernel
theorem dX8_clearText_0 : decode cX8_clearText 0 = .ok (.aload_n 0, 1) := by decide +kernel
theorem dX8_clearText_1 : decode cX8_clearText 1 = .ok (.getfield 174, 3) := by decide +kernel
theorem dX8_clearText_4 : decode cX8_clearText 4 = .ok (.istore_n 1, 1) := by decide +kernel
theorem dX8_clearText_5 : decode cX8_clearText 5 = .ok (.aload_n 0, 1) := by decide +kernel
theorem dX8_clearText_6 : decode cX8_clearText 6 = .ok (.iconst 0, 1) := by decide +kernel
theorem dX8_clearText_7 : decode cX8_clearText 7 = .ok (.putfield 174, 3) := by decide +kernel
theorem dX8_clearText_10 : decode cX8_clearText 10 = .ok (.iload_n 1, 1) := by decide +kernel
theorem dX8_clearText_11 : decode cX8_clearText 11 = .ok (.ireturn, 1) := by decide +kernel
theorem dX8_isHere_0 : decode cX8_isHere 0 = .ok (.aload_n 0, 1) := by decide +kernel
theorem dX8_isHere_1 : decode cX8_isHere 1 = .ok (.getfield 177, 3) := by decide +kernel
theorem dX8_isHere_4 : decode cX8_isHere 4 = .ok (.aload_n 0, 1) := by decide +kernel
theorem dX8_isHere_5 : decode cX8_isHere 5 = .ok (.getfield 174, 3) := by decide +kernel
theorem dX8_isHere_8 : decode cX8_isHere 8 = .ok (.if_icmp .ge 24, 3) := by decide +kernel
theorem dX8_isHere_11 : decode cX8_isHere 11 = .ok (.aload_n 0, 1) := by decide +kernel
theorem dX8_isHere_12 : decode cX8_isHere 12 = .ok (.getfield 29, 3) := by decide +kernel
theorem dX8_isHere_15 : decode cX8_isHere 15 = .ok (.aload_n 0, 1) := by decide +kernel
theorem dX8_isHere_16 : decode cX8_isHere 16 = .ok (.getfield 177, 3) := by decide +kernel
theorem dX8_isHere_19 : decode cX8_isHere 19 = .ok (.iaload, 1) := by decide +kernel
theorem dX8_isHere_20 : decode cX8_isHere 20 = .ok (.iload_n 1, 1) := by decide +kernel
theorem dX8_isHere_21 : decode cX8_isHere 21 = .ok (.iload_n 2, 1) := by decide +kernel
theorem dX8_isHere_22 : decode cX8_isHere 22 = .ok (.invokestatic 32, 3) := by decide +kernel
theorem dX8_isHere_25 : decode cX8_isHere 25 = .ok (.ifCond .eq 7, 3) := by decide +kernel
theorem dX8_isHere_28 : decode cX8_isHere 28 = .ok (.iconst 1, 1) := by decide +kernel
theorem dX8_isHere_29 : decode cX8_isHere 29 = .ok (.goto 4, 3) := by decide +kernel
theorem dX8_isHere_32 : decode cX8_isHere 32 = .ok (.iconst 0, 1) := by decide +kernel
theorem dX8_isHere_33 : decode cX8_isHere 33 = .ok (.ireturn, 1) := by decide +kernel
theorem dX8_passesSign_0 : decode cX8_passesSign 0 = .ok (.aload_n 0, 1) := by decide +kernel
theorem dX8_passesSign_1 : decode cX8_passesSign 1 = .ok (.iload_n 1, 1) := by decide +kernel
theorem dX8_passesSign_2 : decode cX8_passesSign 2 = .ok (.iload_n 1, 1) := by decide +kernel
theorem dX8_passesSign_3 : decode cX8_passesSign 3 = .ok (.invokevirtual 180, 3) := by decide +kernel
theorem dX8_passesSign_6 : decode cX8_passesSign 6 = .ok (.istore_n 2, 1) := by decide +kernel
theorem dX8_passesSign_7 : decode cX8_passesSign 7 = .ok (.aload_n 0, 1) := by decide +kernel
theorem dX8_passesSign_8 : decode cX8_passesSign 8 = .ok (.dup, 1) := by decide +kernel
theorem dX8_passesSign_9 : decode cX8_passesSign 9 = .ok (.getfield 177, 3) := by decide +kernel
theorem dX8_passesSign_12 : decode cX8_passesSign 12 = .ok (.iload_n 2, 1) := by decide +kernel
theorem dX8_passesSign_13 : decode cX8_passesSign 13 = .ok (.ifCond .eq 7, 3) := by decide +kernel
theorem dX8_passesSign_16 : decode cX8_passesSign 16 = .ok (.iconst 1, 1) := by decide +kernel
theorem dX8_passesSign_17 : decode cX8_passesSign 17 = .ok (.goto 4, 3) := by decide +kernel
theorem dX8_passesSign_20 : decode cX8_passesSign 20 = .ok (.iconst 0, 1) := by decide +kernel
theorem dX8_passesSign_21 : decode cX8_passesSign 21 = .ok (.iadd, 1) := by decide +kernel
theorem dX8_passesSign_22 : decode cX8_passesSign 22 = .ok (.putfield 177, 3) := by decide +kernel
theorem dX8_passesSign_25 : decode cX8_passesSign 25 = .ok (.iload_n 2, 1) := by decide +kernel
theorem dX8_passesSign_26 : decode cX8_passesSign 26 = .ok (.ireturn, 1) := by decide +kernel
theorem dX8_passesNumber_0 : decode cX8_passesNumber 0 = .ok (.aload_n 0, 1) := by decide +kernel
theorem dX8_passesNumber_1 : decode cX8_passesNumber 1 = .ok (.bipush 48, 2) := by decide +kernel
theorem dX8_passesNumber_3 : decode cX8_passesNumber 3 = .ok (.bipush 57, 2) := by decide +kernel
theorem dX8_passesNumber_5 : decode cX8_passesNumber 5 = .ok (.invokevirtual 180, 3) := by decide +kernel
theorem dX8_passesNumber_8 : decode cX8_passesNumber 8 = .ok (.ifCond .ne 5, 3) := by decide +kernel
theorem dX8_passesNumber_11 : decode cX8_passesNumber 11 = .ok (.iconst 0, 1) := by decide +kernel
theorem dX8_passesNumber_12 : decode cX8_passesNumber 12 = .ok (.ireturn, 1) := by decide +kernel
theorem dX8_passesNumber_13 : decode cX8_passesNumber 13 = .ok (.aload_n 0, 1) := by decide +kernel
theorem dX8_passesNumber_14 : decode cX8_passesNumber 14 = .ok (.getfield 29, 3) := by decide +kernel
theorem dX8_passesNumber_17 : decode cX8_passesNumber 17 = .ok (.aload_n 0, 1) := by decide +kernel
theorem dX8_passesNumber_18 : decode cX8_passesNumber 18 = .ok (.getfield 177, 3) := by decide +kernel
theorem dX8_passesNumber_21 : decode cX8_passesNumber 21 = .ok (.iaload, 1) := by decide +kernel
theorem dX8_passesNumber_22 : decode cX8_passesNumber 22 = .ok (.bipush 48, 2) := by decide +kernel
theorem dX8_passesNumber_24 : decode cX8_passesNumber 24 = .ok (.isub, 1) := by decide +kernel
theorem dX8_passesNumber_25 : decode cX8_passesNumber 25 = .ok (.istore_n 2, 1) := by decide +kernel
theorem dX8_passesNumber_26 : decode cX8_passesNumber 26 = .ok (.aload_n 0, 1) := by decide +kernel
theorem dX8_passesNumber_27 : decode cX8_passesNumber 27 = .ok (.dup, 1) := by decide +kernel
theorem dX8_passesNumber_28 : decode cX8_passesNumber 28 = .ok (.getfield 177, 3) := by decide +kernel
theorem dX8_passesNumber_31 : decode cX8_passesNumber 31 = .ok (.iconst 1, 1) := by decide +kernel
theorem dX8_passesNumber_32 : decode cX8_passesNumber 32 = .ok (.iadd, 1) := by decide +kernel
theorem dX8_passesNumber_33 : decode cX8_passesNumber 33 = .ok (.putfield 177, 3) := by decide +kernel
theorem dX8_passesNumber_36 : decode cX8_passesNumber 36 = .ok (.iconst 1, 1) := by decide +kernel
theorem dX8_passesNumber_37 : decode cX8_passesNumber 37 = .ok (.istore_n 3, 1) := by decide +kernel
theorem dX8_passesNumber_38 : decode cX8_passesNumber 38 = .ok (.iload_n 3, 1) := by decide +kernel
theorem dX8_passesNumber_39 : decode cX8_passesNumber 39 = .ok (.iload_n 1, 1) := by decide +kernel
theorem dX8_passesNumber_40 : decode cX8_passesNumber 40 = .ok (.if_icmp .ge 52, 3) := by decide +kernel
theorem dX8_passesNumber_43 : decode cX8_passesNumber 43 = .ok (.iload_n 2, 1) := by decide +kernel
theorem dX8_passesNumber_44 : decode cX8_passesNumber 44 = .ok (.ifCond .le 48, 3) := by decide +kernel
theorem dX8_passesNumber_47 : decode cX8_passesNumber 47 = .ok (.aload_n 0, 1) := by decide +kernel
theorem dX8_passesNumber_48 : decode cX8_passesNumber 48 = .ok (.bipush 48, 2) := by decide +kernel
theorem dX8_passesNumber_50 : decode cX8_passesNumber 50 = .ok (.bipush 57, 2) := by decide +kernel
theorem dX8_passesNumber_52 : decode cX8_passesNumber 52 = .ok (.invokevirtual 180, 3) := by decide +kernel
theorem dX8_passesNumber_55 : decode cX8_passesNumber 55 = .ok (.ifCond .eq 37, 3) := by decide +kernel
theorem dX8_passesNumber_58 : decode cX8_passesNumber 58 = .ok (.bipush 10, 2) := by decide +kernel
theorem dX8_passesNumber_60 : decode cX8_passesNumber 60 = .ok (.iload_n 2, 1) := by decide +kernel
theorem dX8_passesNumber_61 : decode cX8_passesNumber 61 = .ok (.imul, 1) := by decide +kernel
theorem dX8_passesNumber_62 : decode cX8_passesNumber 62 = .ok (.aload_n 0, 1) := by decide +kernel
theorem dX8_passesNumber_63 : decode cX8_passesNumber 63 = .ok (.getfield 29, 3) := by decide +kernel
theorem dX8_passesNumber_66 : decode cX8_passesNumber 66 = .ok (.aload_n 0, 1) := by decide +kernel
theorem dX8_passesNumber_67 : decode cX8_passesNumber 67 = .ok (.getfield 177, 3) := by decide +kernel
theorem dX8_passesNumber_70 : decode cX8_passesNumber 70 = .ok (.iaload, 1) := by decide +kernel
theorem dX8_passesNumber_71 : decode cX8_passesNumber 71 = .ok (.iadd, 1) := by decide +kernel
theorem dX8_passesNumber_72 : decode cX8_passesNumber 72 = .ok (.bipush 48, 2) := by decide +kernel
theorem dX8_passesNumber_74 : decode cX8_passesNumber 74 = .ok (.isub, 1) := by decide +kernel
theorem dX8_passesNumber_75 : decode cX8_passesNumber 75 = .ok (.istore_n 2, 1) := by decide +kernel
theorem dX8_passesNumber_76 : decode cX8_passesNumber 76 = .ok (.aload_n 0, 1) := by decide +kernel
theorem dX8_passesNumber_77 : decode cX8_passesNumber 77 = .ok (.dup, 1) := by decide +kernel
theorem dX8_passesNumber_78 : decode cX8_passesNumber 78 = .ok (.getfield 177, 3) := by decide +kernel
theorem dX8_passesNumber_81 : decode cX8_passesNumber 81 = .ok (.iconst 1, 1) := by decide +kernel
theorem dX8_passesNumber_82 : decode cX8_passesNumber 82 = .ok (.iadd, 1) := by decide +kernel
theorem dX8_passesNumber_83 : decode cX8_passesNumber 83 = .ok (.putfield 177, 3) := by decide +kernel
theorem dX8_passesNumber_86 : decode cX8_passesNumber 86 = .ok (.iinc 3 1, 3) := by decide +kernel
theorem dX8_passesNumber_89 : decode cX8_passesNumber 89 = .ok (.goto (-51), 3) := by decide +kernel
theorem dX8_passesNumber_92 : decode cX8_passesNumber 92 = .ok (.aload_n 0, 1) := by decide +kernel
theorem dX8_passesNumber_93 : decode cX8_passesNumber 93 = .ok (.iload_n 2, 1) := by decide +kernel
theorem dX8_passesNumber_94 : decode cX8_passesNumber 94 = .ok (.putfield 183, 3) := by decide +kernel
theorem dX8_passesNumber_97 : decode cX8_passesNumber 97 = .ok (.iconst 1, 1) := by decide +kernel
theorem dX8_passesNumber_98 : decode cX8_passesNumber 98 = .ok (.ireturn, 1) := by decide +kernel
theorem dX8_passesOrder_0 : decode cX8_passesOrder 0 = .ok (.aload_n 0, 1) := by decide +kernel
theorem dX8_passesOrder_1 : decode cX8_passesOrder 1 = .ok (.aload_n 0, 1) := by decide +kernel
theorem dX8_passesOrder_2 : decode cX8_passesOrder 2 = .ok (.getfield 177, 3) := by decide +kernel
theorem dX8_passesOrder_5 : decode cX8_passesOrder 5 = .ok (.aload_n 0, 1) := by decide +kernel
theorem dX8_passesOrder_6 : decode cX8_passesOrder 6 = .ok (.getfield 174, 3) := by decide +kernel
theorem dX8_passesOrder_9 : decode cX8_passesOrder 9 = .ok (.if_icmp .ge 15, 3) := by decide +kernel
theorem dX8_passesOrder_12 : decode cX8_passesOrder 12 = .ok (.aload_n 0, 1) := by decide +kernel
theorem dX8_passesOrder_13 : decode cX8_passesOrder 13 = .ok (.getfield 29, 3) := by decide +kernel
theorem dX8_passesOrder_16 : decode cX8_passesOrder 16 = .ok (.aload_n 0, 1) := by decide +kernel
theorem dX8_passesOrder_17 : decode cX8_passesOrder 17 = .ok (.getfield 177, 3) := by decide +kernel
theorem dX8_passesOrder_20 : decode cX8_passesOrder 20 = .ok (.iaload, 1) := by decide +kernel
theorem dX8_passesOrder_21 : decode cX8_passesOrder 21 = .ok (.goto 4, 3) := by decide +kernel
theorem dX8_passesOrder_24 : decode cX8_passesOrder 24 = .ok (.iconst 0, 1) := by decide +kernel
theorem dX8_passesOrder_25 : decode cX8_passesOrder 25 = .ok (.putfield 186, 3) := by decide +kernel
theorem dX8_passesOrder_28 : decode cX8_passesOrder 28 = .ok (.aload_n 0, 1) := by decide +kernel
theorem dX8_passesOrder_29 : decode cX8_passesOrder 29 = .ok (.getfield 186, 3) := by decide +kernel
theorem dX8_passesOrder_32 : decode cX8_passesOrder 32 = .ok (.bipush 104, 2) := by decide +kernel
theorem dX8_passesOrder_34 : decode cX8_passesOrder 34 = .ok (.if_icmp .eq 50, 3) := by decide +kernel
theorem dX8_passesOrder_37 : decode cX8_passesOrder 37 = .ok (.aload_n 0, 1) := by decide +kernel
theorem dX8_passesOrder_38 : decode cX8_passesOrder 38 = .ok (.getfield 186, 3) := by decide +kernel
theorem dX8_passesOrder_41 : decode cX8_passesOrder 41 = .ok (.bipush 108, 2) := by decide +kernel
theorem dX8_passesOrder_43 : decode cX8_passesOrder 43 = .ok (.if_icmp .eq 41, 3) := by decide +kernel
theorem dX8_passesOrder_46 : decode cX8_passesOrder 46 = .ok (.aload_n 0, 1) := by decide +kernel
theorem dX8_passesOrder_47 : decode cX8_passesOrder 47 = .ok (.getfield 186, 3) := by decide +kernel
theorem dX8_passesOrder_50 : decode cX8_passesOrder 50 = .ok (.bipush 98, 2) := by decide +kernel
theorem dX8_passesOrder_52 : decode cX8_passesOrder 52 = .ok (.if_icmp .eq 32, 3) := by decide +kernel
theorem dX8_passesOrder_55 : decode cX8_passesOrder 55 = .ok (.aload_n 0, 1) := by decide +kernel
theorem dX8_passesOrder_56 : decode cX8_passesOrder 56 = .ok (.getfield 186, 3) := by decide +kernel
theorem dX8_passesOrder_59 : decode cX8_passesOrder 59 = .ok (.bipush 114, 2) := by decide +kernel
theorem dX8_passesOrder_61 : decode cX8_passesOrder 61 = .ok (.if_icmp .eq 23, 3) := by decide +kernel
theorem dX8_passesOrder_64 : decode cX8_passesOrder 64 = .ok (.aload_n 0, 1) := by decide +kernel
theorem dX8_passesOrder_65 : decode cX8_passesOrder 65 = .ok (.getfield 186, 3) := by decide +kernel
theorem dX8_passesOrder_68 : decode cX8_passesOrder 68 = .ok (.bipush 115, 2) := by decide +kernel
theorem dX8_passesOrder_70 : decode cX8_passesOrder 70 = .ok (.if_icmp .eq 14, 3) := by decide +kernel
theorem dX8_passesOrder_73 : decode cX8_passesOrder 73 = .ok (.aload_n 0, 1) := by decide +kernel
theorem dX8_passesOrder_74 : decode cX8_passesOrder 74 = .ok (.getfield 186, 3) := by decide +kernel
theorem dX8_passesOrder_77 : decode cX8_passesOrder 77 = .ok (.bipush 112, 2) := by decide +kernel
theorem dX8_passesOrder_79 : decode cX8_passesOrder 79 = .ok (.if_icmp .eq 5, 3) := by decide +kernel
theorem dX8_passesOrder_82 : decode cX8_passesOrder 82 = .ok (.iconst 0, 1) := by decide +kernel
theorem dX8_passesOrder_83 : decode cX8_passesOrder 83 = .ok (.ireturn, 1) := by decide +kernel
theorem dX8_passesOrder_84 : decode cX8_passesOrder 84 = .ok (.aload_n 0, 1) := by decide +kernel
theorem dX8_passesOrder_85 : decode cX8_passesOrder 85 = .ok (.dup, 1) := by decide +kernel
theorem dX8_passesOrder_86 : decode cX8_passesOrder 86 = .ok (.getfield 177, 3) := by decide +kernel
theorem dX8_passesOrder_89 : decode cX8_passesOrder 89 = .ok (.iconst 1, 1) := by decide +kernel
theorem dX8_passesOrder_90 : decode cX8_passesOrder 90 = .ok (.iadd, 1) := by decide +kernel
theorem dX8_passesOrder_91 : decode cX8_passesOrder 91 = .ok (.putfield 177, 3) := by decide +kernel
theorem dX8_passesOrder_94 : decode cX8_passesOrder 94 = .ok (.aload_n 0, 1) := by decide +kernel
theorem dX8_passesOrder_95 : decode cX8_passesOrder 95 = .ok (.aload_n 0, 1) := by decide +kernel
theorem dX8_passesOrder_96 : decode cX8_passesOrder 96 = .ok (.getfield 186, 3) := by decide +kernel
theorem dX8_passesOrder_99 : decode cX8_passesOrder 99 = .ok (.bipush 114, 2) := by decide +kernel
theorem dX8_passesOrder_101 : decode cX8_passesOrder 101 = .ok (.if_icmp .eq 12, 3) := by decide +kernel
theorem dX8_passesOrder_104 : decode cX8_passesOrder 104 = .ok (.aload_n 0, 1) := by decide +kernel
theorem dX8_passesOrder_105 : decode cX8_passesOrder 105 = .ok (.getfield 186, 3) := by decide +kernel
theorem dX8_passesOrder_108 : decode cX8_passesOrder 108 = .ok (.bipush 115, 2) := by decide +kernel
theorem dX8_passesOrder_110 : decode cX8_passesOrder 110 = .ok (.if_icmp .ne 7, 3) := by decide +kernel
theorem dX8_passesOrder_113 : decode cX8_passesOrder 113 = .ok (.iconst 1, 1) := by decide +kernel
theorem dX8_passesOrder_114 : decode cX8_passesOrder 114 = .ok (.goto 4, 3) := by decide +kernel
theorem dX8_passesOrder_117 : decode cX8_passesOrder 117 = .ok (.iconst 2, 1) := by decide +kernel
theorem dX8_passesOrder_118 : decode cX8_passesOrder 118 = .ok (.invokevirtual 189, 3) := by decide +kernel
theorem dX8_passesOrder_121 : decode cX8_passesOrder 121 = .ok (.ifCond .ne 5, 3) := by decide +kernel
theorem dX8_passesOrder_124 : decode cX8_passesOrder 124 = .ok (.iconst 0, 1) := by decide +kernel
theorem dX8_passesOrder_125 : decode cX8_passesOrder 125 = .ok (.ireturn, 1) := by decide +kernel
theorem dX8_passesOrder_126 : decode cX8_passesOrder 126 = .ok (.aload_n 0, 1) := by decide +kernel
theorem dX8_passesOrder_127 : decode cX8_passesOrder 127 = .ok (.aload_n 0, 1) := by decide +kernel
theorem dX8_passesOrder_128 : decode cX8_passesOrder 128 = .ok (.getfield 183, 3) := by decide +kernel
theorem dX8_passesOrder_131 : decode cX8_passesOrder 131 = .ok (.putfield 192, 3) := by decide +kernel
theorem dX8_passesOrder_134 : decode cX8_passesOrder 134 = .ok (.aload_n 0, 1) := by decide +kernel
theorem dX8_passesOrder_135 : decode cX8_passesOrder 135 = .ok (.getfield 186, 3) := by decide +kernel
theorem dX8_passesOrder_138 : decode cX8_passesOrder 138 = .ok (.bipush 104, 2) := by decide +kernel
theorem dX8_passesOrder_140 : decode cX8_passesOrder 140 = .ok (.if_icmp .eq 12, 3) := by decide +kernel
theorem dX8_passesOrder_143 : decode cX8_passesOrder 143 = .ok (.aload_n 0, 1) := by decide +kernel
theorem dX8_passesOrder_144 : decode cX8_passesOrder 144 = .ok (.getfield 186, 3) := by decide +kernel
theorem dX8_passesOrder_147 : decode cX8_passesOrder 147 = .ok (.bipush 108, 2) := by decide +kernel
theorem dX8_passesOrder_149 : decode cX8_passesOrder 149 = .ok (.if_icmp .ne 30, 3) := by decide +kernel
theorem dX8_passesOrder_152 : decode cX8_passesOrder 152 = .ok (.aload_n 0, 1) := by decide +kernel
theorem dX8_passesOrder_153 : decode cX8_passesOrder 153 = .ok (.bipush 99, 2) := by decide +kernel
theorem dX8_passesOrder_155 : decode cX8_passesOrder 155 = .ok (.invokevirtual 195, 3) := by decide +kernel
theorem dX8_passesOrder_158 : decode cX8_passesOrder 158 = .ok (.ifCond .eq 11, 3) := by decide +kernel
theorem dX8_passesOrder_161 : decode cX8_passesOrder 161 = .ok (.aload_n 0, 1) := by decide +kernel
theorem dX8_passesOrder_162 : decode cX8_passesOrder 162 = .ok (.iconst 1, 1) := by decide +kernel
theorem dX8_passesOrder_163 : decode cX8_passesOrder 163 = .ok (.invokevirtual 189, 3) := by decide +kernel
theorem dX8_passesOrder_166 : decode cX8_passesOrder 166 = .ok (.ifCond .ne 5, 3) := by decide +kernel
theorem dX8_passesOrder_169 : decode cX8_passesOrder 169 = .ok (.iconst 0, 1) := by decide +kernel
theorem dX8_passesOrder_170 : decode cX8_passesOrder 170 = .ok (.ireturn, 1) := by decide +kernel
theorem dX8_passesOrder_171 : decode cX8_passesOrder 171 = .ok (.aload_n 0, 1) := by decide +kernel
theorem dX8_passesOrder_172 : decode cX8_passesOrder 172 = .ok (.aload_n 0, 1) := by decide +kernel
theorem dX8_passesOrder_173 : decode cX8_passesOrder 173 = .ok (.getfield 183, 3) := by decide +kernel
theorem dX8_passesOrder_176 : decode cX8_passesOrder 176 = .ok (.putfield 198, 3) := by decide +kernel
theorem dX8_passesOrder_179 : decode cX8_passesOrder 179 = .ok (.iconst 1, 1) := by decide +kernel
theorem dX8_passesOrder_180 : decode cX8_passesOrder 180 = .ok (.ireturn, 1) := by decide +kernel
theorem dX8_faultOf_0 : decode cX8_faultOf 0 = .ok (.aload_n 0, 1) := by decide +kernel
theorem dX8_faultOf_1 : decode cX8_faultOf 1 = .ok (.iconst 0, 1) := by decide +kernel
theorem dX8_faultOf_2 : decode cX8_faultOf 2 = .ok (.putfield 177, 3) := by decide +kernel
theorem dX8_faultOf_5 : decode cX8_faultOf 5 = .ok (.aload_n 0, 1) := by decide +kernel
theorem dX8_faultOf_6 : decode cX8_faultOf 6 = .ok (.invokevirtual 201, 3) := by decide +kernel
theorem dX8_faultOf_9 : decode cX8_faultOf 9 = .ok (.ifCond .ne 8, 3) := by decide +kernel
theorem dX8_faultOf_12 : decode cX8_faultOf 12 = .ok (.aload_n 0, 1) := by decide +kernel
theorem dX8_faultOf_13 : decode cX8_faultOf 13 = .ok (.getfield 177, 3) := by decide +kernel
theorem dX8_faultOf_16 : decode cX8_faultOf 16 = .ok (.ireturn, 1) := by decide +kernel
theorem dX8_faultOf_17 : decode cX8_faultOf 17 = .ok (.aload_n 0, 1) := by decide +kernel
theorem dX8_faultOf_18 : decode cX8_faultOf 18 = .ok (.getfield 177, 3) := by decide +kernel
theorem dX8_faultOf_21 : decode cX8_faultOf 21 = .ok (.aload_n 0, 1) := by decide +kernel
theorem dX8_faultOf_22 : decode cX8_faultOf 22 = .ok (.getfield 174, 3) := by decide +kernel
theorem dX8_faultOf_25 : decode cX8_faultOf 25 = .ok (.if_icmp .ge 24, 3) := by decide +kernel
theorem dX8_faultOf_28 : decode cX8_faultOf 28 = .ok (.aload_n 0, 1) := by decide +kernel
theorem dX8_faultOf_29 : decode cX8_faultOf 29 = .ok (.bipush 59, 2) := by decide +kernel
theorem dX8_faultOf_31 : decode cX8_faultOf 31 = .ok (.invokevirtual 195, 3) := by decide +kernel
theorem dX8_faultOf_34 : decode cX8_faultOf 34 = .ok (.ifCond .eq 10, 3) := by decide +kernel
theorem dX8_faultOf_37 : decode cX8_faultOf 37 = .ok (.aload_n 0, 1) := by decide +kernel
theorem dX8_faultOf_38 : decode cX8_faultOf 38 = .ok (.invokevirtual 201, 3) := by decide +kernel
theorem dX8_faultOf_41 : decode cX8_faultOf 41 = .ok (.ifCond .ne (-24), 3) := by decide +kernel
theorem dX8_faultOf_44 : decode cX8_faultOf 44 = .ok (.aload_n 0, 1) := by decide +kernel
theorem dX8_faultOf_45 : decode cX8_faultOf 45 = .ok (.getfield 177, 3) := by decide +kernel
theorem dX8_faultOf_48 : decode cX8_faultOf 48 = .ok (.ireturn, 1) := by decide +kernel
theorem dX8_faultOf_49 : decode cX8_faultOf 49 = .ok (.bipush (-5), 2) := by decide +kernel
theorem dX8_faultOf_51 : decode cX8_faultOf 51 = .ok (.ireturn, 1) := by decide +kernel
theorem dX8_orderError_0 : decode cX8_orderError 0 = .ok (.aload_n 0, 1) := by decide +kernel
theorem dX8_orderError_1 : decode cX8_orderError 1 = .ok (.getfield 186, 3) := by decide +kernel
theorem dX8_orderError_4 : decode cX8_orderError 4 = .ok (.lookupswitch 105 #[(98, 78), (104, 52), (108, 65), (114, 87), (115, 96)], 52) := by decide +kernel
theorem dX8_orderError_56 : decode cX8_orderError 56 = .ok (.aload_n 0, 1) := by decide +kernel
theorem dX8_orderError_57 : decode cX8_orderError 57 = .ok (.aload_n 0, 1) := by decide +kernel
theorem dX8_orderError_58 : decode cX8_orderError 58 = .ok (.getfield 192, 3) := by decide +kernel
theorem dX8_orderError_61 : decode cX8_orderError 61 = .ok (.aload_n 0, 1) := by decide +kernel
theorem dX8_orderError_62 : decode cX8_orderError 62 = .ok (.getfield 198, 3) := by decide +kernel
theorem dX8_orderError_65 : decode cX8_orderError 65 = .ok (.invokevirtual 128, 3) := by decide +kernel
theorem dX8_orderError_68 : decode cX8_orderError 68 = .ok (.ireturn, 1) := by decide +kernel
theorem dX8_orderError_69 : decode cX8_orderError 69 = .ok (.aload_n 0, 1) := by decide +kernel
theorem dX8_orderError_70 : decode cX8_orderError 70 = .ok (.aload_n 0, 1) := by decide +kernel
theorem dX8_orderError_71 : decode cX8_orderError 71 = .ok (.getfield 192, 3) := by decide +kernel
theorem dX8_orderError_74 : decode cX8_orderError 74 = .ok (.aload_n 0, 1) := by decide +kernel
theorem dX8_orderError_75 : decode cX8_orderError 75 = .ok (.getfield 198, 3) := by decide +kernel
theorem dX8_orderError_78 : decode cX8_orderError 78 = .ok (.invokevirtual 146, 3) := by decide +kernel
theorem dX8_orderError_81 : decode cX8_orderError 81 = .ok (.ireturn, 1) := by decide +kernel
theorem dX8_orderError_82 : decode cX8_orderError 82 = .ok (.aload_n 0, 1) := by decide +kernel
theorem dX8_orderError_83 : decode cX8_orderError 83 = .ok (.aload_n 0, 1) := by decide +kernel
theorem dX8_orderError_84 : decode cX8_orderError 84 = .ok (.getfield 192, 3) := by decide +kernel
theorem dX8_orderError_87 : decode cX8_orderError 87 = .ok (.invokevirtual 137, 3) := by decide +kernel
theorem dX8_orderError_90 : decode cX8_orderError 90 = .ok (.ireturn, 1) := by decide +kernel
theorem dX8_orderError_91 : decode cX8_orderError 91 = .ok (.aload_n 0, 1) := by decide +kernel
theorem dX8_orderError_92 : decode cX8_orderError 92 = .ok (.aload_n 0, 1) := by decide +kernel
theorem dX8_orderError_93 : decode cX8_orderError 93 = .ok (.getfield 192, 3) := by decide +kernel
theorem dX8_orderError_96 : decode cX8_orderError 96 = .ok (.invokevirtual 110, 3) := by decide +kernel
theorem dX8_orderError_99 : decode cX8_orderError 99 = .ok (.ireturn, 1) := by decide +kernel
theorem dX8_orderError_100 : decode cX8_orderError 100 = .ok (.aload_n 0, 1) := by decide +kernel
theorem dX8_orderError_101 : decode cX8_orderError 101 = .ok (.aload_n 0, 1) := by decide +kernel
theorem dX8_orderError_102 : decode cX8_orderError 102 = .ok (.getfield 192, 3) := by decide +kernel
theorem dX8_orderError_105 : decode cX8_orderError 105 = .ok (.invokevirtual 116, 3) := by decide +kernel
theorem dX8_orderError_108 : decode cX8_orderError 108 = .ok (.ireturn, 1) := by decide +kernel
theorem dX8_orderError_109 : decode cX8_orderError 109 = .ok (.aload_n 0, 1) := by decide +kernel
theorem dX8_orderError_110 : decode cX8_orderError 110 = .ok (.aload_n 0, 1) := by decide +kernel
theorem dX8_orderError_111 : decode cX8_orderError 111 = .ok (.getfield 192, 3) := by decide +kernel
theorem dX8_orderError_114 : decode cX8_orderError 114 = .ok (.invokevirtual 168, 3) := by decide +kernel
theorem dX8_orderError_117 : decode cX8_orderError 117 = .ok (.ireturn, 1) := by decide +kernel
theorem dX8_does_0 : decode cX8_does 0 = .ok (.aload_n 0, 1) := by decide +kernel
theorem dX8_does_1 : decode cX8_does 1 = .ok (.getfield 186, 3) := by decide +kernel
theorem dX8_does_4 : decode cX8_does 4 = .ok (.lookupswitch 103 #[(98, 74), (104, 52), (108, 65), (114, 83), (115, 93)], 52) := by decide +kernel
theorem dX8_does_56 : decode cX8_does 56 = .ok (.aload_n 0, 1) := by decide +kernel
theorem dX8_does_57 : decode cX8_does 57 = .ok (.aload_n 0, 1) := by decide +kernel
theorem dX8_does_58 : decode cX8_does 58 = .ok (.getfield 192, 3) := by decide +kernel
theorem dX8_does_61 : decode cX8_does 61 = .ok (.aload_n 0, 1) := by decide +kernel
theorem dX8_does_62 : decode cX8_does 62 = .ok (.getfield 198, 3) := by decide +kernel
theorem dX8_does_65 : decode cX8_does 65 = .ok (.invokevirtual 131, 3) := by decide +kernel
theorem dX8_does_68 : decode cX8_does 68 = .ok (.ireturn, 1) := by decide +kernel
theorem dX8_does_69 : decode cX8_does 69 = .ok (.aload_n 0, 1) := by decide +kernel
theorem dX8_does_70 : decode cX8_does 70 = .ok (.aload_n 0, 1) := by decide +kernel
theorem dX8_does_71 : decode cX8_does 71 = .ok (.getfield 192, 3) := by decide +kernel
theorem dX8_does_74 : decode cX8_does 74 = .ok (.invokevirtual 149, 3) := by decide +kernel
theorem dX8_does_77 : decode cX8_does 77 = .ok (.ireturn, 1) := by decide +kernel
theorem dX8_does_78 : decode cX8_does 78 = .ok (.aload_n 0, 1) := by decide +kernel
theorem dX8_does_79 : decode cX8_does 79 = .ok (.aload_n 0, 1) := by decide +kernel
theorem dX8_does_80 : decode cX8_does 80 = .ok (.getfield 192, 3) := by decide +kernel
theorem dX8_does_83 : decode cX8_does 83 = .ok (.invokevirtual 140, 3) := by decide +kernel
theorem dX8_does_86 : decode cX8_does 86 = .ok (.ireturn, 1) := by decide +kernel
theorem dX8_does_87 : decode cX8_does 87 = .ok (.aload_n 0, 1) := by decide +kernel
theorem dX8_does_88 : decode cX8_does 88 = .ok (.aload_n 0, 1) := by decide +kernel
theorem dX8_does_89 : decode cX8_does 89 = .ok (.getfield 192, 3) := by decide +kernel
theorem dX8_does_92 : decode cX8_does 92 = .ok (.iconst 1, 1) := by decide +kernel
theorem dX8_does_93 : decode cX8_does 93 = .ok (.invokevirtual 113, 3) := by decide +kernel
theorem dX8_does_96 : decode cX8_does 96 = .ok (.ireturn, 1) := by decide +kernel
theorem dX8_does_97 : decode cX8_does 97 = .ok (.aload_n 0, 1) := by decide +kernel
theorem dX8_does_98 : decode cX8_does 98 = .ok (.aload_n 0, 1) := by decide +kernel
theorem dX8_does_99 : decode cX8_does 99 = .ok (.getfield 192, 3) := by decide +kernel
theorem dX8_does_102 : decode cX8_does 102 = .ok (.iconst 0, 1) := by decide +kernel
theorem dX8_does_103 : decode cX8_does 103 = .ok (.invokevirtual 113, 3) := by decide +kernel
theorem dX8_does_106 : decode cX8_does 106 = .ok (.ireturn, 1) := by decide +kernel
theorem dX8_does_107 : decode cX8_does 107 = .ok (.aload_n 0, 1) := by decide +kernel
theorem dX8_does_108 : decode cX8_does 108 = .ok (.aload_n 0, 1) := by decide +kernel
theorem dX8_does_109 : decode cX8_does 109 = .ok (.getfield 192, 3) := by decide +kernel
theorem dX8_does_112 : decode cX8_does 112 = .ok (.invokevirtual 171, 3) := by decide +kernel
theorem dX8_does_115 : decode cX8_does 115 = .ok (.ireturn, 1) := by decide +kernel
theorem dX8_perform_0 : decode cX8_perform 0 = .ok (.aload_n 0, 1) := by decide +kernel
theorem dX8_perform_1 : decode cX8_perform 1 = .ok (.invokevirtual 205, 3) := by decide +kernel
theorem dX8_perform_4 : decode cX8_perform 4 = .ok (.istore_n 1, 1) := by decide +kernel
theorem dX8_perform_5 : decode cX8_perform 5 = .ok (.iload_n 1, 1) := by decide +kernel
theorem dX8_perform_6 : decode cX8_perform 6 = .ok (.bipush (-5), 2) := by decide +kernel
theorem dX8_perform_8 : decode cX8_perform 8 = .ok (.if_icmp .eq 8, 3) := by decide +kernel
theorem dX8_perform_11 : decode cX8_perform 11 = .ok (.bipush (-100), 2) := by decide +kernel
theorem dX8_perform_13 : decode cX8_perform 13 = .ok (.iload_n 1, 1) := by decide +kernel
theorem dX8_perform_14 : decode cX8_perform 14 = .ok (.isub, 1) := by decide +kernel
theorem dX8_perform_15 : decode cX8_perform 15 = .ok (.ireturn, 1) := by decide +kernel
theorem dX8_perform_16 : decode cX8_perform 16 = .ok (.aload_n 0, 1) := by decide +kernel
theorem dX8_perform_17 : decode cX8_perform 17 = .ok (.iconst 5, 1) := by decide +kernel
theorem dX8_perform_18 : decode cX8_perform 18 = .ok (.invokevirtual 44, 3) := by decide +kernel
theorem dX8_perform_21 : decode cX8_perform 21 = .ok (.iconst 0, 1) := by decide +kernel
theorem dX8_perform_22 : decode cX8_perform 22 = .ok (.istore_n 2, 1) := by decide +kernel
theorem dX8_perform_23 : decode cX8_perform 23 = .ok (.aload_n 0, 1) := by decide +kernel
theorem dX8_perform_24 : decode cX8_perform 24 = .ok (.iconst 0, 1) := by decide +kernel
theorem dX8_perform_25 : decode cX8_perform 25 = .ok (.putfield 177, 3) := by decide +kernel
theorem dX8_perform_28 : decode cX8_perform 28 = .ok (.aload_n 0, 1) := by decide +kernel
theorem dX8_perform_29 : decode cX8_perform 29 = .ok (.getfield 177, 3) := by decide +kernel
theorem dX8_perform_32 : decode cX8_perform 32 = .ok (.aload_n 0, 1) := by decide +kernel
theorem dX8_perform_33 : decode cX8_perform 33 = .ok (.getfield 174, 3) := by decide +kernel
theorem dX8_perform_36 : decode cX8_perform 36 = .ok (.if_icmp .ge 79, 3) := by decide +kernel
theorem dX8_perform_39 : decode cX8_perform 39 = .ok (.aload_n 0, 1) := by decide +kernel
theorem dX8_perform_40 : decode cX8_perform 40 = .ok (.invokevirtual 201, 3) := by decide +kernel
theorem dX8_perform_43 : decode cX8_perform 43 = .ok (.istore_n 3, 1) := by decide +kernel
theorem dX8_perform_44 : decode cX8_perform 44 = .ok (.aload_n 0, 1) := by decide +kernel
theorem dX8_perform_45 : decode cX8_perform 45 = .ok (.invokevirtual 208, 3) := by decide +kernel
theorem dX8_perform_48 : decode cX8_perform 48 = .ok (.istore 4, 2) := by decide +kernel
theorem dX8_perform_50 : decode cX8_perform 50 = .ok (.iload 4, 2) := by decide +kernel
theorem dX8_perform_52 : decode cX8_perform 52 = .ok (.ifCond .ne 21, 3) := by decide +kernel
theorem dX8_perform_55 : decode cX8_perform 55 = .ok (.iload_n 2, 1) := by decide +kernel
theorem dX8_perform_56 : decode cX8_perform 56 = .ok (.aload_n 0, 1) := by decide +kernel
theorem dX8_perform_57 : decode cX8_perform 57 = .ok (.invokevirtual 211, 3) := by decide +kernel
theorem dX8_perform_60 : decode cX8_perform 60 = .ok (.ifCond .ge 7, 3) := by decide +kernel
theorem dX8_perform_63 : decode cX8_perform 63 = .ok (.iconst 0, 1) := by decide +kernel
theorem dX8_perform_64 : decode cX8_perform 64 = .ok (.goto 4, 3) := by decide +kernel
theorem dX8_perform_67 : decode cX8_perform 67 = .ok (.iconst 1, 1) := by decide +kernel
theorem dX8_perform_68 : decode cX8_perform 68 = .ok (.iadd, 1) := by decide +kernel
theorem dX8_perform_69 : decode cX8_perform 69 = .ok (.istore_n 2, 1) := by decide +kernel
theorem dX8_perform_70 : decode cX8_perform 70 = .ok (.goto 24, 3) := by decide +kernel
theorem dX8_perform_73 : decode cX8_perform 73 = .ok (.iload 4, 2) := by decide +kernel
theorem dX8_perform_75 : decode cX8_perform 75 = .ok (.bipush (-5), 2) := by decide +kernel
theorem dX8_perform_77 : decode cX8_perform 77 = .ok (.if_icmp .ne 9, 3) := by decide +kernel
theorem dX8_perform_80 : decode cX8_perform 80 = .ok (.iinc 2 1, 3) := by decide +kernel
theorem dX8_perform_83 : decode cX8_perform 83 = .ok (.goto 11, 3) := by decide +kernel
theorem dX8_perform_86 : decode cX8_perform 86 = .ok (.aload_n 0, 1) := by decide +kernel
theorem dX8_perform_87 : decode cX8_perform 87 = .ok (.iconst 5, 1) := by decide +kernel
theorem dX8_perform_88 : decode cX8_perform 88 = .ok (.invokevirtual 51, 3) := by decide +kernel
theorem dX8_perform_91 : decode cX8_perform 91 = .ok (.iload 4, 2) := by decide +kernel
theorem dX8_perform_93 : decode cX8_perform 93 = .ok (.ireturn, 1) := by decide +kernel
theorem dX8_perform_94 : decode cX8_perform 94 = .ok (.aload_n 0, 1) := by decide +kernel
theorem dX8_perform_95 : decode cX8_perform 95 = .ok (.dup, 1) := by decide +kernel
theorem dX8_perform_96 : decode cX8_perform 96 = .ok (.getfield 177, 3) := by decide +kernel
theorem dX8_perform_99 : decode cX8_perform 99 = .ok (.iload_n 3, 1) := by decide +kernel
theorem dX8_perform_100 : decode cX8_perform 100 = .ok (.ifCond .eq 7, 3) := by decide +kernel
theorem dX8_perform_103 : decode cX8_perform 103 = .ok (.iconst 1, 1) := by decide +kernel
theorem dX8_perform_104 : decode cX8_perform 104 = .ok (.goto 4, 3) := by decide +kernel
theorem dX8_perform_107 : decode cX8_perform 107 = .ok (.iconst 0, 1) := by decide +kernel
theorem dX8_perform_108 : decode cX8_perform 108 = .ok (.iadd, 1) := by decide +kernel
theorem dX8_perform_109 : decode cX8_perform 109 = .ok (.putfield 177, 3) := by decide +kernel
theorem dX8_perform_112 : decode cX8_perform 112 = .ok (.goto (-84), 3) := by decide +kernel
theorem dX8_perform_115 : decode cX8_perform 115 = .ok (.aload_n 0, 1) := by decide +kernel
theorem dX8_perform_116 : decode cX8_perform 116 = .ok (.invokevirtual 48, 3) := by decide +kernel
theorem dX8_perform_119 : decode cX8_perform 119 = .ok (.iload_n 2, 1) := by decide +kernel
theorem dX8_perform_120 : decode cX8_perform 120 = .ok (.ireturn, 1) := by decide +kernel
theorem dX8_real_0 : decode cX8_real 0 = .ok (.aload_n 0, 1) := by decide +kernel
theorem dX8_real_1 : decode cX8_real 1 = .ok (.iload_n 1, 1) := by decide +kernel
theorem dX8_real_2 : decode cX8_real 2 = .ok (.invokevirtual 65, 3) := by decide +kernel
theorem dX8_real_5 : decode cX8_real 5 = .ok (.ifCond .eq 12, 3) := by decide +kernel
theorem dX8_real_8 : decode cX8_real 8 = .ok (.iload_n 2, 1) := by decide +kernel
theorem dX8_real_9 : decode cX8_real 9 = .ok (.iconst 0, 1) := by decide +kernel
theorem dX8_real_10 : decode cX8_real 10 = .ok (.iconst 2, 1) := by decide +kernel
theorem dX8_real_11 : decode cX8_real 11 = .ok (.invokestatic 32, 3) := by decide +kernel
theorem dX8_real_14 : decode cX8_real 14 = .ok (.ifCond .ne 6, 3) := by decide +kernel
theorem dX8_real_17 : decode cX8_real 17 = .ok (.ldc 214, 2) := by decide +kernel
theorem dX8_real_19 : decode cX8_real 19 = .ok (.freturn, 1) := by decide +kernel
theorem dX8_real_20 : decode cX8_real 20 = .ok (.iload_n 2, 1) := by decide +kernel
theorem dX8_real_21 : decode cX8_real 21 = .ok (.ifCond .ne 12, 3) := by decide +kernel
theorem dX8_real_24 : decode cX8_real 24 = .ok (.aload_n 0, 1) := by decide +kernel
theorem dX8_real_25 : decode cX8_real 25 = .ok (.getfield 13, 3) := by decide +kernel
theorem dX8_real_28 : decode cX8_real 28 = .ok (.iload_n 1, 1) := by decide +kernel
theorem dX8_real_29 : decode cX8_real 29 = .ok (.faload, 1) := by decide +kernel
theorem dX8_real_30 : decode cX8_real 30 = .ok (.goto 27, 3) := by decide +kernel
theorem dX8_real_33 : decode cX8_real 33 = .ok (.iload_n 2, 1) := by decide +kernel
theorem dX8_real_34 : decode cX8_real 34 = .ok (.iconst 1, 1) := by decide +kernel
theorem dX8_real_35 : decode cX8_real 35 = .ok (.if_icmp .ne 12, 3) := by decide +kernel
theorem dX8_real_38 : decode cX8_real 38 = .ok (.aload_n 0, 1) := by decide +kernel
theorem dX8_real_39 : decode cX8_real 39 = .ok (.getfield 17, 3) := by decide +kernel
theorem dX8_real_42 : decode cX8_real 42 = .ok (.iload_n 1, 1) := by decide +kernel
theorem dX8_real_43 : decode cX8_real 43 = .ok (.faload, 1) := by decide +kernel
theorem dX8_real_44 : decode cX8_real 44 = .ok (.goto 13, 3) := by decide +kernel
theorem dX8_real_47 : decode cX8_real 47 = .ok (.aload_n 0, 1) := by decide +kernel
theorem dX8_real_48 : decode cX8_real 48 = .ok (.iload_n 1, 1) := by decide +kernel
theorem dX8_real_49 : decode cX8_real 49 = .ok (.iconst 1, 1) := by decide +kernel
theorem dX8_real_50 : decode cX8_real 50 = .ok (.invokevirtual 69, 3) := by decide +kernel
theorem dX8_real_53 : decode cX8_real 53 = .ok (.i2f, 1) := by decide +kernel
theorem dX8_real_54 : decode cX8_real 54 = .ok (.ldc 152, 2) := by decide +kernel
theorem dX8_real_56 : decode cX8_real 56 = .ok (.fdiv, 1) := by decide +kernel
theorem dX8_real_57 : decode cX8_real 57 = .ok (.freturn, 1) := by decide +kernel
theorem dX8_healthIn_0 : decode cX8_healthIn 0 = .ok (.aload_n 0, 1) := by decide +kernel
theorem dX8_healthIn_1 : decode cX8_healthIn 1 = .ok (.iload_n 1, 1) := by decide +kernel
theorem dX8_healthIn_2 : decode cX8_healthIn 2 = .ok (.invokevirtual 65, 3) := by decide +kernel
theorem dX8_healthIn_5 : decode cX8_healthIn 5 = .ok (.ifCond .eq 14, 3) := by decide +kernel
theorem dX8_healthIn_8 : decode cX8_healthIn 8 = .ok (.iload_n 2, 1) := by decide +kernel
theorem dX8_healthIn_9 : decode cX8_healthIn 9 = .ok (.iconst 0, 1) := by decide +kernel
theorem dX8_healthIn_10 : decode cX8_healthIn 10 = .ok (.sipush 200, 3) := by decide +kernel
theorem dX8_healthIn_13 : decode cX8_healthIn 13 = .ok (.invokestatic 32, 3) := by decide +kernel
theorem dX8_healthIn_16 : decode cX8_healthIn 16 = .ok (.ifCond .ne 6, 3) := by decide +kernel
theorem dX8_healthIn_19 : decode cX8_healthIn 19 = .ok (.ldc 214, 2) := by decide +kernel
theorem dX8_healthIn_21 : decode cX8_healthIn 21 = .ok (.freturn, 1) := by decide +kernel
theorem dX8_healthIn_22 : decode cX8_healthIn 22 = .ok (.aload_n 0, 1) := by decide +kernel
theorem dX8_healthIn_23 : decode cX8_healthIn 23 = .ok (.getfield 13, 3) := by decide +kernel
theorem dX8_healthIn_26 : decode cX8_healthIn 26 = .ok (.iload_n 1, 1) := by decide +kernel
theorem dX8_healthIn_27 : decode cX8_healthIn 27 = .ok (.faload, 1) := by decide +kernel
theorem dX8_healthIn_28 : decode cX8_healthIn 28 = .ok (.fstore_n 3, 1) := by decide +kernel
theorem dX8_healthIn_29 : decode cX8_healthIn 29 = .ok (.iconst 0, 1) := by decide +kernel
theorem dX8_healthIn_30 : decode cX8_healthIn 30 = .ok (.istore 4, 2) := by decide +kernel
theorem dX8_healthIn_32 : decode cX8_healthIn 32 = .ok (.iload 4, 2) := by decide +kernel
theorem dX8_healthIn_34 : decode cX8_healthIn 34 = .ok (.iload_n 2, 1) := by decide +kernel
theorem dX8_healthIn_35 : decode cX8_healthIn 35 = .ok (.if_icmp .ge 16, 3) := by decide +kernel
theorem dX8_healthIn_38 : decode cX8_healthIn 38 = .ok (.aload_n 0, 1) := by decide +kernel
theorem dX8_healthIn_39 : decode cX8_healthIn 39 = .ok (.iload_n 1, 1) := by decide +kernel
theorem dX8_healthIn_40 : decode cX8_healthIn 40 = .ok (.fload_n 3, 1) := by decide +kernel
theorem dX8_healthIn_41 : decode cX8_healthIn 41 = .ok (.invokevirtual 154, 3) := by decide +kernel
theorem dX8_healthIn_44 : decode cX8_healthIn 44 = .ok (.fstore_n 3, 1) := by decide +kernel
theorem dX8_healthIn_45 : decode cX8_healthIn 45 = .ok (.iinc 4 1, 3) := by decide +kernel
theorem dX8_healthIn_48 : decode cX8_healthIn 48 = .ok (.goto (-16), 3) := by decide +kernel
theorem dX8_healthIn_51 : decode cX8_healthIn 51 = .ok (.fload_n 3, 1) := by decide +kernel
theorem dX8_healthIn_52 : decode cX8_healthIn 52 = .ok (.freturn, 1) := by decide +kernel
theorem dX8_hoursTo_0 : decode cX8_hoursTo 0 = .ok (.aload_n 0, 1) := by decide +kernel
theorem dX8_hoursTo_1 : decode cX8_hoursTo 1 = .ok (.iload_n 1, 1) := by decide +kernel
theorem dX8_hoursTo_2 : decode cX8_hoursTo 2 = .ok (.invokevirtual 65, 3) := by decide +kernel
theorem dX8_hoursTo_5 : decode cX8_hoursTo 5 = .ok (.ifCond .ne 5, 3) := by decide +kernel
theorem dX8_hoursTo_8 : decode cX8_hoursTo 8 = .ok (.iconst (-1), 1) := by decide +kernel
theorem dX8_hoursTo_9 : decode cX8_hoursTo 9 = .ok (.ireturn, 1) := by decide +kernel
theorem dX8_hoursTo_10 : decode cX8_hoursTo 10 = .ok (.iload_n 2, 1) := by decide +kernel
theorem dX8_hoursTo_11 : decode cX8_hoursTo 11 = .ok (.iconst 1, 1) := by decide +kernel
theorem dX8_hoursTo_12 : decode cX8_hoursTo 12 = .ok (.bipush 100, 2) := by decide +kernel
theorem dX8_hoursTo_14 : decode cX8_hoursTo 14 = .ok (.invokestatic 32, 3) := by decide +kernel
theorem dX8_hoursTo_17 : decode cX8_hoursTo 17 = .ok (.ifCond .ne 6, 3) := by decide +kernel
theorem dX8_hoursTo_20 : decode cX8_hoursTo 20 = .ok (.bipush (-2), 2) := by decide +kernel
theorem dX8_hoursTo_22 : decode cX8_hoursTo 22 = .ok (.ireturn, 1) := by decide +kernel
theorem dX8_hoursTo_23 : decode cX8_hoursTo 23 = .ok (.iload_n 2, 1) := by decide +kernel
theorem dX8_hoursTo_24 : decode cX8_hoursTo 24 = .ok (.i2f, 1) := by decide +kernel
theorem dX8_hoursTo_25 : decode cX8_hoursTo 25 = .ok (.ldc 215, 2) := by decide +kernel
theorem dX8_hoursTo_27 : decode cX8_hoursTo 27 = .ok (.fdiv, 1) := by decide +kernel
theorem dX8_hoursTo_28 : decode cX8_hoursTo 28 = .ok (.fstore_n 3, 1) := by decide +kernel
theorem dX8_hoursTo_29 : decode cX8_hoursTo 29 = .ok (.aload_n 0, 1) := by decide +kernel
theorem dX8_hoursTo_30 : decode cX8_hoursTo 30 = .ok (.getfield 13, 3) := by decide +kernel
theorem dX8_hoursTo_33 : decode cX8_hoursTo 33 = .ok (.iload_n 1, 1) := by decide +kernel
theorem dX8_hoursTo_34 : decode cX8_hoursTo 34 = .ok (.faload, 1) := by decide +kernel
theorem dX8_hoursTo_35 : decode cX8_hoursTo 35 = .ok (.fstore 4, 2) := by decide +kernel
theorem dX8_hoursTo_37 : decode cX8_hoursTo 37 = .ok (.iconst 0, 1) := by decide +kernel
theorem dX8_hoursTo_38 : decode cX8_hoursTo 38 = .ok (.istore 5, 2) := by decide +kernel
theorem dX8_hoursTo_40 : decode cX8_hoursTo 40 = .ok (.iload 5, 2) := by decide +kernel
theorem dX8_hoursTo_42 : decode cX8_hoursTo 42 = .ok (.sipush 200, 3) := by decide +kernel
theorem dX8_hoursTo_45 : decode cX8_hoursTo 45 = .ok (.if_icmp .gt 28, 3) := by decide +kernel
theorem dX8_hoursTo_48 : decode cX8_hoursTo 48 = .ok (.fload 4, 2) := by decide +kernel
theorem dX8_hoursTo_50 : decode cX8_hoursTo 50 = .ok (.fload_n 3, 1) := by decide +kernel
theorem dX8_hoursTo_51 : decode cX8_hoursTo 51 = .ok (.fcmp .g, 1) := by decide +kernel
theorem dX8_hoursTo_52 : decode cX8_hoursTo 52 = .ok (.ifCond .ge 6, 3) := by decide +kernel
theorem dX8_hoursTo_55 : decode cX8_hoursTo 55 = .ok (.iload 5, 2) := by decide +kernel
theorem dX8_hoursTo_57 : decode cX8_hoursTo 57 = .ok (.ireturn, 1) := by decide +kernel
theorem dX8_hoursTo_58 : decode cX8_hoursTo 58 = .ok (.aload_n 0, 1) := by decide +kernel
theorem dX8_hoursTo_59 : decode cX8_hoursTo 59 = .ok (.iload_n 1, 1) := by decide +kernel
theorem dX8_hoursTo_60 : decode cX8_hoursTo 60 = .ok (.fload 4, 2) := by decide +kernel
theorem dX8_hoursTo_62 : decode cX8_hoursTo 62 = .ok (.invokevirtual 154, 3) := by decide +kernel
theorem dX8_hoursTo_65 : decode cX8_hoursTo 65 = .ok (.fstore 4, 2) := by decide +kernel
theorem dX8_hoursTo_67 : decode cX8_hoursTo 67 = .ok (.iinc 5 1, 3) := by decide +kernel
theorem dX8_hoursTo_70 : decode cX8_hoursTo 70 = .ok (.goto (-30), 3) := by decide +kernel
theorem dX8_hoursTo_73 : decode cX8_hoursTo 73 = .ok (.bipush (-5), 2) := by decide +kernel
theorem dX8_hoursTo_75 : decode cX8_hoursTo 75 = .ok (.ireturn, 1) := by decide +kernel
theorem dX8_tasksAt_0 : decode cX8_tasksAt 0 = .ok (.iconst 0, 1) := by decide +kernel
theorem dX8_tasksAt_1 : decode cX8_tasksAt 1 = .ok (.istore 4, 2) := by decide +kernel
theorem dX8_tasksAt_3 : decode cX8_tasksAt 3 = .ok (.iconst 0, 1) := by decide +kernel
theorem dX8_tasksAt_4 : decode cX8_tasksAt 4 = .ok (.istore 5, 2) := by decide +kernel
theorem dX8_tasksAt_6 : decode cX8_tasksAt 6 = .ok (.iload 5, 2) := by decide +kernel
theorem dX8_tasksAt_8 : decode cX8_tasksAt 8 = .ok (.aload_n 0, 1) := by decide +kernel
theorem dX8_tasksAt_9 : decode cX8_tasksAt 9 = .ok (.getfield 7, 3) := by decide +kernel
theorem dX8_tasksAt_12 : decode cX8_tasksAt 12 = .ok (.iconst 3, 1) := by decide +kernel
theorem dX8_tasksAt_13 : decode cX8_tasksAt 13 = .ok (.iaload, 1) := by decide +kernel
theorem dX8_tasksAt_14 : decode cX8_tasksAt 14 = .ok (.if_icmp .ge 44, 3) := by decide +kernel
theorem dX8_tasksAt_17 : decode cX8_tasksAt 17 = .ok (.iload 4, 2) := by decide +kernel
theorem dX8_tasksAt_19 : decode cX8_tasksAt 19 = .ok (.aload_n 0, 1) := by decide +kernel
theorem dX8_tasksAt_20 : decode cX8_tasksAt 20 = .ok (.iload 5, 2) := by decide +kernel
theorem dX8_tasksAt_22 : decode cX8_tasksAt 22 = .ok (.iconst 0, 1) := by decide +kernel
theorem dX8_tasksAt_23 : decode cX8_tasksAt 23 = .ok (.invokevirtual 84, 3) := by decide +kernel
theorem dX8_tasksAt_26 : decode cX8_tasksAt 26 = .ok (.iload_n 1, 1) := by decide +kernel
theorem dX8_tasksAt_27 : decode cX8_tasksAt 27 = .ok (.if_icmp .ne 21, 3) := by decide +kernel
theorem dX8_tasksAt_30 : decode cX8_tasksAt 30 = .ok (.aload_n 0, 1) := by decide +kernel
theorem dX8_tasksAt_31 : decode cX8_tasksAt 31 = .ok (.iload 5, 2) := by decide +kernel
theorem dX8_tasksAt_33 : decode cX8_tasksAt 33 = .ok (.invokevirtual 87, 3) := by decide +kernel
theorem dX8_tasksAt_36 : decode cX8_tasksAt 36 = .ok (.iload_n 2, 1) := by decide +kernel
theorem dX8_tasksAt_37 : decode cX8_tasksAt 37 = .ok (.iload_n 3, 1) := by decide +kernel
theorem dX8_tasksAt_38 : decode cX8_tasksAt 38 = .ok (.invokestatic 32, 3) := by decide +kernel
theorem dX8_tasksAt_41 : decode cX8_tasksAt 41 = .ok (.ifCond .eq 7, 3) := by decide +kernel
theorem dX8_tasksAt_44 : decode cX8_tasksAt 44 = .ok (.iconst 1, 1) := by decide +kernel
theorem dX8_tasksAt_45 : decode cX8_tasksAt 45 = .ok (.goto 4, 3) := by decide +kernel
theorem dX8_tasksAt_48 : decode cX8_tasksAt 48 = .ok (.iconst 0, 1) := by decide +kernel
theorem dX8_tasksAt_49 : decode cX8_tasksAt 49 = .ok (.iadd, 1) := by decide +kernel
theorem dX8_tasksAt_50 : decode cX8_tasksAt 50 = .ok (.istore 4, 2) := by decide +kernel
theorem dX8_tasksAt_52 : decode cX8_tasksAt 52 = .ok (.iinc 5 1, 3) := by decide +kernel
theorem dX8_tasksAt_55 : decode cX8_tasksAt 55 = .ok (.goto (-49), 3) := by decide +kernel
theorem dX8_tasksAt_58 : decode cX8_tasksAt 58 = .ok (.iload 4, 2) := by decide +kernel
theorem dX8_tasksAt_60 : decode cX8_tasksAt 60 = .ok (.ireturn, 1) := by decide +kernel
theorem dX8_asset_0 : decode cX8_asset 0 = .ok (.aload_n 0, 1) := by decide +kernel
theorem dX8_asset_1 : decode cX8_asset 1 = .ok (.iload_n 1, 1) := by decide +kernel
theorem dX8_asset_2 : decode cX8_asset 2 = .ok (.invokevirtual 65, 3) := by decide +kernel
theorem dX8_asset_5 : decode cX8_asset 5 = .ok (.ifCond .ne 5, 3) := by decide +kernel
theorem dX8_asset_8 : decode cX8_asset 8 = .ok (.iconst (-1), 1) := by decide +kernel
theorem dX8_asset_9 : decode cX8_asset 9 = .ok (.ireturn, 1) := by decide +kernel
theorem dX8_asset_10 : decode cX8_asset 10 = .ok (.iload_n 2, 1) := by decide +kernel
theorem dX8_asset_11 : decode cX8_asset 11 = .ok (.tableswitch 107 0 7 #[45, 52, 59, 65, 72, 80, 88, 99], 45) := by decide +kernel
theorem dX8_asset_56 : decode cX8_asset 56 = .ok (.aload_n 0, 1) := by decide +kernel
theorem dX8_asset_57 : decode cX8_asset 57 = .ok (.iload_n 1, 1) := by decide +kernel
theorem dX8_asset_58 : decode cX8_asset 58 = .ok (.iconst 2, 1) := by decide +kernel
theorem dX8_asset_59 : decode cX8_asset 59 = .ok (.invokevirtual 69, 3) := by decide +kernel
theorem dX8_asset_62 : decode cX8_asset 62 = .ok (.ireturn, 1) := by decide +kernel
theorem dX8_asset_63 : decode cX8_asset 63 = .ok (.aload_n 0, 1) := by decide +kernel
theorem dX8_asset_64 : decode cX8_asset 64 = .ok (.iload_n 1, 1) := by decide +kernel
theorem dX8_asset_65 : decode cX8_asset 65 = .ok (.iconst 4, 1) := by decide +kernel
theorem dX8_asset_66 : decode cX8_asset 66 = .ok (.invokevirtual 69, 3) := by decide +kernel
theorem dX8_asset_69 : decode cX8_asset 69 = .ok (.ireturn, 1) := by decide +kernel
theorem dX8_asset_70 : decode cX8_asset 70 = .ok (.aload_n 0, 1) := by decide +kernel
theorem dX8_asset_71 : decode cX8_asset 71 = .ok (.iload_n 1, 1) := by decide +kernel
theorem dX8_asset_72 : decode cX8_asset 72 = .ok (.invokevirtual 143, 3) := by decide +kernel
theorem dX8_asset_75 : decode cX8_asset 75 = .ok (.ireturn, 1) := by decide +kernel
theorem dX8_asset_76 : decode cX8_asset 76 = .ok (.aload_n 0, 1) := by decide +kernel
theorem dX8_asset_77 : decode cX8_asset 77 = .ok (.iload_n 1, 1) := by decide +kernel
theorem dX8_asset_78 : decode cX8_asset 78 = .ok (.iconst 3, 1) := by decide +kernel
theorem dX8_asset_79 : decode cX8_asset 79 = .ok (.invokevirtual 69, 3) := by decide +kernel
theorem dX8_asset_82 : decode cX8_asset 82 = .ok (.ireturn, 1) := by decide +kernel
theorem dX8_asset_83 : decode cX8_asset 83 = .ok (.aload_n 0, 1) := by decide +kernel
theorem dX8_asset_84 : decode cX8_asset 84 = .ok (.iload_n 1, 1) := by decide +kernel
theorem dX8_asset_85 : decode cX8_asset 85 = .ok (.iconst 0, 1) := by decide +kernel
theorem dX8_asset_86 : decode cX8_asset 86 = .ok (.iconst 3, 1) := by decide +kernel
theorem dX8_asset_87 : decode cX8_asset 87 = .ok (.invokevirtual 216, 3) := by decide +kernel
theorem dX8_asset_90 : decode cX8_asset 90 = .ok (.ireturn, 1) := by decide +kernel
theorem dX8_asset_91 : decode cX8_asset 91 = .ok (.aload_n 0, 1) := by decide +kernel
theorem dX8_asset_92 : decode cX8_asset 92 = .ok (.iload_n 1, 1) := by decide +kernel
theorem dX8_asset_93 : decode cX8_asset 93 = .ok (.iconst 4, 1) := by decide +kernel
theorem dX8_asset_94 : decode cX8_asset 94 = .ok (.iconst 4, 1) := by decide +kernel
theorem dX8_asset_95 : decode cX8_asset 95 = .ok (.invokevirtual 216, 3) := by decide +kernel
theorem dX8_asset_98 : decode cX8_asset 98 = .ok (.ireturn, 1) := by decide +kernel
theorem dX8_asset_99 : decode cX8_asset 99 = .ok (.aload_n 0, 1) := by decide +kernel
theorem dX8_asset_100 : decode cX8_asset 100 = .ok (.getfield 13, 3) := by decide +kernel
theorem dX8_asset_103 : decode cX8_asset 103 = .ok (.iload_n 1, 1) := by decide +kernel
theorem dX8_asset_104 : decode cX8_asset 104 = .ok (.faload, 1) := by decide +kernel
theorem dX8_asset_105 : decode cX8_asset 105 = .ok (.ldc 152, 2) := by decide +kernel
theorem dX8_asset_107 : decode cX8_asset 107 = .ok (.fmul, 1) := by decide +kernel
theorem dX8_asset_108 : decode cX8_asset 108 = .ok (.f2i, 1) := by decide +kernel
theorem dX8_asset_109 : decode cX8_asset 109 = .ok (.ireturn, 1) := by decide +kernel
theorem dX8_asset_110 : decode cX8_asset 110 = .ok (.aload_n 0, 1) := by decide +kernel
theorem dX8_asset_111 : decode cX8_asset 111 = .ok (.getfield 17, 3) := by decide +kernel
theorem dX8_asset_114 : decode cX8_asset 114 = .ok (.iload_n 1, 1) := by decide +kernel
theorem dX8_asset_115 : decode cX8_asset 115 = .ok (.faload, 1) := by decide +kernel
theorem dX8_asset_116 : decode cX8_asset 116 = .ok (.f2i, 1) := by decide +kernel
theorem dX8_asset_117 : decode cX8_asset 117 = .ok (.ireturn, 1) := by decide +kernel
theorem dX8_asset_118 : decode cX8_asset 118 = .ok (.bipush (-2), 2) := by decide +kernel
theorem dX8_asset_120 : decode cX8_asset 120 = .ok (.ireturn, 1) := by decide +kernel
theorem dX8_tagAt_0 : decode cX8_tagAt 0 = .ok (.aload_n 0, 1) := by decide +kernel
theorem dX8_tagAt_1 : decode cX8_tagAt 1 = .ok (.iload_n 1, 1) := by decide +kernel
theorem dX8_tagAt_2 : decode cX8_tagAt 2 = .ok (.invokevirtual 65, 3) := by decide +kernel
theorem dX8_tagAt_5 : decode cX8_tagAt 5 = .ok (.ifCond .ne 5, 3) := by decide +kernel
theorem dX8_tagAt_8 : decode cX8_tagAt 8 = .ok (.iconst (-1), 1) := by decide +kernel
theorem dX8_tagAt_9 : decode cX8_tagAt 9 = .ok (.ireturn, 1) := by decide +kernel
theorem dX8_tagAt_10 : decode cX8_tagAt 10 = .ok (.iload_n 2, 1) := by decide +kernel
theorem dX8_tagAt_11 : decode cX8_tagAt 11 = .ok (.ifCond .ge 6, 3) := by decide +kernel
theorem dX8_tagAt_14 : decode cX8_tagAt 14 = .ok (.bipush (-2), 2) := by decide +kernel
theorem dX8_tagAt_16 : decode cX8_tagAt 16 = .ok (.ireturn, 1) := by decide +kernel
theorem dX8_tagAt_17 : decode cX8_tagAt 17 = .ok (.aload_n 0, 1) := by decide +kernel
theorem dX8_tagAt_18 : decode cX8_tagAt 18 = .ok (.iload_n 1, 1) := by decide +kernel
theorem dX8_tagAt_19 : decode cX8_tagAt 19 = .ok (.iconst 4, 1) := by decide +kernel
theorem dX8_tagAt_20 : decode cX8_tagAt 20 = .ok (.invokevirtual 69, 3) := by decide +kernel
theorem dX8_tagAt_23 : decode cX8_tagAt 23 = .ok (.istore_n 3, 1) := by decide +kernel
theorem dX8_tagAt_24 : decode cX8_tagAt 24 = .ok (.iload_n 2, 1) := by decide +kernel
theorem dX8_tagAt_25 : decode cX8_tagAt 25 = .ok (.iload_n 3, 1) := by decide +kernel
theorem dX8_tagAt_26 : decode cX8_tagAt 26 = .ok (.if_icmp .ge 24, 3) := by decide +kernel
theorem dX8_tagAt_29 : decode cX8_tagAt 29 = .ok (.aload_n 0, 1) := by decide +kernel
theorem dX8_tagAt_30 : decode cX8_tagAt 30 = .ok (.getfield 7, 3) := by decide +kernel
theorem dX8_tagAt_33 : decode cX8_tagAt 33 = .ok (.bipush 44, 2) := by decide +kernel
theorem dX8_tagAt_35 : decode cX8_tagAt 35 = .ok (.bipush 24, 2) := by decide +kernel
theorem dX8_tagAt_37 : decode cX8_tagAt 37 = .ok (.iload_n 1, 1) := by decide +kernel
theorem dX8_tagAt_38 : decode cX8_tagAt 38 = .ok (.imul, 1) := by decide +kernel
theorem dX8_tagAt_39 : decode cX8_tagAt 39 = .ok (.iadd, 1) := by decide +kernel
theorem dX8_tagAt_40 : decode cX8_tagAt 40 = .ok (.iload_n 3, 1) := by decide +kernel
theorem dX8_tagAt_41 : decode cX8_tagAt 41 = .ok (.iadd, 1) := by decide +kernel
theorem dX8_tagAt_42 : decode cX8_tagAt 42 = .ok (.iconst 1, 1) := by decide +kernel
theorem dX8_tagAt_43 : decode cX8_tagAt 43 = .ok (.isub, 1) := by decide +kernel
theorem dX8_tagAt_44 : decode cX8_tagAt 44 = .ok (.iload_n 2, 1) := by decide +kernel
theorem dX8_tagAt_45 : decode cX8_tagAt 45 = .ok (.isub, 1) := by decide +kernel
theorem dX8_tagAt_46 : decode cX8_tagAt 46 = .ok (.iaload, 1) := by decide +kernel
theorem dX8_tagAt_47 : decode cX8_tagAt 47 = .ok (.goto 5, 3) := by decide +kernel
theorem dX8_tagAt_50 : decode cX8_tagAt 50 = .ok (.bipush (-5), 2) := by decide +kernel
theorem dX8_tagAt_52 : decode cX8_tagAt 52 = .ok (.ireturn, 1) := by decide +kernel
theorem dX8_doneBy_0 : decode cX8_doneBy 0 = .ok (.iconst 0, 1) := by decide +kernel
theorem dX8_doneBy_1 : decode cX8_doneBy 1 = .ok (.istore_n 2, 1) := by decide +kernel
theorem dX8_doneBy_2 : decode cX8_doneBy 2 = .ok (.iconst 0, 1) := by decide +kernel
theorem dX8_doneBy_3 : decode cX8_doneBy 3 = .ok (.istore_n 3, 1) := by decide +kernel
theorem dX8_doneBy_4 : decode cX8_doneBy 4 = .ok (.iload_n 3, 1) := by decide +kernel
theorem dX8_doneBy_5 : decode cX8_doneBy 5 = .ok (.aload_n 0, 1) := by decide +kernel
theorem dX8_doneBy_6 : decode cX8_doneBy 6 = .ok (.getfield 7, 3) := by decide +kernel
theorem dX8_doneBy_9 : decode cX8_doneBy 9 = .ok (.iconst 3, 1) := by decide +kernel
theorem dX8_doneBy_10 : decode cX8_doneBy 10 = .ok (.iaload, 1) := by decide +kernel
theorem dX8_doneBy_11 : decode cX8_doneBy 11 = .ok (.if_icmp .ge 37, 3) := by decide +kernel
theorem dX8_doneBy_14 : decode cX8_doneBy 14 = .ok (.iload_n 2, 1) := by decide +kernel
theorem dX8_doneBy_15 : decode cX8_doneBy 15 = .ok (.aload_n 0, 1) := by decide +kernel
theorem dX8_doneBy_16 : decode cX8_doneBy 16 = .ok (.iload_n 3, 1) := by decide +kernel
theorem dX8_doneBy_17 : decode cX8_doneBy 17 = .ok (.invokevirtual 87, 3) := by decide +kernel
theorem dX8_doneBy_20 : decode cX8_doneBy 20 = .ok (.iconst 4, 1) := by decide +kernel
theorem dX8_doneBy_21 : decode cX8_doneBy 21 = .ok (.if_icmp .ne 18, 3) := by decide +kernel
theorem dX8_doneBy_24 : decode cX8_doneBy 24 = .ok (.aload_n 0, 1) := by decide +kernel
theorem dX8_doneBy_25 : decode cX8_doneBy 25 = .ok (.iload_n 3, 1) := by decide +kernel
theorem dX8_doneBy_26 : decode cX8_doneBy 26 = .ok (.bipush 7, 2) := by decide +kernel
theorem dX8_doneBy_28 : decode cX8_doneBy 28 = .ok (.invokevirtual 84, 3) := by decide +kernel
theorem dX8_doneBy_31 : decode cX8_doneBy 31 = .ok (.iload_n 1, 1) := by decide +kernel
theorem dX8_doneBy_32 : decode cX8_doneBy 32 = .ok (.if_icmp .ne 7, 3) := by decide +kernel
theorem dX8_doneBy_35 : decode cX8_doneBy 35 = .ok (.iconst 1, 1) := by decide +kernel
theorem dX8_doneBy_36 : decode cX8_doneBy 36 = .ok (.goto 4, 3) := by decide +kernel
theorem dX8_doneBy_39 : decode cX8_doneBy 39 = .ok (.iconst 0, 1) := by decide +kernel
theorem dX8_doneBy_40 : decode cX8_doneBy 40 = .ok (.iadd, 1) := by decide +kernel
theorem dX8_doneBy_41 : decode cX8_doneBy 41 = .ok (.istore_n 2, 1) := by decide +kernel
theorem dX8_doneBy_42 : decode cX8_doneBy 42 = .ok (.iinc 3 1, 3) := by decide +kernel
theorem dX8_doneBy_45 : decode cX8_doneBy 45 = .ok (.goto (-41), 3) := by decide +kernel
theorem dX8_doneBy_48 : decode cX8_doneBy 48 = .ok (.iload_n 2, 1) := by decide +kernel
theorem dX8_doneBy_49 : decode cX8_doneBy 49 = .ok (.ireturn, 1) := by decide +kernel
theorem dX8_crew_0 : decode cX8_crew 0 = .ok (.aload_n 0, 1) := by decide +kernel
theorem dX8_crew_1 : decode cX8_crew 1 = .ok (.iload_n 1, 1) := by decide +kernel
theorem dX8_crew_2 : decode cX8_crew 2 = .ok (.invokevirtual 122, 3) := by decide +kernel
theorem dX8_crew_5 : decode cX8_crew 5 = .ok (.ifCond .ne 5, 3) := by decide +kernel
theorem dX8_crew_8 : decode cX8_crew 8 = .ok (.iconst (-1), 1) := by decide +kernel
theorem dX8_crew_9 : decode cX8_crew 9 = .ok (.ireturn, 1) := by decide +kernel
theorem dX8_crew_10 : decode cX8_crew 10 = .ok (.iload_n 2, 1) := by decide +kernel
theorem dX8_crew_11 : decode cX8_crew 11 = .ok (.tableswitch 70 0 4 #[33, 33, 48, 48, 64], 33) := by decide +kernel
theorem dX8_crew_44 : decode cX8_crew 44 = .ok (.aload_n 0, 1) := by decide +kernel
theorem dX8_crew_45 : decode cX8_crew 45 = .ok (.getfield 7, 3) := by decide +kernel
theorem dX8_crew_48 : decode cX8_crew 48 = .ok (.sipush 236, 3) := by decide +kernel
theorem dX8_crew_51 : decode cX8_crew 51 = .ok (.iconst 2, 1) := by decide +kernel
theorem dX8_crew_52 : decode cX8_crew 52 = .ok (.iload_n 1, 1) := by decide +kernel
theorem dX8_crew_53 : decode cX8_crew 53 = .ok (.imul, 1) := by decide +kernel
theorem dX8_crew_54 : decode cX8_crew 54 = .ok (.iadd, 1) := by decide +kernel
theorem dX8_crew_55 : decode cX8_crew 55 = .ok (.iload_n 2, 1) := by decide +kernel
theorem dX8_crew_56 : decode cX8_crew 56 = .ok (.iadd, 1) := by decide +kernel
theorem dX8_crew_57 : decode cX8_crew 57 = .ok (.iaload, 1) := by decide +kernel
theorem dX8_crew_58 : decode cX8_crew 58 = .ok (.ireturn, 1) := by decide +kernel
theorem dX8_crew_59 : decode cX8_crew 59 = .ok (.aload_n 0, 1) := by decide +kernel
theorem dX8_crew_60 : decode cX8_crew 60 = .ok (.iload_n 1, 1) := by decide +kernel
theorem dX8_crew_61 : decode cX8_crew 61 = .ok (.iload_n 2, 1) := by decide +kernel
theorem dX8_crew_62 : decode cX8_crew 62 = .ok (.iconst 2, 1) := by decide +kernel
theorem dX8_crew_63 : decode cX8_crew 63 = .ok (.if_icmp .ne 7, 3) := by decide +kernel
theorem dX8_crew_66 : decode cX8_crew 66 = .ok (.iconst 1, 1) := by decide +kernel
theorem dX8_crew_67 : decode cX8_crew 67 = .ok (.goto 4, 3) := by decide +kernel
theorem dX8_crew_70 : decode cX8_crew 70 = .ok (.iconst 0, 1) := by decide +kernel
theorem dX8_crew_71 : decode cX8_crew 71 = .ok (.invokevirtual 93, 3) := by decide +kernel
theorem dX8_crew_74 : decode cX8_crew 74 = .ok (.ireturn, 1) := by decide +kernel
theorem dX8_crew_75 : decode cX8_crew 75 = .ok (.aload_n 0, 1) := by decide +kernel
theorem dX8_crew_76 : decode cX8_crew 76 = .ok (.iload_n 1, 1) := by decide +kernel
theorem dX8_crew_77 : decode cX8_crew 77 = .ok (.invokevirtual 220, 3) := by decide +kernel
theorem dX8_crew_80 : decode cX8_crew 80 = .ok (.ireturn, 1) := by decide +kernel
theorem dX8_crew_81 : decode cX8_crew 81 = .ok (.bipush (-2), 2) := by decide +kernel
theorem dX8_crew_83 : decode cX8_crew 83 = .ok (.ireturn, 1) := by decide +kernel
theorem dX8_task_0 : decode cX8_task 0 = .ok (.aload_n 0, 1) := by decide +kernel
theorem dX8_task_1 : decode cX8_task 1 = .ok (.iload_n 1, 1) := by decide +kernel
theorem dX8_task_2 : decode cX8_task 2 = .ok (.invokevirtual 119, 3) := by decide +kernel
theorem dX8_task_5 : decode cX8_task 5 = .ok (.ifCond .ne 5, 3) := by decide +kernel
theorem dX8_task_8 : decode cX8_task 8 = .ok (.iconst (-1), 1) := by decide +kernel
theorem dX8_task_9 : decode cX8_task 9 = .ok (.ireturn, 1) := by decide +kernel
theorem dX8_task_10 : decode cX8_task 10 = .ok (.iload_n 2, 1) := by decide +kernel
theorem dX8_task_11 : decode cX8_task 11 = .ok (.tableswitch 157 0 12 #[65, 72, 78, 78, 78, 78, 78, 87, 93, 101, 123, 131, 137], 65) := by decide +kernel
theorem dX8_task_76 : decode cX8_task 76 = .ok (.aload_n 0, 1) := by decide +kernel
theorem dX8_task_77 : decode cX8_task 77 = .ok (.iload_n 1, 1) := by decide +kernel
theorem dX8_task_78 : decode cX8_task 78 = .ok (.iconst 0, 1) := by decide +kernel
theorem dX8_task_79 : decode cX8_task 79 = .ok (.invokevirtual 84, 3) := by decide +kernel
theorem dX8_task_82 : decode cX8_task 82 = .ok (.ireturn, 1) := by decide +kernel
theorem dX8_task_83 : decode cX8_task 83 = .ok (.aload_n 0, 1) := by decide +kernel
theorem dX8_task_84 : decode cX8_task 84 = .ok (.iload_n 1, 1) := by decide +kernel
theorem dX8_task_85 : decode cX8_task 85 = .ok (.invokevirtual 87, 3) := by decide +kernel
theorem dX8_task_88 : decode cX8_task 88 = .ok (.ireturn, 1) := by decide +kernel
theorem dX8_task_89 : decode cX8_task 89 = .ok (.aload_n 0, 1) := by decide +kernel
theorem dX8_task_90 : decode cX8_task 90 = .ok (.iload_n 1, 1) := by decide +kernel
theorem dX8_task_91 : decode cX8_task 91 = .ok (.iload_n 2, 1) := by decide +kernel
theorem dX8_task_92 : decode cX8_task 92 = .ok (.iconst 1, 1) := by decide +kernel
theorem dX8_task_93 : decode cX8_task 93 = .ok (.isub, 1) := by decide +kernel
theorem dX8_task_94 : decode cX8_task 94 = .ok (.invokevirtual 84, 3) := by decide +kernel
theorem dX8_task_97 : decode cX8_task 97 = .ok (.ireturn, 1) := by decide +kernel
theorem dX8_task_98 : decode cX8_task 98 = .ok (.aload_n 0, 1) := by decide +kernel
theorem dX8_task_99 : decode cX8_task 99 = .ok (.iload_n 1, 1) := by decide +kernel
theorem dX8_task_100 : decode cX8_task 100 = .ok (.invokevirtual 97, 3) := by decide +kernel
theorem dX8_task_103 : decode cX8_task 103 = .ok (.ireturn, 1) := by decide +kernel
theorem dX8_task_104 : decode cX8_task 104 = .ok (.aload_n 0, 1) := by decide +kernel
theorem dX8_task_105 : decode cX8_task 105 = .ok (.iload_n 1, 1) := by decide +kernel
theorem dX8_task_106 : decode cX8_task 106 = .ok (.bipush 7, 2) := by decide +kernel
theorem dX8_task_108 : decode cX8_task 108 = .ok (.invokevirtual 84, 3) := by decide +kernel
theorem dX8_task_111 : decode cX8_task 111 = .ok (.ireturn, 1) := by decide +kernel
theorem dX8_task_112 : decode cX8_task 112 = .ok (.aload_n 0, 1) := by decide +kernel
theorem dX8_task_113 : decode cX8_task 113 = .ok (.iload_n 1, 1) := by decide +kernel
theorem dX8_task_114 : decode cX8_task 114 = .ok (.invokevirtual 87, 3) := by decide +kernel
theorem dX8_task_117 : decode cX8_task 117 = .ok (.iconst 2, 1) := by decide +kernel
theorem dX8_task_118 : decode cX8_task 118 = .ok (.if_icmp .ne 13, 3) := by decide +kernel
theorem dX8_task_121 : decode cX8_task 121 = .ok (.aload_n 0, 1) := by decide +kernel
theorem dX8_task_122 : decode cX8_task 122 = .ok (.iload_n 1, 1) := by decide +kernel
theorem dX8_task_123 : decode cX8_task 123 = .ok (.bipush 8, 2) := by decide +kernel
theorem dX8_task_125 : decode cX8_task 125 = .ok (.invokevirtual 84, 3) := by decide +kernel
theorem dX8_task_128 : decode cX8_task 128 = .ok (.goto 5, 3) := by decide +kernel
theorem dX8_task_131 : decode cX8_task 131 = .ok (.bipush (-5), 2) := by decide +kernel
theorem dX8_task_133 : decode cX8_task 133 = .ok (.ireturn, 1) := by decide +kernel
theorem dX8_task_134 : decode cX8_task 134 = .ok (.aload_n 0, 1) := by decide +kernel
theorem dX8_task_135 : decode cX8_task 135 = .ok (.iload_n 1, 1) := by decide +kernel
theorem dX8_task_136 : decode cX8_task 136 = .ok (.bipush 9, 2) := by decide +kernel
theorem dX8_task_138 : decode cX8_task 138 = .ok (.invokevirtual 84, 3) := by decide +kernel
theorem dX8_task_141 : decode cX8_task 141 = .ok (.ireturn, 1) := by decide +kernel
theorem dX8_task_142 : decode cX8_task 142 = .ok (.aload_n 0, 1) := by decide +kernel
theorem dX8_task_143 : decode cX8_task 143 = .ok (.iload_n 1, 1) := by decide +kernel
theorem dX8_task_144 : decode cX8_task 144 = .ok (.invokevirtual 134, 3) := by decide +kernel
theorem dX8_task_147 : decode cX8_task 147 = .ok (.ireturn, 1) := by decide +kernel
theorem dX8_task_148 : decode cX8_task 148 = .ok (.aload_n 0, 1) := by decide +kernel
theorem dX8_task_149 : decode cX8_task 149 = .ok (.iload_n 1, 1) := by decide +kernel
theorem dX8_task_150 : decode cX8_task 150 = .ok (.invokevirtual 87, 3) := by decide +kernel
theorem dX8_task_153 : decode cX8_task 153 = .ok (.iconst 2, 1) := by decide +kernel
theorem dX8_task_154 : decode cX8_task 154 = .ok (.if_icmp .ne 8, 3) := by decide +kernel
theorem dX8_task_157 : decode cX8_task 157 = .ok (.bipush (-5), 2) := by decide +kernel
theorem dX8_task_159 : decode cX8_task 159 = .ok (.goto 8, 3) := by decide +kernel
theorem dX8_task_162 : decode cX8_task 162 = .ok (.aload_n 0, 1) := by decide +kernel
theorem dX8_task_163 : decode cX8_task 163 = .ok (.iload_n 1, 1) := by decide +kernel
theorem dX8_task_164 : decode cX8_task 164 = .ok (.invokevirtual 103, 3) := by decide +kernel
theorem dX8_task_167 : decode cX8_task 167 = .ok (.ireturn, 1) := by decide +kernel
theorem dX8_task_168 : decode cX8_task 168 = .ok (.bipush (-2), 2) := by decide +kernel
theorem dX8_task_170 : decode cX8_task 170 = .ok (.ireturn, 1) := by decide +kernel
theorem dX8_crewFor_0 : decode cX8_crewFor 0 = .ok (.aload_n 0, 1) := by decide +kernel
theorem dX8_crewFor_1 : decode cX8_crewFor 1 = .ok (.iload_n 1, 1) := by decide +kernel
theorem dX8_crewFor_2 : decode cX8_crewFor 2 = .ok (.invokevirtual 119, 3) := by decide +kernel
theorem dX8_crewFor_5 : decode cX8_crewFor 5 = .ok (.ifCond .ne 5, 3) := by decide +kernel
theorem dX8_crewFor_8 : decode cX8_crewFor 8 = .ok (.iconst (-1), 1) := by decide +kernel
theorem dX8_crewFor_9 : decode cX8_crewFor 9 = .ok (.ireturn, 1) := by decide +kernel
theorem dX8_crewFor_10 : decode cX8_crewFor 10 = .ok (.iconst 0, 1) := by decide +kernel
theorem dX8_crewFor_11 : decode cX8_crewFor 11 = .ok (.istore_n 2, 1) := by decide +kernel
theorem dX8_crewFor_12 : decode cX8_crewFor 12 = .ok (.iload_n 2, 1) := by decide +kernel
theorem dX8_crewFor_13 : decode cX8_crewFor 13 = .ok (.aload_n 0, 1) := by decide +kernel
theorem dX8_crewFor_14 : decode cX8_crewFor 14 = .ok (.getfield 7, 3) := by decide +kernel
theorem dX8_crewFor_17 : decode cX8_crewFor 17 = .ok (.iconst 2, 1) := by decide +kernel
theorem dX8_crewFor_18 : decode cX8_crewFor 18 = .ok (.iaload, 1) := by decide +kernel
theorem dX8_crewFor_19 : decode cX8_crewFor 19 = .ok (.if_icmp .ge 28, 3) := by decide +kernel
theorem dX8_crewFor_22 : decode cX8_crewFor 22 = .ok (.aload_n 0, 1) := by decide +kernel
theorem dX8_crewFor_23 : decode cX8_crewFor 23 = .ok (.iload_n 1, 1) := by decide +kernel
theorem dX8_crewFor_24 : decode cX8_crewFor 24 = .ok (.invokevirtual 87, 3) := by decide +kernel
theorem dX8_crewFor_27 : decode cX8_crewFor 27 = .ok (.ifCond .ne 20, 3) := by decide +kernel
theorem dX8_crewFor_30 : decode cX8_crewFor 30 = .ok (.aload_n 0, 1) := by decide +kernel
theorem dX8_crewFor_31 : decode cX8_crewFor 31 = .ok (.iload_n 1, 1) := by decide +kernel
theorem dX8_crewFor_32 : decode cX8_crewFor 32 = .ok (.iload_n 2, 1) := by decide +kernel
theorem dX8_crewFor_33 : decode cX8_crewFor 33 = .ok (.invokevirtual 125, 3) := by decide +kernel
theorem dX8_crewFor_36 : decode cX8_crewFor 36 = .ok (.ifCond .eq 5, 3) := by decide +kernel
theorem dX8_crewFor_39 : decode cX8_crewFor 39 = .ok (.iload_n 2, 1) := by decide +kernel
theorem dX8_crewFor_40 : decode cX8_crewFor 40 = .ok (.ireturn, 1) := by decide +kernel
theorem dX8_crewFor_41 : decode cX8_crewFor 41 = .ok (.iinc 2 1, 3) := by decide +kernel
theorem dX8_crewFor_44 : decode cX8_crewFor 44 = .ok (.goto (-32), 3) := by decide +kernel
theorem dX8_crewFor_47 : decode cX8_crewFor 47 = .ok (.bipush (-5), 2) := by decide +kernel
theorem dX8_crewFor_49 : decode cX8_crewFor 49 = .ok (.ireturn, 1) := by decide +kernel
theorem dX8_inState_0 : decode cX8_inState 0 = .ok (.iconst 0, 1) := by decide +kernel
theorem dX8_inState_1 : decode cX8_inState 1 = .ok (.istore_n 2, 1) := by decide +kernel
theorem dX8_inState_2 : decode cX8_inState 2 = .ok (.iconst 0, 1) := by decide +kernel
theorem dX8_inState_3 : decode cX8_inState 3 = .ok (.istore_n 3, 1) := by decide +kernel
theorem dX8_inState_4 : decode cX8_inState 4 = .ok (.iload_n 3, 1) := by decide +kernel
theorem dX8_inState_5 : decode cX8_inState 5 = .ok (.aload_n 0, 1) := by decide +kernel
theorem dX8_inState_6 : decode cX8_inState 6 = .ok (.getfield 7, 3) := by decide +kernel
theorem dX8_inState_9 : decode cX8_inState 9 = .ok (.iconst 3, 1) := by decide +kernel
theorem dX8_inState_10 : decode cX8_inState 10 = .ok (.iaload, 1) := by decide +kernel
theorem dX8_inState_11 : decode cX8_inState 11 = .ok (.if_icmp .ge 26, 3) := by decide +kernel
theorem dX8_inState_14 : decode cX8_inState 14 = .ok (.iload_n 2, 1) := by decide +kernel
theorem dX8_inState_15 : decode cX8_inState 15 = .ok (.aload_n 0, 1) := by decide +kernel
theorem dX8_inState_16 : decode cX8_inState 16 = .ok (.iload_n 3, 1) := by decide +kernel
theorem dX8_inState_17 : decode cX8_inState 17 = .ok (.invokevirtual 87, 3) := by decide +kernel
theorem dX8_inState_20 : decode cX8_inState 20 = .ok (.iload_n 1, 1) := by decide +kernel
theorem dX8_inState_21 : decode cX8_inState 21 = .ok (.if_icmp .ne 7, 3) := by decide +kernel
theorem dX8_inState_24 : decode cX8_inState 24 = .ok (.iconst 1, 1) := by decide +kernel
theorem dX8_inState_25 : decode cX8_inState 25 = .ok (.goto 4, 3) := by decide +kernel
theorem dX8_inState_28 : decode cX8_inState 28 = .ok (.iconst 0, 1) := by decide +kernel
theorem dX8_inState_29 : decode cX8_inState 29 = .ok (.iadd, 1) := by decide +kernel
theorem dX8_inState_30 : decode cX8_inState 30 = .ok (.istore_n 2, 1) := by decide +kernel
theorem dX8_inState_31 : decode cX8_inState 31 = .ok (.iinc 3 1, 3) := by decide +kernel
theorem dX8_inState_34 : decode cX8_inState 34 = .ok (.goto (-30), 3) := by decide +kernel
theorem dX8_inState_37 : decode cX8_inState 37 = .ok (.iload_n 2, 1) := by decide +kernel
theorem dX8_inState_38 : decode cX8_inState 38 = .ok (.ireturn, 1) := by decide +kernel
theorem dX8_tags_0 : decode cX8_tags 0 = .ok (.iconst 0, 1) := by decide +kernel
theorem dX8_tags_1 : decode cX8_tags 1 = .ok (.istore_n 1, 1) := by decide +kernel
theorem dX8_tags_2 : decode cX8_tags 2 = .ok (.iconst 0, 1) := by decide +kernel
theorem dX8_tags_3 : decode cX8_tags 3 = .ok (.istore_n 2, 1) := by decide +kernel
theorem dX8_tags_4 : decode cX8_tags 4 = .ok (.iload_n 2, 1) := by decide +kernel
theorem dX8_tags_5 : decode cX8_tags 5 = .ok (.aload_n 0, 1) := by decide +kernel
theorem dX8_tags_6 : decode cX8_tags 6 = .ok (.getfield 7, 3) := by decide +kernel
theorem dX8_tags_9 : decode cX8_tags 9 = .ok (.iconst 1, 1) := by decide +kernel
theorem dX8_tags_10 : decode cX8_tags 10 = .ok (.iaload, 1) := by decide +kernel
theorem dX8_tags_11 : decode cX8_tags 11 = .ok (.if_icmp .ge 18, 3) := by decide +kernel
theorem dX8_tags_14 : decode cX8_tags 14 = .ok (.iload_n 1, 1) := by decide +kernel
theorem dX8_tags_15 : decode cX8_tags 15 = .ok (.aload_n 0, 1) := by decide +kernel
theorem dX8_tags_16 : decode cX8_tags 16 = .ok (.iload_n 2, 1) := by decide +kernel
theorem dX8_tags_17 : decode cX8_tags 17 = .ok (.iconst 4, 1) := by decide +kernel
theorem dX8_tags_18 : decode cX8_tags 18 = .ok (.invokevirtual 69, 3) := by decide +kernel
theorem dX8_tags_21 : decode cX8_tags 21 = .ok (.iadd, 1) := by decide +kernel
theorem dX8_tags_22 : decode cX8_tags 22 = .ok (.istore_n 1, 1) := by decide +kernel
theorem dX8_tags_23 : decode cX8_tags 23 = .ok (.iinc 2 1, 3) := by decide +kernel
theorem dX8_tags_26 : decode cX8_tags 26 = .ok (.goto (-22), 3) := by decide +kernel
theorem dX8_tags_29 : decode cX8_tags 29 = .ok (.iload_n 1, 1) := by decide +kernel
theorem dX8_tags_30 : decode cX8_tags 30 = .ok (.ireturn, 1) := by decide +kernel
theorem dX8_allSlips_0 : decode cX8_allSlips 0 = .ok (.iconst 0, 1) := by decide +kernel
theorem dX8_allSlips_1 : decode cX8_allSlips 1 = .ok (.istore_n 1, 1) := by decide +kernel
theorem dX8_allSlips_2 : decode cX8_allSlips 2 = .ok (.iconst 0, 1) := by decide +kernel
theorem dX8_allSlips_3 : decode cX8_allSlips 3 = .ok (.istore_n 2, 1) := by decide +kernel
theorem dX8_allSlips_4 : decode cX8_allSlips 4 = .ok (.iload_n 2, 1) := by decide +kernel
theorem dX8_allSlips_5 : decode cX8_allSlips 5 = .ok (.aload_n 0, 1) := by decide +kernel
theorem dX8_allSlips_6 : decode cX8_allSlips 6 = .ok (.getfield 7, 3) := by decide +kernel
theorem dX8_allSlips_9 : decode cX8_allSlips 9 = .ok (.iconst 3, 1) := by decide +kernel
theorem dX8_allSlips_10 : decode cX8_allSlips 10 = .ok (.iaload, 1) := by decide +kernel
theorem dX8_allSlips_11 : decode cX8_allSlips 11 = .ok (.if_icmp .ge 19, 3) := by decide +kernel
theorem dX8_allSlips_14 : decode cX8_allSlips 14 = .ok (.iload_n 1, 1) := by decide +kernel
theorem dX8_allSlips_15 : decode cX8_allSlips 15 = .ok (.aload_n 0, 1) := by decide +kernel
theorem dX8_allSlips_16 : decode cX8_allSlips 16 = .ok (.iload_n 2, 1) := by decide +kernel
theorem dX8_allSlips_17 : decode cX8_allSlips 17 = .ok (.bipush 9, 2) := by decide +kernel
theorem dX8_allSlips_19 : decode cX8_allSlips 19 = .ok (.invokevirtual 84, 3) := by decide +kernel
theorem dX8_allSlips_22 : decode cX8_allSlips 22 = .ok (.iadd, 1) := by decide +kernel
theorem dX8_allSlips_23 : decode cX8_allSlips 23 = .ok (.istore_n 1, 1) := by decide +kernel
theorem dX8_allSlips_24 : decode cX8_allSlips 24 = .ok (.iinc 2 1, 3) := by decide +kernel
theorem dX8_allSlips_27 : decode cX8_allSlips 27 = .ok (.goto (-23), 3) := by decide +kernel
theorem dX8_allSlips_30 : decode cX8_allSlips 30 = .ok (.iload_n 1, 1) := by decide +kernel
theorem dX8_allSlips_31 : decode cX8_allSlips 31 = .ok (.ireturn, 1) := by decide +kernel
theorem dX8_allBusy_0 : decode cX8_allBusy 0 = .ok (.iconst 0, 1) := by decide +kernel
theorem dX8_allBusy_1 : decode cX8_allBusy 1 = .ok (.istore_n 1, 1) := by decide +kernel
theorem dX8_allBusy_2 : decode cX8_allBusy 2 = .ok (.iconst 0, 1) := by decide +kernel
theorem dX8_allBusy_3 : decode cX8_allBusy 3 = .ok (.istore_n 2, 1) := by decide +kernel
theorem dX8_allBusy_4 : decode cX8_allBusy 4 = .ok (.iload_n 2, 1) := by decide +kernel
theorem dX8_allBusy_5 : decode cX8_allBusy 5 = .ok (.aload_n 0, 1) := by decide +kernel
theorem dX8_allBusy_6 : decode cX8_allBusy 6 = .ok (.getfield 7, 3) := by decide +kernel
theorem dX8_allBusy_9 : decode cX8_allBusy 9 = .ok (.iconst 2, 1) := by decide +kernel
theorem dX8_allBusy_10 : decode cX8_allBusy 10 = .ok (.iaload, 1) := by decide +kernel
theorem dX8_allBusy_11 : decode cX8_allBusy 11 = .ok (.if_icmp .ge 18, 3) := by decide +kernel
theorem dX8_allBusy_14 : decode cX8_allBusy 14 = .ok (.iload_n 1, 1) := by decide +kernel
theorem dX8_allBusy_15 : decode cX8_allBusy 15 = .ok (.aload_n 0, 1) := by decide +kernel
theorem dX8_allBusy_16 : decode cX8_allBusy 16 = .ok (.iload_n 2, 1) := by decide +kernel
theorem dX8_allBusy_17 : decode cX8_allBusy 17 = .ok (.iconst 1, 1) := by decide +kernel
theorem dX8_allBusy_18 : decode cX8_allBusy 18 = .ok (.invokevirtual 93, 3) := by decide +kernel
theorem dX8_allBusy_21 : decode cX8_allBusy 21 = .ok (.iadd, 1) := by decide +kernel
theorem dX8_allBusy_22 : decode cX8_allBusy 22 = .ok (.istore_n 1, 1) := by decide +kernel
theorem dX8_allBusy_23 : decode cX8_allBusy 23 = .ok (.iinc 2 1, 3) := by decide +kernel
theorem dX8_allBusy_26 : decode cX8_allBusy 26 = .ok (.goto (-22), 3) := by decide +kernel
theorem dX8_allBusy_29 : decode cX8_allBusy 29 = .ok (.iload_n 1, 1) := by decide +kernel
theorem dX8_allBusy_30 : decode cX8_allBusy 30 = .ok (.ireturn, 1) := by decide +kernel
theorem dX8_count_0 : decode cX8_count 0 = .ok (.iload_n 1, 1) := by decide +kernel
theorem dX8_count_1 : decode cX8_count 1 = .ok (.iconst 5, 1) := by decide +kernel
theorem dX8_count_2 : decode cX8_count 2 = .ok (.bipush 11, 2) := by decide +kernel
theorem dX8_count_4 : decode cX8_count 4 = .ok (.invokestatic 32, 3) := by decide +kernel
theorem dX8_count_7 : decode cX8_count 7 = .ok (.ifCond .eq 11, 3) := by decide +kernel
theorem dX8_count_10 : decode cX8_count 10 = .ok (.aload_n 0, 1) := by decide +kernel
theorem dX8_count_11 : decode cX8_count 11 = .ok (.iload_n 1, 1) := by decide +kernel
theorem dX8_count_12 : decode cX8_count 12 = .ok (.iconst 5, 1) := by decide +kernel
theorem dX8_count_13 : decode cX8_count 13 = .ok (.isub, 1) := by decide +kernel
theorem dX8_count_14 : decode cX8_count 14 = .ok (.invokevirtual 223, 3) := by decide +kernel
theorem dX8_count_17 : decode cX8_count 17 = .ok (.ireturn, 1) := by decide +kernel
theorem dX8_count_18 : decode cX8_count 18 = .ok (.iload_n 1, 1) := by decide +kernel
theorem dX8_count_19 : decode cX8_count 19 = .ok (.tableswitch 127 0 16 #[81, 81, 88, 93, 93, 127, 127, 127, 127, 127, 127, 127, 102, 107, 112, 117, 122], 81) := by decide +kernel
theorem dX8_count_100 : decode cX8_count 100 = .ok (.aload_n 0, 1) := by decide +kernel
theorem dX8_count_101 : decode cX8_count 101 = .ok (.getfield 7, 3) := by decide +kernel
theorem dX8_count_104 : decode cX8_count 104 = .ok (.iload_n 1, 1) := by decide +kernel
theorem dX8_count_105 : decode cX8_count 105 = .ok (.iaload, 1) := by decide +kernel
theorem dX8_count_106 : decode cX8_count 106 = .ok (.ireturn, 1) := by decide +kernel
theorem dX8_count_107 : decode cX8_count 107 = .ok (.aload_n 0, 1) := by decide +kernel
theorem dX8_count_108 : decode cX8_count 108 = .ok (.invokevirtual 106, 3) := by decide +kernel
theorem dX8_count_111 : decode cX8_count 111 = .ok (.ireturn, 1) := by decide +kernel
theorem dX8_count_112 : decode cX8_count 112 = .ok (.aload_n 0, 1) := by decide +kernel
theorem dX8_count_113 : decode cX8_count 113 = .ok (.getfield 7, 3) := by decide +kernel
theorem dX8_count_116 : decode cX8_count 116 = .ok (.iload_n 1, 1) := by decide +kernel
theorem dX8_count_117 : decode cX8_count 117 = .ok (.iconst 1, 1) := by decide +kernel
theorem dX8_count_118 : decode cX8_count 118 = .ok (.isub, 1) := by decide +kernel
theorem dX8_count_119 : decode cX8_count 119 = .ok (.iaload, 1) := by decide +kernel
theorem dX8_count_120 : decode cX8_count 120 = .ok (.ireturn, 1) := by decide +kernel
theorem dX8_count_121 : decode cX8_count 121 = .ok (.aload_n 0, 1) := by decide +kernel
theorem dX8_count_122 : decode cX8_count 122 = .ok (.invokevirtual 226, 3) := by decide +kernel
theorem dX8_count_125 : decode cX8_count 125 = .ok (.ireturn, 1) := by decide +kernel
theorem dX8_count_126 : decode cX8_count 126 = .ok (.aload_n 0, 1) := by decide +kernel
theorem dX8_count_127 : decode cX8_count 127 = .ok (.invokevirtual 229, 3) := by decide +kernel
theorem dX8_count_130 : decode cX8_count 130 = .ok (.ireturn, 1) := by decide +kernel
theorem dX8_count_131 : decode cX8_count 131 = .ok (.aload_n 0, 1) := by decide +kernel
theorem dX8_count_132 : decode cX8_count 132 = .ok (.invokevirtual 232, 3) := by decide +kernel
theorem dX8_count_135 : decode cX8_count 135 = .ok (.ireturn, 1) := by decide +kernel
theorem dX8_count_136 : decode cX8_count 136 = .ok (.aload_n 0, 1) := by decide +kernel
theorem dX8_count_137 : decode cX8_count 137 = .ok (.getfield 36, 3) := by decide +kernel
theorem dX8_count_140 : decode cX8_count 140 = .ok (.ireturn, 1) := by decide +kernel
theorem dX8_count_141 : decode cX8_count 141 = .ok (.aload_n 0, 1) := by decide +kernel
theorem dX8_count_142 : decode cX8_count 142 = .ok (.getfield 174, 3) := by decide +kernel
theorem dX8_count_145 : decode cX8_count 145 = .ok (.ireturn, 1) := by decide +kernel
theorem dX8_count_146 : decode cX8_count 146 = .ok (.bipush (-2), 2) := by decide +kernel
theorem dX8_count_148 : decode cX8_count 148 = .ok (.ireturn, 1) := by decide +kernel
theorem dJ6_bitCount_0f7a4_0 : decode cJ6_bitCount_0f7a4 0 = .ok (.iload_n 0, 1) := by decide +kernel
theorem dJ6_bitCount_0f7a4_1 : decode cJ6_bitCount_0f7a4 1 = .ok (.iload_n 0, 1) := by decide +kernel
theorem dJ6_bitCount_0f7a4_2 : decode cJ6_bitCount_0f7a4 2 = .ok (.iconst 1, 1) := by decide +kernel
theorem dJ6_bitCount_0f7a4_3 : decode cJ6_bitCount_0f7a4 3 = .ok (.iushr, 1) := by decide +kernel
theorem dJ6_bitCount_0f7a4_4 : decode cJ6_bitCount_0f7a4 4 = .ok (.ldc_w 265, 3) := by decide +kernel
theorem dJ6_bitCount_0f7a4_7 : decode cJ6_bitCount_0f7a4 7 = .ok (.iand, 1) := by decide +kernel
theorem dJ6_bitCount_0f7a4_8 : decode cJ6_bitCount_0f7a4 8 = .ok (.isub, 1) := by decide +kernel
theorem dJ6_bitCount_0f7a4_9 : decode cJ6_bitCount_0f7a4 9 = .ok (.istore_n 0, 1) := by decide +kernel
theorem dJ6_bitCount_0f7a4_10 : decode cJ6_bitCount_0f7a4 10 = .ok (.iload_n 0, 1) := by decide +kernel
theorem dJ6_bitCount_0f7a4_11 : decode cJ6_bitCount_0f7a4 11 = .ok (.ldc_w 266, 3) := by decide +kernel
theorem dJ6_bitCount_0f7a4_14 : decode cJ6_bitCount_0f7a4 14 = .ok (.iand, 1) := by decide +kernel
theorem dJ6_bitCount_0f7a4_15 : decode cJ6_bitCount_0f7a4 15 = .ok (.iload_n 0, 1) := by decide +kernel
theorem dJ6_bitCount_0f7a4_16 : decode cJ6_bitCount_0f7a4 16 = .ok (.iconst 2, 1) := by decide +kernel
theorem dJ6_bitCount_0f7a4_17 : decode cJ6_bitCount_0f7a4 17 = .ok (.iushr, 1) := by decide +kernel
theorem dJ6_bitCount_0f7a4_18 : decode cJ6_bitCount_0f7a4 18 = .ok (.ldc_w 266, 3) := by decide +kernel
theorem dJ6_bitCount_0f7a4_21 : decode cJ6_bitCount_0f7a4 21 = .ok (.iand, 1) := by decide +kernel
theorem dJ6_bitCount_0f7a4_22 : decode cJ6_bitCount_0f7a4 22 = .ok (.iadd, 1) := by decide +kernel
theorem dJ6_bitCount_0f7a4_23 : decode cJ6_bitCount_0f7a4 23 = .ok (.istore_n 0, 1) := by decide +kernel
theorem dJ6_bitCount_0f7a4_24 : decode cJ6_bitCount_0f7a4 24 = .ok (.iload_n 0, 1) := by decide +kernel
theorem dJ6_bitCount_0f7a4_25 : decode cJ6_bitCount_0f7a4 25 = .ok (.iload_n 0, 1) := by decide +kernel
theorem dJ6_bitCount_0f7a4_26 : decode cJ6_bitCount_0f7a4 26 = .ok (.iconst 4, 1) := by decide +kernel
theorem dJ6_bitCount_0f7a4_27 : decode cJ6_bitCount_0f7a4 27 = .ok (.iushr, 1) := by decide +kernel
theorem dJ6_bitCount_0f7a4_28 : decode cJ6_bitCount_0f7a4 28 = .ok (.iadd, 1) := by decide +kernel
theorem dJ6_bitCount_0f7a4_29 : decode cJ6_bitCount_0f7a4 29 = .ok (.ldc_w 267, 3) := by decide +kernel
theorem dJ6_bitCount_0f7a4_32 : decode cJ6_bitCount_0f7a4 32 = .ok (.iand, 1) := by decide +kernel
theorem dJ6_bitCount_0f7a4_33 : decode cJ6_bitCount_0f7a4 33 = .ok (.istore_n 0, 1) := by decide +kernel
theorem dJ6_bitCount_0f7a4_34 : decode cJ6_bitCount_0f7a4 34 = .ok (.iload_n 0, 1) := by decide +kernel
theorem dJ6_bitCount_0f7a4_35 : decode cJ6_bitCount_0f7a4 35 = .ok (.iload_n 0, 1) := by decide +kernel
theorem dJ6_bitCount_0f7a4_36 : decode cJ6_bitCount_0f7a4 36 = .ok (.bipush 8, 2) := by decide +kernel
theorem dJ6_bitCount_0f7a4_38 : decode cJ6_bitCount_0f7a4 38 = .ok (.iushr, 1) := by decide +kernel
theorem dJ6_bitCount_0f7a4_39 : decode cJ6_bitCount_0f7a4 39 = .ok (.iadd, 1) := by decide +kernel
theorem dJ6_bitCount_0f7a4_40 : decode cJ6_bitCount_0f7a4 40 = .ok (.istore_n 0, 1) := by decide +kernel
theorem dJ6_bitCount_0f7a4_41 : decode cJ6_bitCount_0f7a4 41 = .ok (.iload_n 0, 1) := by decide +kernel
theorem dJ6_bitCount_0f7a4_42 : decode cJ6_bitCount_0f7a4 42 = .ok (.iload_n 0, 1) := by decide +kernel
theorem dJ6_bitCount_0f7a4_43 : decode cJ6_bitCount_0f7a4 43 = .ok (.bipush 16, 2) := by decide +kernel
theorem dJ6_bitCount_0f7a4_45 : decode cJ6_bitCount_0f7a4 45 = .ok (.iushr, 1) := by decide +kernel
theorem dJ6_bitCount_0f7a4_46 : decode cJ6_bitCount_0f7a4 46 = .ok (.iadd, 1) := by decide +kernel
theorem dJ6_bitCount_0f7a4_47 : decode cJ6_bitCount_0f7a4 47 = .ok (.istore_n 0, 1) := by decide +kernel
theorem dJ6_bitCount_0f7a4_48 : decode cJ6_bitCount_0f7a4 48 = .ok (.iload_n 0, 1) := by decide +kernel
theorem dJ6_bitCount_0f7a4_49 : decode cJ6_bitCount_0f7a4 49 = .ok (.bipush 63, 2) := by decide +kernel
theorem dJ6_bitCount_0f7a4_51 : decode cJ6_bitCount_0f7a4 51 = .ok (.iand, 1) := by decide +kernel
theorem dJ6_bitCount_0f7a4_52 : decode cJ6_bitCount_0f7a4 52 = .ok (.ireturn, 1) := by decide +kernel
theorem dL_law_0 : decode cL_law 0 = .ok (.new 7, 3) := by decide +kernel
theorem dL_law_3 : decode cL_law 3 = .ok (.dup, 1) := by decide +kernel
theorem dL_law_4 : decode cL_law 4 = .ok (.invokespecial 9, 3) := by decide +kernel
theorem dL_law_7 : decode cL_law 7 = .ok (.astore_n 1, 1) := by decide +kernel
theorem dL_law_8 : decode cL_law 8 = .ok (.new 10, 3) := by decide +kernel
theorem dL_law_11 : decode cL_law 11 = .ok (.dup, 1) := by decide +kernel
theorem dL_law_12 : decode cL_law 12 = .ok (.invokespecial 12, 3) := by decide +kernel
theorem dL_law_15 : decode cL_law 15 = .ok (.astore_n 2, 1) := by decide +kernel
theorem dL_law_16 : decode cL_law 16 = .ok (.iconst 0, 1) := by decide +kernel
theorem dL_law_17 : decode cL_law 17 = .ok (.istore_n 3, 1) := by decide +kernel
theorem dL_law_18 : decode cL_law 18 = .ok (.iload_n 3, 1) := by decide +kernel
theorem dL_law_19 : decode cL_law 19 = .ok (.aload_n 0, 1) := by decide +kernel
theorem dL_law_20 : decode cL_law 20 = .ok (.arraylength, 1) := by decide +kernel
theorem dL_law_21 : decode cL_law 21 = .ok (.bipush 7, 2) := by decide +kernel
theorem dL_law_23 : decode cL_law 23 = .ok (.isub, 1) := by decide +kernel
theorem dL_law_24 : decode cL_law 24 = .ok (.if_icmp .gt 1005, 3) := by decide +kernel
theorem dL_law_27 : decode cL_law 27 = .ok (.aload_n 0, 1) := by decide +kernel
theorem dL_law_28 : decode cL_law 28 = .ok (.iload_n 3, 1) := by decide +kernel
theorem dL_law_29 : decode cL_law 29 = .ok (.iaload, 1) := by decide +kernel
theorem dL_law_30 : decode cL_law 30 = .ok (.bipush 31, 2) := by decide +kernel
theorem dL_law_32 : decode cL_law 32 = .ok (.iand, 1) := by decide +kernel
theorem dL_law_33 : decode cL_law 33 = .ok (.tableswitch 990 0 26 #[123, 156, 215, 274, 307, 382, 405, 428, 461, 484, 517, 540, 563, 588, 601, 614, 627, 640, 653, 716, 779, 812, 845, 878, 911, 944, 967], 123) := by decide +kernel
theorem dL_law_156 : decode cL_law 156 = .ok (.aload_n 1, 1) := by decide +kernel
theorem dL_law_157 : decode cL_law 157 = .ok (.aload_n 0, 1) := by decide +kernel
theorem dL_law_158 : decode cL_law 158 = .ok (.iload_n 3, 1) := by decide +kernel
theorem dL_law_159 : decode cL_law 159 = .ok (.iconst 1, 1) := by decide +kernel
theorem dL_law_160 : decode cL_law 160 = .ok (.iadd, 1) := by decide +kernel
theorem dL_law_161 : decode cL_law 161 = .ok (.iaload, 1) := by decide +kernel
theorem dL_law_162 : decode cL_law 162 = .ok (.aload_n 0, 1) := by decide +kernel
theorem dL_law_163 : decode cL_law 163 = .ok (.iload_n 3, 1) := by decide +kernel
theorem dL_law_164 : decode cL_law 164 = .ok (.iconst 2, 1) := by decide +kernel
theorem dL_law_165 : decode cL_law 165 = .ok (.iadd, 1) := by decide +kernel
theorem dL_law_166 : decode cL_law 166 = .ok (.iaload, 1) := by decide +kernel
theorem dL_law_167 : decode cL_law 167 = .ok (.invokevirtual 13, 3) := by decide +kernel
theorem dL_law_170 : decode cL_law 170 = .ok (.aload_n 2, 1) := by decide +kernel
theorem dL_law_171 : decode cL_law 171 = .ok (.aload_n 0, 1) := by decide +kernel
theorem dL_law_172 : decode cL_law 172 = .ok (.iload_n 3, 1) := by decide +kernel
theorem dL_law_173 : decode cL_law 173 = .ok (.iconst 1, 1) := by decide +kernel
theorem dL_law_174 : decode cL_law 174 = .ok (.iadd, 1) := by decide +kernel
theorem dL_law_175 : decode cL_law 175 = .ok (.iaload, 1) := by decide +kernel
theorem dL_law_176 : decode cL_law 176 = .ok (.aload_n 0, 1) := by decide +kernel
theorem dL_law_177 : decode cL_law 177 = .ok (.iload_n 3, 1) := by decide +kernel
theorem dL_law_178 : decode cL_law 178 = .ok (.iconst 2, 1) := by decide +kernel
theorem dL_law_179 : decode cL_law 179 = .ok (.iadd, 1) := by decide +kernel
theorem dL_law_180 : decode cL_law 180 = .ok (.iaload, 1) := by decide +kernel
theorem dL_law_181 : decode cL_law 181 = .ok (.invokevirtual 17, 3) := by decide +kernel
theorem dL_law_184 : decode cL_law 184 = .ok (.if_icmp .eq 839, 3) := by decide +kernel
theorem dL_law_187 : decode cL_law 187 = .ok (.iconst 0, 1) := by decide +kernel
theorem dL_law_188 : decode cL_law 188 = .ok (.ireturn, 1) := by decide +kernel
theorem dL_law_189 : decode cL_law 189 = .ok (.aload_n 1, 1) := by decide +kernel
theorem dL_law_190 : decode cL_law 190 = .ok (.aload_n 0, 1) := by decide +kernel
theorem dL_law_191 : decode cL_law 191 = .ok (.iload_n 3, 1) := by decide +kernel
theorem dL_law_192 : decode cL_law 192 = .ok (.iconst 1, 1) := by decide +kernel
theorem dL_law_193 : decode cL_law 193 = .ok (.iadd, 1) := by decide +kernel
theorem dL_law_194 : decode cL_law 194 = .ok (.iaload, 1) := by decide +kernel
theorem dL_law_195 : decode cL_law 195 = .ok (.aload_n 0, 1) := by decide +kernel
theorem dL_law_196 : decode cL_law 196 = .ok (.iload_n 3, 1) := by decide +kernel
theorem dL_law_197 : decode cL_law 197 = .ok (.iconst 2, 1) := by decide +kernel
theorem dL_law_198 : decode cL_law 198 = .ok (.iadd, 1) := by decide +kernel
theorem dL_law_199 : decode cL_law 199 = .ok (.iaload, 1) := by decide +kernel
theorem dL_law_200 : decode cL_law 200 = .ok (.aload_n 0, 1) := by decide +kernel
theorem dL_law_201 : decode cL_law 201 = .ok (.iload_n 3, 1) := by decide +kernel
theorem dL_law_202 : decode cL_law 202 = .ok (.iconst 3, 1) := by decide +kernel
theorem dL_law_203 : decode cL_law 203 = .ok (.iadd, 1) := by decide +kernel
theorem dL_law_204 : decode cL_law 204 = .ok (.iaload, 1) := by decide +kernel
theorem dL_law_205 : decode cL_law 205 = .ok (.ifCond .eq 7, 3) := by decide +kernel
theorem dL_law_208 : decode cL_law 208 = .ok (.iconst 1, 1) := by decide +kernel
theorem dL_law_209 : decode cL_law 209 = .ok (.goto 4, 3) := by decide +kernel
theorem dL_law_212 : decode cL_law 212 = .ok (.iconst 0, 1) := by decide +kernel
theorem dL_law_213 : decode cL_law 213 = .ok (.invokevirtual 18, 3) := by decide +kernel
theorem dL_law_216 : decode cL_law 216 = .ok (.aload_n 2, 1) := by decide +kernel
theorem dL_law_217 : decode cL_law 217 = .ok (.aload_n 0, 1) := by decide +kernel
theorem dL_law_218 : decode cL_law 218 = .ok (.iload_n 3, 1) := by decide +kernel
theorem dL_law_219 : decode cL_law 219 = .ok (.iconst 1, 1) := by decide +kernel
theorem dL_law_220 : decode cL_law 220 = .ok (.iadd, 1) := by decide +kernel
theorem dL_law_221 : decode cL_law 221 = .ok (.iaload, 1) := by decide +kernel
theorem dL_law_222 : decode cL_law 222 = .ok (.aload_n 0, 1) := by decide +kernel
theorem dL_law_223 : decode cL_law 223 = .ok (.iload_n 3, 1) := by decide +kernel
theorem dL_law_224 : decode cL_law 224 = .ok (.iconst 2, 1) := by decide +kernel
theorem dL_law_225 : decode cL_law 225 = .ok (.iadd, 1) := by decide +kernel
theorem dL_law_226 : decode cL_law 226 = .ok (.iaload, 1) := by decide +kernel
theorem dL_law_227 : decode cL_law 227 = .ok (.aload_n 0, 1) := by decide +kernel
theorem dL_law_228 : decode cL_law 228 = .ok (.iload_n 3, 1) := by decide +kernel
theorem dL_law_229 : decode cL_law 229 = .ok (.iconst 3, 1) := by decide +kernel
theorem dL_law_230 : decode cL_law 230 = .ok (.iadd, 1) := by decide +kernel
theorem dL_law_231 : decode cL_law 231 = .ok (.iaload, 1) := by decide +kernel
theorem dL_law_232 : decode cL_law 232 = .ok (.ifCond .eq 7, 3) := by decide +kernel
theorem dL_law_235 : decode cL_law 235 = .ok (.iconst 1, 1) := by decide +kernel
theorem dL_law_236 : decode cL_law 236 = .ok (.goto 4, 3) := by decide +kernel
theorem dL_law_239 : decode cL_law 239 = .ok (.iconst 0, 1) := by decide +kernel
theorem dL_law_240 : decode cL_law 240 = .ok (.invokevirtual 22, 3) := by decide +kernel
theorem dL_law_243 : decode cL_law 243 = .ok (.if_icmp .eq 780, 3) := by decide +kernel
theorem dL_law_246 : decode cL_law 246 = .ok (.iconst 0, 1) := by decide +kernel
theorem dL_law_247 : decode cL_law 247 = .ok (.ireturn, 1) := by decide +kernel
theorem dL_law_248 : decode cL_law 248 = .ok (.aload_n 1, 1) := by decide +kernel
theorem dL_law_249 : decode cL_law 249 = .ok (.aload_n 0, 1) := by decide +kernel
theorem dL_law_250 : decode cL_law 250 = .ok (.iload_n 3, 1) := by decide +kernel
theorem dL_law_251 : decode cL_law 251 = .ok (.iconst 1, 1) := by decide +kernel
theorem dL_law_252 : decode cL_law 252 = .ok (.iadd, 1) := by decide +kernel
theorem dL_law_253 : decode cL_law 253 = .ok (.iaload, 1) := by decide +kernel
theorem dL_law_254 : decode cL_law 254 = .ok (.aload_n 0, 1) := by decide +kernel
theorem dL_law_255 : decode cL_law 255 = .ok (.iload_n 3, 1) := by decide +kernel
theorem dL_law_256 : decode cL_law 256 = .ok (.iconst 2, 1) := by decide +kernel
theorem dL_law_257 : decode cL_law 257 = .ok (.iadd, 1) := by decide +kernel
theorem dL_law_258 : decode cL_law 258 = .ok (.iaload, 1) := by decide +kernel
theorem dL_law_259 : decode cL_law 259 = .ok (.aload_n 0, 1) := by decide +kernel
theorem dL_law_260 : decode cL_law 260 = .ok (.iload_n 3, 1) := by decide +kernel
theorem dL_law_261 : decode cL_law 261 = .ok (.iconst 3, 1) := by decide +kernel
theorem dL_law_262 : decode cL_law 262 = .ok (.iadd, 1) := by decide +kernel
theorem dL_law_263 : decode cL_law 263 = .ok (.iaload, 1) := by decide +kernel
theorem dL_law_264 : decode cL_law 264 = .ok (.ifCond .eq 7, 3) := by decide +kernel
theorem dL_law_267 : decode cL_law 267 = .ok (.iconst 1, 1) := by decide +kernel
theorem dL_law_268 : decode cL_law 268 = .ok (.goto 4, 3) := by decide +kernel
theorem dL_law_271 : decode cL_law 271 = .ok (.iconst 0, 1) := by decide +kernel
theorem dL_law_272 : decode cL_law 272 = .ok (.invokevirtual 23, 3) := by decide +kernel
theorem dL_law_275 : decode cL_law 275 = .ok (.aload_n 2, 1) := by decide +kernel
theorem dL_law_276 : decode cL_law 276 = .ok (.aload_n 0, 1) := by decide +kernel
theorem dL_law_277 : decode cL_law 277 = .ok (.iload_n 3, 1) := by decide +kernel
theorem dL_law_278 : decode cL_law 278 = .ok (.iconst 1, 1) := by decide +kernel
theorem dL_law_279 : decode cL_law 279 = .ok (.iadd, 1) := by decide +kernel
theorem dL_law_280 : decode cL_law 280 = .ok (.iaload, 1) := by decide +kernel
theorem dL_law_281 : decode cL_law 281 = .ok (.aload_n 0, 1) := by decide +kernel
theorem dL_law_282 : decode cL_law 282 = .ok (.iload_n 3, 1) := by decide +kernel
theorem dL_law_283 : decode cL_law 283 = .ok (.iconst 2, 1) := by decide +kernel
theorem dL_law_284 : decode cL_law 284 = .ok (.iadd, 1) := by decide +kernel
theorem dL_law_285 : decode cL_law 285 = .ok (.iaload, 1) := by decide +kernel
theorem dL_law_286 : decode cL_law 286 = .ok (.aload_n 0, 1) := by decide +kernel
theorem dL_law_287 : decode cL_law 287 = .ok (.iload_n 3, 1) := by decide +kernel
theorem dL_law_288 : decode cL_law 288 = .ok (.iconst 3, 1) := by decide +kernel
theorem dL_law_289 : decode cL_law 289 = .ok (.iadd, 1) := by decide +kernel
theorem dL_law_290 : decode cL_law 290 = .ok (.iaload, 1) := by decide +kernel
theorem dL_law_291 : decode cL_law 291 = .ok (.ifCond .eq 7, 3) := by decide +kernel
theorem dL_law_294 : decode cL_law 294 = .ok (.iconst 1, 1) := by decide +kernel
theorem dL_law_295 : decode cL_law 295 = .ok (.goto 4, 3) := by decide +kernel
theorem dL_law_298 : decode cL_law 298 = .ok (.iconst 0, 1) := by decide +kernel
theorem dL_law_299 : decode cL_law 299 = .ok (.invokevirtual 26, 3) := by decide +kernel
theorem dL_law_302 : decode cL_law 302 = .ok (.if_icmp .eq 721, 3) := by decide +kernel
theorem dL_law_305 : decode cL_law 305 = .ok (.iconst 0, 1) := by decide +kernel
theorem dL_law_306 : decode cL_law 306 = .ok (.ireturn, 1) := by decide +kernel
theorem dL_law_307 : decode cL_law 307 = .ok (.aload_n 1, 1) := by decide +kernel
theorem dL_law_308 : decode cL_law 308 = .ok (.aload_n 0, 1) := by decide +kernel
theorem dL_law_309 : decode cL_law 309 = .ok (.iload_n 3, 1) := by decide +kernel
theorem dL_law_310 : decode cL_law 310 = .ok (.iconst 1, 1) := by decide +kernel
theorem dL_law_311 : decode cL_law 311 = .ok (.iadd, 1) := by decide +kernel
theorem dL_law_312 : decode cL_law 312 = .ok (.iaload, 1) := by decide +kernel
theorem dL_law_313 : decode cL_law 313 = .ok (.aload_n 0, 1) := by decide +kernel
theorem dL_law_314 : decode cL_law 314 = .ok (.iload_n 3, 1) := by decide +kernel
theorem dL_law_315 : decode cL_law 315 = .ok (.iconst 2, 1) := by decide +kernel
theorem dL_law_316 : decode cL_law 316 = .ok (.iadd, 1) := by decide +kernel
theorem dL_law_317 : decode cL_law 317 = .ok (.iaload, 1) := by decide +kernel
theorem dL_law_318 : decode cL_law 318 = .ok (.invokevirtual 27, 3) := by decide +kernel
theorem dL_law_321 : decode cL_law 321 = .ok (.aload_n 2, 1) := by decide +kernel
theorem dL_law_322 : decode cL_law 322 = .ok (.aload_n 0, 1) := by decide +kernel
theorem dL_law_323 : decode cL_law 323 = .ok (.iload_n 3, 1) := by decide +kernel
theorem dL_law_324 : decode cL_law 324 = .ok (.iconst 1, 1) := by decide +kernel
theorem dL_law_325 : decode cL_law 325 = .ok (.iadd, 1) := by decide +kernel
theorem dL_law_326 : decode cL_law 326 = .ok (.iaload, 1) := by decide +kernel
theorem dL_law_327 : decode cL_law 327 = .ok (.aload_n 0, 1) := by decide +kernel
theorem dL_law_328 : decode cL_law 328 = .ok (.iload_n 3, 1) := by decide +kernel
theorem dL_law_329 : decode cL_law 329 = .ok (.iconst 2, 1) := by decide +kernel
theorem dL_law_330 : decode cL_law 330 = .ok (.iadd, 1) := by decide +kernel
theorem dL_law_331 : decode cL_law 331 = .ok (.iaload, 1) := by decide +kernel
theorem dL_law_332 : decode cL_law 332 = .ok (.invokevirtual 30, 3) := by decide +kernel
theorem dL_law_335 : decode cL_law 335 = .ok (.if_icmp .eq 688, 3) := by decide +kernel
theorem dL_law_338 : decode cL_law 338 = .ok (.iconst 0, 1) := by decide +kernel
theorem dL_law_339 : decode cL_law 339 = .ok (.ireturn, 1) := by decide +kernel
theorem dL_law_340 : decode cL_law 340 = .ok (.aload_n 1, 1) := by decide +kernel
theorem dL_law_341 : decode cL_law 341 = .ok (.aload_n 0, 1) := by decide +kernel
theorem dL_law_342 : decode cL_law 342 = .ok (.iload_n 3, 1) := by decide +kernel
theorem dL_law_343 : decode cL_law 343 = .ok (.iconst 1, 1) := by decide +kernel
theorem dL_law_344 : decode cL_law 344 = .ok (.iadd, 1) := by decide +kernel
theorem dL_law_345 : decode cL_law 345 = .ok (.iaload, 1) := by decide +kernel
theorem dL_law_346 : decode cL_law 346 = .ok (.aload_n 0, 1) := by decide +kernel
theorem dL_law_347 : decode cL_law 347 = .ok (.iload_n 3, 1) := by decide +kernel
theorem dL_law_348 : decode cL_law 348 = .ok (.iconst 2, 1) := by decide +kernel
theorem dL_law_349 : decode cL_law 349 = .ok (.iadd, 1) := by decide +kernel
theorem dL_law_350 : decode cL_law 350 = .ok (.iaload, 1) := by decide +kernel
theorem dL_law_351 : decode cL_law 351 = .ok (.aload_n 0, 1) := by decide +kernel
theorem dL_law_352 : decode cL_law 352 = .ok (.iload_n 3, 1) := by decide +kernel
theorem dL_law_353 : decode cL_law 353 = .ok (.iconst 3, 1) := by decide +kernel
theorem dL_law_354 : decode cL_law 354 = .ok (.iadd, 1) := by decide +kernel
theorem dL_law_355 : decode cL_law 355 = .ok (.iaload, 1) := by decide +kernel
theorem dL_law_356 : decode cL_law 356 = .ok (.aload_n 0, 1) := by decide +kernel
theorem dL_law_357 : decode cL_law 357 = .ok (.iload_n 3, 1) := by decide +kernel
theorem dL_law_358 : decode cL_law 358 = .ok (.iconst 4, 1) := by decide +kernel
theorem dL_law_359 : decode cL_law 359 = .ok (.iadd, 1) := by decide +kernel
theorem dL_law_360 : decode cL_law 360 = .ok (.iaload, 1) := by decide +kernel
theorem dL_law_361 : decode cL_law 361 = .ok (.aload_n 0, 1) := by decide +kernel
theorem dL_law_362 : decode cL_law 362 = .ok (.iload_n 3, 1) := by decide +kernel
theorem dL_law_363 : decode cL_law 363 = .ok (.iconst 5, 1) := by decide +kernel
theorem dL_law_364 : decode cL_law 364 = .ok (.iadd, 1) := by decide +kernel
theorem dL_law_365 : decode cL_law 365 = .ok (.iaload, 1) := by decide +kernel
theorem dL_law_366 : decode cL_law 366 = .ok (.aload_n 0, 1) := by decide +kernel
theorem dL_law_367 : decode cL_law 367 = .ok (.iload_n 3, 1) := by decide +kernel
theorem dL_law_368 : decode cL_law 368 = .ok (.bipush 6, 2) := by decide +kernel
theorem dL_law_370 : decode cL_law 370 = .ok (.iadd, 1) := by decide +kernel
theorem dL_law_371 : decode cL_law 371 = .ok (.iaload, 1) := by decide +kernel
theorem dL_law_372 : decode cL_law 372 = .ok (.invokevirtual 31, 3) := by decide +kernel
theorem dL_law_375 : decode cL_law 375 = .ok (.aload_n 2, 1) := by decide +kernel
theorem dL_law_376 : decode cL_law 376 = .ok (.aload_n 0, 1) := by decide +kernel
theorem dL_law_377 : decode cL_law 377 = .ok (.iload_n 3, 1) := by decide +kernel
theorem dL_law_378 : decode cL_law 378 = .ok (.iconst 1, 1) := by decide +kernel
theorem dL_law_379 : decode cL_law 379 = .ok (.iadd, 1) := by decide +kernel
theorem dL_law_380 : decode cL_law 380 = .ok (.iaload, 1) := by decide +kernel
theorem dL_law_381 : decode cL_law 381 = .ok (.aload_n 0, 1) := by decide +kernel
theorem dL_law_382 : decode cL_law 382 = .ok (.iload_n 3, 1) := by decide +kernel
theorem dL_law_383 : decode cL_law 383 = .ok (.iconst 2, 1) := by decide +kernel
theorem dL_law_384 : decode cL_law 384 = .ok (.iadd, 1) := by decide +kernel
theorem dL_law_385 : decode cL_law 385 = .ok (.iaload, 1) := by decide +kernel
theorem dL_law_386 : decode cL_law 386 = .ok (.aload_n 0, 1) := by decide +kernel
theorem dL_law_387 : decode cL_law 387 = .ok (.iload_n 3, 1) := by decide +kernel
theorem dL_law_388 : decode cL_law 388 = .ok (.iconst 3, 1) := by decide +kernel
theorem dL_law_389 : decode cL_law 389 = .ok (.iadd, 1) := by decide +kernel
theorem dL_law_390 : decode cL_law 390 = .ok (.iaload, 1) := by decide +kernel
theorem dL_law_391 : decode cL_law 391 = .ok (.aload_n 0, 1) := by decide +kernel
theorem dL_law_392 : decode cL_law 392 = .ok (.iload_n 3, 1) := by decide +kernel
theorem dL_law_393 : decode cL_law 393 = .ok (.iconst 4, 1) := by decide +kernel
theorem dL_law_394 : decode cL_law 394 = .ok (.iadd, 1) := by decide +kernel
theorem dL_law_395 : decode cL_law 395 = .ok (.iaload, 1) := by decide +kernel
theorem dL_law_396 : decode cL_law 396 = .ok (.aload_n 0, 1) := by decide +kernel
theorem dL_law_397 : decode cL_law 397 = .ok (.iload_n 3, 1) := by decide +kernel
theorem dL_law_398 : decode cL_law 398 = .ok (.iconst 5, 1) := by decide +kernel
theorem dL_law_399 : decode cL_law 399 = .ok (.iadd, 1) := by decide +kernel
theorem dL_law_400 : decode cL_law 400 = .ok (.iaload, 1) := by decide +kernel
theorem dL_law_401 : decode cL_law 401 = .ok (.aload_n 0, 1) := by decide +kernel
theorem dL_law_402 : decode cL_law 402 = .ok (.iload_n 3, 1) := by decide +kernel
theorem dL_law_403 : decode cL_law 403 = .ok (.bipush 6, 2) := by decide +kernel
theorem dL_law_405 : decode cL_law 405 = .ok (.iadd, 1) := by decide +kernel
theorem dL_law_406 : decode cL_law 406 = .ok (.iaload, 1) := by decide +kernel
theorem dL_law_407 : decode cL_law 407 = .ok (.invokevirtual 35, 3) := by decide +kernel
theorem dL_law_410 : decode cL_law 410 = .ok (.if_icmp .eq 613, 3) := by decide +kernel
theorem dL_law_413 : decode cL_law 413 = .ok (.iconst 0, 1) := by decide +kernel
theorem dL_law_414 : decode cL_law 414 = .ok (.ireturn, 1) := by decide +kernel
theorem dL_law_415 : decode cL_law 415 = .ok (.aload_n 1, 1) := by decide +kernel
theorem dL_law_416 : decode cL_law 416 = .ok (.aload_n 0, 1) := by decide +kernel
theorem dL_law_417 : decode cL_law 417 = .ok (.iload_n 3, 1) := by decide +kernel
theorem dL_law_418 : decode cL_law 418 = .ok (.iconst 1, 1) := by decide +kernel
theorem dL_law_419 : decode cL_law 419 = .ok (.iadd, 1) := by decide +kernel
theorem dL_law_420 : decode cL_law 420 = .ok (.iaload, 1) := by decide +kernel
theorem dL_law_421 : decode cL_law 421 = .ok (.invokevirtual 36, 3) := by decide +kernel
theorem dL_law_424 : decode cL_law 424 = .ok (.aload_n 2, 1) := by decide +kernel
theorem dL_law_425 : decode cL_law 425 = .ok (.aload_n 0, 1) := by decide +kernel
theorem dL_law_426 : decode cL_law 426 = .ok (.iload_n 3, 1) := by decide +kernel
theorem dL_law_427 : decode cL_law 427 = .ok (.iconst 1, 1) := by decide +kernel
theorem dL_law_428 : decode cL_law 428 = .ok (.iadd, 1) := by decide +kernel
theorem dL_law_429 : decode cL_law 429 = .ok (.iaload, 1) := by decide +kernel
theorem dL_law_430 : decode cL_law 430 = .ok (.invokevirtual 40, 3) := by decide +kernel
theorem dL_law_433 : decode cL_law 433 = .ok (.if_icmp .eq 590, 3) := by decide +kernel
theorem dL_law_436 : decode cL_law 436 = .ok (.iconst 0, 1) := by decide +kernel
theorem dL_law_437 : decode cL_law 437 = .ok (.ireturn, 1) := by decide +kernel
theorem dL_law_438 : decode cL_law 438 = .ok (.aload_n 1, 1) := by decide +kernel
theorem dL_law_439 : decode cL_law 439 = .ok (.aload_n 0, 1) := by decide +kernel
theorem dL_law_440 : decode cL_law 440 = .ok (.iload_n 3, 1) := by decide +kernel
theorem dL_law_441 : decode cL_law 441 = .ok (.iconst 1, 1) := by decide +kernel
theorem dL_law_442 : decode cL_law 442 = .ok (.iadd, 1) := by decide +kernel
theorem dL_law_443 : decode cL_law 443 = .ok (.iaload, 1) := by decide +kernel
theorem dL_law_444 : decode cL_law 444 = .ok (.invokevirtual 41, 3) := by decide +kernel
theorem dL_law_447 : decode cL_law 447 = .ok (.aload_n 2, 1) := by decide +kernel
theorem dL_law_448 : decode cL_law 448 = .ok (.aload_n 0, 1) := by decide +kernel
theorem dL_law_449 : decode cL_law 449 = .ok (.iload_n 3, 1) := by decide +kernel
theorem dL_law_450 : decode cL_law 450 = .ok (.iconst 1, 1) := by decide +kernel
theorem dL_law_451 : decode cL_law 451 = .ok (.iadd, 1) := by decide +kernel
theorem dL_law_452 : decode cL_law 452 = .ok (.iaload, 1) := by decide +kernel
theorem dL_law_453 : decode cL_law 453 = .ok (.invokevirtual 44, 3) := by decide +kernel
theorem dL_law_456 : decode cL_law 456 = .ok (.if_icmp .eq 567, 3) := by decide +kernel
theorem dL_law_459 : decode cL_law 459 = .ok (.iconst 0, 1) := by decide +kernel
theorem dL_law_460 : decode cL_law 460 = .ok (.ireturn, 1) := by decide +kernel
theorem dL_law_461 : decode cL_law 461 = .ok (.aload_n 1, 1) := by decide +kernel
theorem dL_law_462 : decode cL_law 462 = .ok (.aload_n 0, 1) := by decide +kernel
theorem dL_law_463 : decode cL_law 463 = .ok (.iload_n 3, 1) := by decide +kernel
theorem dL_law_464 : decode cL_law 464 = .ok (.iconst 1, 1) := by decide +kernel
theorem dL_law_465 : decode cL_law 465 = .ok (.iadd, 1) := by decide +kernel
theorem dL_law_466 : decode cL_law 466 = .ok (.iaload, 1) := by decide +kernel
theorem dL_law_467 : decode cL_law 467 = .ok (.aload_n 0, 1) := by decide +kernel
theorem dL_law_468 : decode cL_law 468 = .ok (.iload_n 3, 1) := by decide +kernel
theorem dL_law_469 : decode cL_law 469 = .ok (.iconst 2, 1) := by decide +kernel
theorem dL_law_470 : decode cL_law 470 = .ok (.iadd, 1) := by decide +kernel
theorem dL_law_471 : decode cL_law 471 = .ok (.iaload, 1) := by decide +kernel
theorem dL_law_472 : decode cL_law 472 = .ok (.invokevirtual 45, 3) := by decide +kernel
theorem dL_law_475 : decode cL_law 475 = .ok (.aload_n 2, 1) := by decide +kernel
theorem dL_law_476 : decode cL_law 476 = .ok (.aload_n 0, 1) := by decide +kernel
theorem dL_law_477 : decode cL_law 477 = .ok (.iload_n 3, 1) := by decide +kernel
theorem dL_law_478 : decode cL_law 478 = .ok (.iconst 1, 1) := by decide +kernel
theorem dL_law_479 : decode cL_law 479 = .ok (.iadd, 1) := by decide +kernel
theorem dL_law_480 : decode cL_law 480 = .ok (.iaload, 1) := by decide +kernel
theorem dL_law_481 : decode cL_law 481 = .ok (.aload_n 0, 1) := by decide +kernel
theorem dL_law_482 : decode cL_law 482 = .ok (.iload_n 3, 1) := by decide +kernel
theorem dL_law_483 : decode cL_law 483 = .ok (.iconst 2, 1) := by decide +kernel
theorem dL_law_484 : decode cL_law 484 = .ok (.iadd, 1) := by decide +kernel
theorem dL_law_485 : decode cL_law 485 = .ok (.iaload, 1) := by decide +kernel
theorem dL_law_486 : decode cL_law 486 = .ok (.invokevirtual 48, 3) := by decide +kernel
theorem dL_law_489 : decode cL_law 489 = .ok (.if_icmp .eq 534, 3) := by decide +kernel
theorem dL_law_492 : decode cL_law 492 = .ok (.iconst 0, 1) := by decide +kernel
theorem dL_law_493 : decode cL_law 493 = .ok (.ireturn, 1) := by decide +kernel
theorem dL_law_494 : decode cL_law 494 = .ok (.aload_n 1, 1) := by decide +kernel
theorem dL_law_495 : decode cL_law 495 = .ok (.aload_n 0, 1) := by decide +kernel
theorem dL_law_496 : decode cL_law 496 = .ok (.iload_n 3, 1) := by decide +kernel
theorem dL_law_497 : decode cL_law 497 = .ok (.iconst 1, 1) := by decide +kernel
theorem dL_law_498 : decode cL_law 498 = .ok (.iadd, 1) := by decide +kernel
theorem dL_law_499 : decode cL_law 499 = .ok (.iaload, 1) := by decide +kernel
theorem dL_law_500 : decode cL_law 500 = .ok (.invokevirtual 49, 3) := by decide +kernel
theorem dL_law_503 : decode cL_law 503 = .ok (.aload_n 2, 1) := by decide +kernel
theorem dL_law_504 : decode cL_law 504 = .ok (.aload_n 0, 1) := by decide +kernel
theorem dL_law_505 : decode cL_law 505 = .ok (.iload_n 3, 1) := by decide +kernel
theorem dL_law_506 : decode cL_law 506 = .ok (.iconst 1, 1) := by decide +kernel
theorem dL_law_507 : decode cL_law 507 = .ok (.iadd, 1) := by decide +kernel
theorem dL_law_508 : decode cL_law 508 = .ok (.iaload, 1) := by decide +kernel
theorem dL_law_509 : decode cL_law 509 = .ok (.invokevirtual 52, 3) := by decide +kernel
theorem dL_law_512 : decode cL_law 512 = .ok (.if_icmp .eq 511, 3) := by decide +kernel
theorem dL_law_515 : decode cL_law 515 = .ok (.iconst 0, 1) := by decide +kernel
theorem dL_law_516 : decode cL_law 516 = .ok (.ireturn, 1) := by decide +kernel
theorem dL_law_517 : decode cL_law 517 = .ok (.aload_n 1, 1) := by decide +kernel
theorem dL_law_518 : decode cL_law 518 = .ok (.aload_n 0, 1) := by decide +kernel
theorem dL_law_519 : decode cL_law 519 = .ok (.iload_n 3, 1) := by decide +kernel
theorem dL_law_520 : decode cL_law 520 = .ok (.iconst 1, 1) := by decide +kernel
theorem dL_law_521 : decode cL_law 521 = .ok (.iadd, 1) := by decide +kernel
theorem dL_law_522 : decode cL_law 522 = .ok (.iaload, 1) := by decide +kernel
theorem dL_law_523 : decode cL_law 523 = .ok (.aload_n 0, 1) := by decide +kernel
theorem dL_law_524 : decode cL_law 524 = .ok (.iload_n 3, 1) := by decide +kernel
theorem dL_law_525 : decode cL_law 525 = .ok (.iconst 2, 1) := by decide +kernel
theorem dL_law_526 : decode cL_law 526 = .ok (.iadd, 1) := by decide +kernel
theorem dL_law_527 : decode cL_law 527 = .ok (.iaload, 1) := by decide +kernel
theorem dL_law_528 : decode cL_law 528 = .ok (.invokevirtual 53, 3) := by decide +kernel
theorem dL_law_531 : decode cL_law 531 = .ok (.aload_n 2, 1) := by decide +kernel
theorem dL_law_532 : decode cL_law 532 = .ok (.aload_n 0, 1) := by decide +kernel
theorem dL_law_533 : decode cL_law 533 = .ok (.iload_n 3, 1) := by decide +kernel
theorem dL_law_534 : decode cL_law 534 = .ok (.iconst 1, 1) := by decide +kernel
theorem dL_law_535 : decode cL_law 535 = .ok (.iadd, 1) := by decide +kernel
theorem dL_law_536 : decode cL_law 536 = .ok (.iaload, 1) := by decide +kernel
theorem dL_law_537 : decode cL_law 537 = .ok (.aload_n 0, 1) := by decide +kernel
theorem dL_law_538 : decode cL_law 538 = .ok (.iload_n 3, 1) := by decide +kernel
theorem dL_law_539 : decode cL_law 539 = .ok (.iconst 2, 1) := by decide +kernel
theorem dL_law_540 : decode cL_law 540 = .ok (.iadd, 1) := by decide +kernel
theorem dL_law_541 : decode cL_law 541 = .ok (.iaload, 1) := by decide +kernel
theorem dL_law_542 : decode cL_law 542 = .ok (.invokevirtual 56, 3) := by decide +kernel
theorem dL_law_545 : decode cL_law 545 = .ok (.if_icmp .eq 478, 3) := by decide +kernel
theorem dL_law_548 : decode cL_law 548 = .ok (.iconst 0, 1) := by decide +kernel
theorem dL_law_549 : decode cL_law 549 = .ok (.ireturn, 1) := by decide +kernel
theorem dL_law_550 : decode cL_law 550 = .ok (.aload_n 1, 1) := by decide +kernel
theorem dL_law_551 : decode cL_law 551 = .ok (.aload_n 0, 1) := by decide +kernel
theorem dL_law_552 : decode cL_law 552 = .ok (.iload_n 3, 1) := by decide +kernel
theorem dL_law_553 : decode cL_law 553 = .ok (.iconst 1, 1) := by decide +kernel
theorem dL_law_554 : decode cL_law 554 = .ok (.iadd, 1) := by decide +kernel
theorem dL_law_555 : decode cL_law 555 = .ok (.iaload, 1) := by decide +kernel
theorem dL_law_556 : decode cL_law 556 = .ok (.invokevirtual 57, 3) := by decide +kernel
theorem dL_law_559 : decode cL_law 559 = .ok (.aload_n 2, 1) := by decide +kernel
theorem dL_law_560 : decode cL_law 560 = .ok (.aload_n 0, 1) := by decide +kernel
theorem dL_law_561 : decode cL_law 561 = .ok (.iload_n 3, 1) := by decide +kernel
theorem dL_law_562 : decode cL_law 562 = .ok (.iconst 1, 1) := by decide +kernel
theorem dL_law_563 : decode cL_law 563 = .ok (.iadd, 1) := by decide +kernel
theorem dL_law_564 : decode cL_law 564 = .ok (.iaload, 1) := by decide +kernel
theorem dL_law_565 : decode cL_law 565 = .ok (.invokevirtual 60, 3) := by decide +kernel
theorem dL_law_568 : decode cL_law 568 = .ok (.if_icmp .eq 455, 3) := by decide +kernel
theorem dL_law_571 : decode cL_law 571 = .ok (.iconst 0, 1) := by decide +kernel
theorem dL_law_572 : decode cL_law 572 = .ok (.ireturn, 1) := by decide +kernel
theorem dL_law_573 : decode cL_law 573 = .ok (.aload_n 1, 1) := by decide +kernel
theorem dL_law_574 : decode cL_law 574 = .ok (.aload_n 0, 1) := by decide +kernel
theorem dL_law_575 : decode cL_law 575 = .ok (.iload_n 3, 1) := by decide +kernel
theorem dL_law_576 : decode cL_law 576 = .ok (.iconst 1, 1) := by decide +kernel
theorem dL_law_577 : decode cL_law 577 = .ok (.iadd, 1) := by decide +kernel
theorem dL_law_578 : decode cL_law 578 = .ok (.iaload, 1) := by decide +kernel
theorem dL_law_579 : decode cL_law 579 = .ok (.invokevirtual 61, 3) := by decide +kernel
theorem dL_law_582 : decode cL_law 582 = .ok (.aload_n 2, 1) := by decide +kernel
theorem dL_law_583 : decode cL_law 583 = .ok (.aload_n 0, 1) := by decide +kernel
theorem dL_law_584 : decode cL_law 584 = .ok (.iload_n 3, 1) := by decide +kernel
theorem dL_law_585 : decode cL_law 585 = .ok (.iconst 1, 1) := by decide +kernel
theorem dL_law_586 : decode cL_law 586 = .ok (.iadd, 1) := by decide +kernel
theorem dL_law_587 : decode cL_law 587 = .ok (.iaload, 1) := by decide +kernel
theorem dL_law_588 : decode cL_law 588 = .ok (.invokevirtual 64, 3) := by decide +kernel
theorem dL_law_591 : decode cL_law 591 = .ok (.if_icmp .eq 432, 3) := by decide +kernel
theorem dL_law_594 : decode cL_law 594 = .ok (.iconst 0, 1) := by decide +kernel
theorem dL_law_595 : decode cL_law 595 = .ok (.ireturn, 1) := by decide +kernel
theorem dL_law_596 : decode cL_law 596 = .ok (.aload_n 1, 1) := by decide +kernel
theorem dL_law_597 : decode cL_law 597 = .ok (.aload_n 0, 1) := by decide +kernel
theorem dL_law_598 : decode cL_law 598 = .ok (.iload_n 3, 1) := by decide +kernel
theorem dL_law_599 : decode cL_law 599 = .ok (.iconst 1, 1) := by decide +kernel
theorem dL_law_600 : decode cL_law 600 = .ok (.iadd, 1) := by decide +kernel
theorem dL_law_601 : decode cL_law 601 = .ok (.iaload, 1) := by decide +kernel
theorem dL_law_602 : decode cL_law 602 = .ok (.i2c, 1) := by decide +kernel
theorem dL_law_603 : decode cL_law 603 = .ok (.invokevirtual 65, 3) := by decide +kernel
theorem dL_law_606 : decode cL_law 606 = .ok (.aload_n 2, 1) := by decide +kernel
theorem dL_law_607 : decode cL_law 607 = .ok (.aload_n 0, 1) := by decide +kernel
theorem dL_law_608 : decode cL_law 608 = .ok (.iload_n 3, 1) := by decide +kernel
theorem dL_law_609 : decode cL_law 609 = .ok (.iconst 1, 1) := by decide +kernel
theorem dL_law_610 : decode cL_law 610 = .ok (.iadd, 1) := by decide +kernel
theorem dL_law_611 : decode cL_law 611 = .ok (.iaload, 1) := by decide +kernel
theorem dL_law_612 : decode cL_law 612 = .ok (.i2c, 1) := by decide +kernel
theorem dL_law_613 : decode cL_law 613 = .ok (.invokevirtual 69, 3) := by decide +kernel
theorem dL_law_616 : decode cL_law 616 = .ok (.if_icmp .eq 407, 3) := by decide +kernel
theorem dL_law_619 : decode cL_law 619 = .ok (.iconst 0, 1) := by decide +kernel
theorem dL_law_620 : decode cL_law 620 = .ok (.ireturn, 1) := by decide +kernel
theorem dL_law_621 : decode cL_law 621 = .ok (.aload_n 1, 1) := by decide +kernel
theorem dL_law_622 : decode cL_law 622 = .ok (.invokevirtual 70, 3) := by decide +kernel
theorem dL_law_625 : decode cL_law 625 = .ok (.aload_n 2, 1) := by decide +kernel
theorem dL_law_626 : decode cL_law 626 = .ok (.invokevirtual 74, 3) := by decide +kernel
theorem dL_law_629 : decode cL_law 629 = .ok (.if_icmp .eq 394, 3) := by decide +kernel
theorem dL_law_632 : decode cL_law 632 = .ok (.iconst 0, 1) := by decide +kernel
theorem dL_law_633 : decode cL_law 633 = .ok (.ireturn, 1) := by decide +kernel
theorem dL_law_634 : decode cL_law 634 = .ok (.aload_n 1, 1) := by decide +kernel
theorem dL_law_635 : decode cL_law 635 = .ok (.invokevirtual 75, 3) := by decide +kernel
theorem dL_law_638 : decode cL_law 638 = .ok (.aload_n 2, 1) := by decide +kernel
theorem dL_law_639 : decode cL_law 639 = .ok (.invokevirtual 78, 3) := by decide +kernel
theorem dL_law_642 : decode cL_law 642 = .ok (.if_icmp .eq 381, 3) := by decide +kernel
theorem dL_law_645 : decode cL_law 645 = .ok (.iconst 0, 1) := by decide +kernel
theorem dL_law_646 : decode cL_law 646 = .ok (.ireturn, 1) := by decide +kernel
theorem dL_law_647 : decode cL_law 647 = .ok (.aload_n 1, 1) := by decide +kernel
theorem dL_law_648 : decode cL_law 648 = .ok (.invokevirtual 79, 3) := by decide +kernel
theorem dL_law_651 : decode cL_law 651 = .ok (.aload_n 2, 1) := by decide +kernel
theorem dL_law_652 : decode cL_law 652 = .ok (.invokevirtual 82, 3) := by decide +kernel
theorem dL_law_655 : decode cL_law 655 = .ok (.if_icmp .eq 368, 3) := by decide +kernel
theorem dL_law_658 : decode cL_law 658 = .ok (.iconst 0, 1) := by decide +kernel
theorem dL_law_659 : decode cL_law 659 = .ok (.ireturn, 1) := by decide +kernel
theorem dL_law_660 : decode cL_law 660 = .ok (.aload_n 1, 1) := by decide +kernel
theorem dL_law_661 : decode cL_law 661 = .ok (.invokevirtual 83, 3) := by decide +kernel
theorem dL_law_664 : decode cL_law 664 = .ok (.aload_n 2, 1) := by decide +kernel
theorem dL_law_665 : decode cL_law 665 = .ok (.invokevirtual 86, 3) := by decide +kernel
theorem dL_law_668 : decode cL_law 668 = .ok (.if_icmp .eq 355, 3) := by decide +kernel
theorem dL_law_671 : decode cL_law 671 = .ok (.iconst 0, 1) := by decide +kernel
theorem dL_law_672 : decode cL_law 672 = .ok (.ireturn, 1) := by decide +kernel
theorem dL_law_673 : decode cL_law 673 = .ok (.aload_n 1, 1) := by decide +kernel
theorem dL_law_674 : decode cL_law 674 = .ok (.invokevirtual 87, 3) := by decide +kernel
theorem dL_law_677 : decode cL_law 677 = .ok (.aload_n 2, 1) := by decide +kernel
theorem dL_law_678 : decode cL_law 678 = .ok (.invokevirtual 90, 3) := by decide +kernel
theorem dL_law_681 : decode cL_law 681 = .ok (.if_icmp .eq 342, 3) := by decide +kernel
theorem dL_law_684 : decode cL_law 684 = .ok (.iconst 0, 1) := by decide +kernel
theorem dL_law_685 : decode cL_law 685 = .ok (.ireturn, 1) := by decide +kernel
theorem dL_law_686 : decode cL_law 686 = .ok (.aload_n 1, 1) := by decide +kernel
theorem dL_law_687 : decode cL_law 687 = .ok (.aload_n 0, 1) := by decide +kernel
theorem dL_law_688 : decode cL_law 688 = .ok (.iload_n 3, 1) := by decide +kernel
theorem dL_law_689 : decode cL_law 689 = .ok (.iconst 1, 1) := by decide +kernel
theorem dL_law_690 : decode cL_law 690 = .ok (.iadd, 1) := by decide +kernel
theorem dL_law_691 : decode cL_law 691 = .ok (.iaload, 1) := by decide +kernel
theorem dL_law_692 : decode cL_law 692 = .ok (.aload_n 0, 1) := by decide +kernel
theorem dL_law_693 : decode cL_law 693 = .ok (.iload_n 3, 1) := by decide +kernel
theorem dL_law_694 : decode cL_law 694 = .ok (.iconst 2, 1) := by decide +kernel
theorem dL_law_695 : decode cL_law 695 = .ok (.iadd, 1) := by decide +kernel
theorem dL_law_696 : decode cL_law 696 = .ok (.iaload, 1) := by decide +kernel
theorem dL_law_697 : decode cL_law 697 = .ok (.invokevirtual 91, 3) := by decide +kernel
theorem dL_law_700 : decode cL_law 700 = .ok (.f2d, 1) := by decide +kernel
theorem dL_law_701 : decode cL_law 701 = .ok (.dstore 4, 2) := by decide +kernel
theorem dL_law_703 : decode cL_law 703 = .ok (.aload_n 2, 1) := by decide +kernel
theorem dL_law_704 : decode cL_law 704 = .ok (.aload_n 0, 1) := by decide +kernel
theorem dL_law_705 : decode cL_law 705 = .ok (.iload_n 3, 1) := by decide +kernel
theorem dL_law_706 : decode cL_law 706 = .ok (.iconst 1, 1) := by decide +kernel
theorem dL_law_707 : decode cL_law 707 = .ok (.iadd, 1) := by decide +kernel
theorem dL_law_708 : decode cL_law 708 = .ok (.iaload, 1) := by decide +kernel
theorem dL_law_709 : decode cL_law 709 = .ok (.aload_n 0, 1) := by decide +kernel
theorem dL_law_710 : decode cL_law 710 = .ok (.iload_n 3, 1) := by decide +kernel
theorem dL_law_711 : decode cL_law 711 = .ok (.iconst 2, 1) := by decide +kernel
theorem dL_law_712 : decode cL_law 712 = .ok (.iadd, 1) := by decide +kernel
theorem dL_law_713 : decode cL_law 713 = .ok (.iaload, 1) := by decide +kernel
theorem dL_law_714 : decode cL_law 714 = .ok (.invokevirtual 95, 3) := by decide +kernel
theorem dL_law_717 : decode cL_law 717 = .ok (.f2d, 1) := by decide +kernel
theorem dL_law_718 : decode cL_law 718 = .ok (.dstore 6, 2) := by decide +kernel
theorem dL_law_720 : decode cL_law 720 = .ok (.dload 4, 2) := by decide +kernel
theorem dL_law_722 : decode cL_law 722 = .ok (.dload 6, 2) := by decide +kernel
theorem dL_law_724 : decode cL_law 724 = .ok (.dcmp .l, 1) := by decide +kernel
theorem dL_law_725 : decode cL_law 725 = .ok (.ifCond .eq 21, 3) := by decide +kernel
theorem dL_law_728 : decode cL_law 728 = .ok (.dload 4, 2) := by decide +kernel
theorem dL_law_730 : decode cL_law 730 = .ok (.dload 4, 2) := by decide +kernel
theorem dL_law_732 : decode cL_law 732 = .ok (.dcmp .l, 1) := by decide +kernel
theorem dL_law_733 : decode cL_law 733 = .ok (.ifCond .eq 11, 3) := by decide +kernel
theorem dL_law_736 : decode cL_law 736 = .ok (.dload 6, 2) := by decide +kernel
theorem dL_law_738 : decode cL_law 738 = .ok (.dload 6, 2) := by decide +kernel
theorem dL_law_740 : decode cL_law 740 = .ok (.dcmp .l, 1) := by decide +kernel
theorem dL_law_741 : decode cL_law 741 = .ok (.ifCond .ne 5, 3) := by decide +kernel
theorem dL_law_744 : decode cL_law 744 = .ok (.iconst 0, 1) := by decide +kernel
theorem dL_law_745 : decode cL_law 745 = .ok (.ireturn, 1) := by decide +kernel
theorem dL_law_746 : decode cL_law 746 = .ok (.goto 277, 3) := by decide +kernel
theorem dL_law_749 : decode cL_law 749 = .ok (.aload_n 1, 1) := by decide +kernel
theorem dL_law_750 : decode cL_law 750 = .ok (.aload_n 0, 1) := by decide +kernel
theorem dL_law_751 : decode cL_law 751 = .ok (.iload_n 3, 1) := by decide +kernel
theorem dL_law_752 : decode cL_law 752 = .ok (.iconst 1, 1) := by decide +kernel
theorem dL_law_753 : decode cL_law 753 = .ok (.iadd, 1) := by decide +kernel
theorem dL_law_754 : decode cL_law 754 = .ok (.iaload, 1) := by decide +kernel
theorem dL_law_755 : decode cL_law 755 = .ok (.aload_n 0, 1) := by decide +kernel
theorem dL_law_756 : decode cL_law 756 = .ok (.iload_n 3, 1) := by decide +kernel
theorem dL_law_757 : decode cL_law 757 = .ok (.iconst 2, 1) := by decide +kernel
theorem dL_law_758 : decode cL_law 758 = .ok (.iadd, 1) := by decide +kernel
theorem dL_law_759 : decode cL_law 759 = .ok (.iaload, 1) := by decide +kernel
theorem dL_law_760 : decode cL_law 760 = .ok (.invokevirtual 96, 3) := by decide +kernel
theorem dL_law_763 : decode cL_law 763 = .ok (.f2d, 1) := by decide +kernel
theorem dL_law_764 : decode cL_law 764 = .ok (.dstore 4, 2) := by decide +kernel
theorem dL_law_766 : decode cL_law 766 = .ok (.aload_n 2, 1) := by decide +kernel
theorem dL_law_767 : decode cL_law 767 = .ok (.aload_n 0, 1) := by decide +kernel
theorem dL_law_768 : decode cL_law 768 = .ok (.iload_n 3, 1) := by decide +kernel
theorem dL_law_769 : decode cL_law 769 = .ok (.iconst 1, 1) := by decide +kernel
theorem dL_law_770 : decode cL_law 770 = .ok (.iadd, 1) := by decide +kernel
theorem dL_law_771 : decode cL_law 771 = .ok (.iaload, 1) := by decide +kernel
theorem dL_law_772 : decode cL_law 772 = .ok (.aload_n 0, 1) := by decide +kernel
theorem dL_law_773 : decode cL_law 773 = .ok (.iload_n 3, 1) := by decide +kernel
theorem dL_law_774 : decode cL_law 774 = .ok (.iconst 2, 1) := by decide +kernel
theorem dL_law_775 : decode cL_law 775 = .ok (.iadd, 1) := by decide +kernel
theorem dL_law_776 : decode cL_law 776 = .ok (.iaload, 1) := by decide +kernel
theorem dL_law_777 : decode cL_law 777 = .ok (.invokevirtual 99, 3) := by decide +kernel
theorem dL_law_780 : decode cL_law 780 = .ok (.f2d, 1) := by decide +kernel
theorem dL_law_781 : decode cL_law 781 = .ok (.dstore 6, 2) := by decide +kernel
theorem dL_law_783 : decode cL_law 783 = .ok (.dload 4, 2) := by decide +kernel
theorem dL_law_785 : decode cL_law 785 = .ok (.dload 6, 2) := by decide +kernel
theorem dL_law_787 : decode cL_law 787 = .ok (.dcmp .l, 1) := by decide +kernel
theorem dL_law_788 : decode cL_law 788 = .ok (.ifCond .eq 21, 3) := by decide +kernel
theorem dL_law_791 : decode cL_law 791 = .ok (.dload 4, 2) := by decide +kernel
theorem dL_law_793 : decode cL_law 793 = .ok (.dload 4, 2) := by decide +kernel
theorem dL_law_795 : decode cL_law 795 = .ok (.dcmp .l, 1) := by decide +kernel
theorem dL_law_796 : decode cL_law 796 = .ok (.ifCond .eq 11, 3) := by decide +kernel
theorem dL_law_799 : decode cL_law 799 = .ok (.dload 6, 2) := by decide +kernel
theorem dL_law_801 : decode cL_law 801 = .ok (.dload 6, 2) := by decide +kernel
theorem dL_law_803 : decode cL_law 803 = .ok (.dcmp .l, 1) := by decide +kernel
theorem dL_law_804 : decode cL_law 804 = .ok (.ifCond .ne 5, 3) := by decide +kernel
theorem dL_law_807 : decode cL_law 807 = .ok (.iconst 0, 1) := by decide +kernel
theorem dL_law_808 : decode cL_law 808 = .ok (.ireturn, 1) := by decide +kernel
theorem dL_law_809 : decode cL_law 809 = .ok (.goto 214, 3) := by decide +kernel
theorem dL_law_812 : decode cL_law 812 = .ok (.aload_n 1, 1) := by decide +kernel
theorem dL_law_813 : decode cL_law 813 = .ok (.aload_n 0, 1) := by decide +kernel
theorem dL_law_814 : decode cL_law 814 = .ok (.iload_n 3, 1) := by decide +kernel
theorem dL_law_815 : decode cL_law 815 = .ok (.iconst 1, 1) := by decide +kernel
theorem dL_law_816 : decode cL_law 816 = .ok (.iadd, 1) := by decide +kernel
theorem dL_law_817 : decode cL_law 817 = .ok (.iaload, 1) := by decide +kernel
theorem dL_law_818 : decode cL_law 818 = .ok (.aload_n 0, 1) := by decide +kernel
theorem dL_law_819 : decode cL_law 819 = .ok (.iload_n 3, 1) := by decide +kernel
theorem dL_law_820 : decode cL_law 820 = .ok (.iconst 2, 1) := by decide +kernel
theorem dL_law_821 : decode cL_law 821 = .ok (.iadd, 1) := by decide +kernel
theorem dL_law_822 : decode cL_law 822 = .ok (.iaload, 1) := by decide +kernel
theorem dL_law_823 : decode cL_law 823 = .ok (.invokevirtual 100, 3) := by decide +kernel
theorem dL_law_826 : decode cL_law 826 = .ok (.aload_n 2, 1) := by decide +kernel
theorem dL_law_827 : decode cL_law 827 = .ok (.aload_n 0, 1) := by decide +kernel
theorem dL_law_828 : decode cL_law 828 = .ok (.iload_n 3, 1) := by decide +kernel
theorem dL_law_829 : decode cL_law 829 = .ok (.iconst 1, 1) := by decide +kernel
theorem dL_law_830 : decode cL_law 830 = .ok (.iadd, 1) := by decide +kernel
theorem dL_law_831 : decode cL_law 831 = .ok (.iaload, 1) := by decide +kernel
theorem dL_law_832 : decode cL_law 832 = .ok (.aload_n 0, 1) := by decide +kernel
theorem dL_law_833 : decode cL_law 833 = .ok (.iload_n 3, 1) := by decide +kernel
theorem dL_law_834 : decode cL_law 834 = .ok (.iconst 2, 1) := by decide +kernel
theorem dL_law_835 : decode cL_law 835 = .ok (.iadd, 1) := by decide +kernel
theorem dL_law_836 : decode cL_law 836 = .ok (.iaload, 1) := by decide +kernel
theorem dL_law_837 : decode cL_law 837 = .ok (.invokevirtual 103, 3) := by decide +kernel
theorem dL_law_840 : decode cL_law 840 = .ok (.if_icmp .eq 183, 3) := by decide +kernel
theorem dL_law_843 : decode cL_law 843 = .ok (.iconst 0, 1) := by decide +kernel
theorem dL_law_844 : decode cL_law 844 = .ok (.ireturn, 1) := by decide +kernel
theorem dL_law_845 : decode cL_law 845 = .ok (.aload_n 1, 1) := by decide +kernel
theorem dL_law_846 : decode cL_law 846 = .ok (.aload_n 0, 1) := by decide +kernel
theorem dL_law_847 : decode cL_law 847 = .ok (.iload_n 3, 1) := by decide +kernel
theorem dL_law_848 : decode cL_law 848 = .ok (.iconst 1, 1) := by decide +kernel
theorem dL_law_849 : decode cL_law 849 = .ok (.iadd, 1) := by decide +kernel
theorem dL_law_850 : decode cL_law 850 = .ok (.iaload, 1) := by decide +kernel
theorem dL_law_851 : decode cL_law 851 = .ok (.aload_n 0, 1) := by decide +kernel
theorem dL_law_852 : decode cL_law 852 = .ok (.iload_n 3, 1) := by decide +kernel
theorem dL_law_853 : decode cL_law 853 = .ok (.iconst 2, 1) := by decide +kernel
theorem dL_law_854 : decode cL_law 854 = .ok (.iadd, 1) := by decide +kernel
theorem dL_law_855 : decode cL_law 855 = .ok (.iaload, 1) := by decide +kernel
theorem dL_law_856 : decode cL_law 856 = .ok (.invokevirtual 104, 3) := by decide +kernel
theorem dL_law_859 : decode cL_law 859 = .ok (.aload_n 2, 1) := by decide +kernel
theorem dL_law_860 : decode cL_law 860 = .ok (.aload_n 0, 1) := by decide +kernel
theorem dL_law_861 : decode cL_law 861 = .ok (.iload_n 3, 1) := by decide +kernel
theorem dL_law_862 : decode cL_law 862 = .ok (.iconst 1, 1) := by decide +kernel
theorem dL_law_863 : decode cL_law 863 = .ok (.iadd, 1) := by decide +kernel
theorem dL_law_864 : decode cL_law 864 = .ok (.iaload, 1) := by decide +kernel
theorem dL_law_865 : decode cL_law 865 = .ok (.aload_n 0, 1) := by decide +kernel
theorem dL_law_866 : decode cL_law 866 = .ok (.iload_n 3, 1) := by decide +kernel
theorem dL_law_867 : decode cL_law 867 = .ok (.iconst 2, 1) := by decide +kernel
theorem dL_law_868 : decode cL_law 868 = .ok (.iadd, 1) := by decide +kernel
theorem dL_law_869 : decode cL_law 869 = .ok (.iaload, 1) := by decide +kernel
theorem dL_law_870 : decode cL_law 870 = .ok (.invokevirtual 107, 3) := by decide +kernel
theorem dL_law_873 : decode cL_law 873 = .ok (.if_icmp .eq 150, 3) := by decide +kernel
theorem dL_law_876 : decode cL_law 876 = .ok (.iconst 0, 1) := by decide +kernel
theorem dL_law_877 : decode cL_law 877 = .ok (.ireturn, 1) := by decide +kernel
theorem dL_law_878 : decode cL_law 878 = .ok (.aload_n 1, 1) := by decide +kernel
theorem dL_law_879 : decode cL_law 879 = .ok (.aload_n 0, 1) := by decide +kernel
theorem dL_law_880 : decode cL_law 880 = .ok (.iload_n 3, 1) := by decide +kernel
theorem dL_law_881 : decode cL_law 881 = .ok (.iconst 1, 1) := by decide +kernel
theorem dL_law_882 : decode cL_law 882 = .ok (.iadd, 1) := by decide +kernel
theorem dL_law_883 : decode cL_law 883 = .ok (.iaload, 1) := by decide +kernel
theorem dL_law_884 : decode cL_law 884 = .ok (.aload_n 0, 1) := by decide +kernel
theorem dL_law_885 : decode cL_law 885 = .ok (.iload_n 3, 1) := by decide +kernel
theorem dL_law_886 : decode cL_law 886 = .ok (.iconst 2, 1) := by decide +kernel
theorem dL_law_887 : decode cL_law 887 = .ok (.iadd, 1) := by decide +kernel
theorem dL_law_888 : decode cL_law 888 = .ok (.iaload, 1) := by decide +kernel
theorem dL_law_889 : decode cL_law 889 = .ok (.invokevirtual 108, 3) := by decide +kernel
theorem dL_law_892 : decode cL_law 892 = .ok (.aload_n 2, 1) := by decide +kernel
theorem dL_law_893 : decode cL_law 893 = .ok (.aload_n 0, 1) := by decide +kernel
theorem dL_law_894 : decode cL_law 894 = .ok (.iload_n 3, 1) := by decide +kernel
theorem dL_law_895 : decode cL_law 895 = .ok (.iconst 1, 1) := by decide +kernel
theorem dL_law_896 : decode cL_law 896 = .ok (.iadd, 1) := by decide +kernel
theorem dL_law_897 : decode cL_law 897 = .ok (.iaload, 1) := by decide +kernel
theorem dL_law_898 : decode cL_law 898 = .ok (.aload_n 0, 1) := by decide +kernel
theorem dL_law_899 : decode cL_law 899 = .ok (.iload_n 3, 1) := by decide +kernel
theorem dL_law_900 : decode cL_law 900 = .ok (.iconst 2, 1) := by decide +kernel
theorem dL_law_901 : decode cL_law 901 = .ok (.iadd, 1) := by decide +kernel
theorem dL_law_902 : decode cL_law 902 = .ok (.iaload, 1) := by decide +kernel
theorem dL_law_903 : decode cL_law 903 = .ok (.invokevirtual 111, 3) := by decide +kernel
theorem dL_law_906 : decode cL_law 906 = .ok (.if_icmp .eq 117, 3) := by decide +kernel
theorem dL_law_909 : decode cL_law 909 = .ok (.iconst 0, 1) := by decide +kernel
theorem dL_law_910 : decode cL_law 910 = .ok (.ireturn, 1) := by decide +kernel
theorem dL_law_911 : decode cL_law 911 = .ok (.aload_n 1, 1) := by decide +kernel
theorem dL_law_912 : decode cL_law 912 = .ok (.aload_n 0, 1) := by decide +kernel
theorem dL_law_913 : decode cL_law 913 = .ok (.iload_n 3, 1) := by decide +kernel
theorem dL_law_914 : decode cL_law 914 = .ok (.iconst 1, 1) := by decide +kernel
theorem dL_law_915 : decode cL_law 915 = .ok (.iadd, 1) := by decide +kernel
theorem dL_law_916 : decode cL_law 916 = .ok (.iaload, 1) := by decide +kernel
theorem dL_law_917 : decode cL_law 917 = .ok (.aload_n 0, 1) := by decide +kernel
theorem dL_law_918 : decode cL_law 918 = .ok (.iload_n 3, 1) := by decide +kernel
theorem dL_law_919 : decode cL_law 919 = .ok (.iconst 2, 1) := by decide +kernel
theorem dL_law_920 : decode cL_law 920 = .ok (.iadd, 1) := by decide +kernel
theorem dL_law_921 : decode cL_law 921 = .ok (.iaload, 1) := by decide +kernel
theorem dL_law_922 : decode cL_law 922 = .ok (.invokevirtual 112, 3) := by decide +kernel
theorem dL_law_925 : decode cL_law 925 = .ok (.aload_n 2, 1) := by decide +kernel
theorem dL_law_926 : decode cL_law 926 = .ok (.aload_n 0, 1) := by decide +kernel
theorem dL_law_927 : decode cL_law 927 = .ok (.iload_n 3, 1) := by decide +kernel
theorem dL_law_928 : decode cL_law 928 = .ok (.iconst 1, 1) := by decide +kernel
theorem dL_law_929 : decode cL_law 929 = .ok (.iadd, 1) := by decide +kernel
theorem dL_law_930 : decode cL_law 930 = .ok (.iaload, 1) := by decide +kernel
theorem dL_law_931 : decode cL_law 931 = .ok (.aload_n 0, 1) := by decide +kernel
theorem dL_law_932 : decode cL_law 932 = .ok (.iload_n 3, 1) := by decide +kernel
theorem dL_law_933 : decode cL_law 933 = .ok (.iconst 2, 1) := by decide +kernel
theorem dL_law_934 : decode cL_law 934 = .ok (.iadd, 1) := by decide +kernel
theorem dL_law_935 : decode cL_law 935 = .ok (.iaload, 1) := by decide +kernel
theorem dL_law_936 : decode cL_law 936 = .ok (.invokevirtual 115, 3) := by decide +kernel
theorem dL_law_939 : decode cL_law 939 = .ok (.if_icmp .eq 84, 3) := by decide +kernel
theorem dL_law_942 : decode cL_law 942 = .ok (.iconst 0, 1) := by decide +kernel
theorem dL_law_943 : decode cL_law 943 = .ok (.ireturn, 1) := by decide +kernel
theorem dL_law_944 : decode cL_law 944 = .ok (.aload_n 1, 1) := by decide +kernel
theorem dL_law_945 : decode cL_law 945 = .ok (.aload_n 0, 1) := by decide +kernel
theorem dL_law_946 : decode cL_law 946 = .ok (.iload_n 3, 1) := by decide +kernel
theorem dL_law_947 : decode cL_law 947 = .ok (.iconst 1, 1) := by decide +kernel
theorem dL_law_948 : decode cL_law 948 = .ok (.iadd, 1) := by decide +kernel
theorem dL_law_949 : decode cL_law 949 = .ok (.iaload, 1) := by decide +kernel
theorem dL_law_950 : decode cL_law 950 = .ok (.aload_n 0, 1) := by decide +kernel
theorem dL_law_951 : decode cL_law 951 = .ok (.iload_n 3, 1) := by decide +kernel
theorem dL_law_952 : decode cL_law 952 = .ok (.iconst 2, 1) := by decide +kernel
theorem dL_law_953 : decode cL_law 953 = .ok (.iadd, 1) := by decide +kernel
theorem dL_law_954 : decode cL_law 954 = .ok (.iaload, 1) := by decide +kernel
theorem dL_law_955 : decode cL_law 955 = .ok (.invokevirtual 116, 3) := by decide +kernel
theorem dL_law_958 : decode cL_law 958 = .ok (.aload_n 2, 1) := by decide +kernel
theorem dL_law_959 : decode cL_law 959 = .ok (.aload_n 0, 1) := by decide +kernel
theorem dL_law_960 : decode cL_law 960 = .ok (.iload_n 3, 1) := by decide +kernel
theorem dL_law_961 : decode cL_law 961 = .ok (.iconst 1, 1) := by decide +kernel
theorem dL_law_962 : decode cL_law 962 = .ok (.iadd, 1) := by decide +kernel
theorem dL_law_963 : decode cL_law 963 = .ok (.iaload, 1) := by decide +kernel
theorem dL_law_964 : decode cL_law 964 = .ok (.aload_n 0, 1) := by decide +kernel
theorem dL_law_965 : decode cL_law 965 = .ok (.iload_n 3, 1) := by decide +kernel
theorem dL_law_966 : decode cL_law 966 = .ok (.iconst 2, 1) := by decide +kernel
theorem dL_law_967 : decode cL_law 967 = .ok (.iadd, 1) := by decide +kernel
theorem dL_law_968 : decode cL_law 968 = .ok (.iaload, 1) := by decide +kernel
theorem dL_law_969 : decode cL_law 969 = .ok (.invokevirtual 119, 3) := by decide +kernel
theorem dL_law_972 : decode cL_law 972 = .ok (.if_icmp .eq 51, 3) := by decide +kernel
theorem dL_law_975 : decode cL_law 975 = .ok (.iconst 0, 1) := by decide +kernel
theorem dL_law_976 : decode cL_law 976 = .ok (.ireturn, 1) := by decide +kernel
theorem dL_law_977 : decode cL_law 977 = .ok (.aload_n 1, 1) := by decide +kernel
theorem dL_law_978 : decode cL_law 978 = .ok (.aload_n 0, 1) := by decide +kernel
theorem dL_law_979 : decode cL_law 979 = .ok (.iload_n 3, 1) := by decide +kernel
theorem dL_law_980 : decode cL_law 980 = .ok (.iconst 1, 1) := by decide +kernel
theorem dL_law_981 : decode cL_law 981 = .ok (.iadd, 1) := by decide +kernel
theorem dL_law_982 : decode cL_law 982 = .ok (.iaload, 1) := by decide +kernel
theorem dL_law_983 : decode cL_law 983 = .ok (.invokevirtual 120, 3) := by decide +kernel
theorem dL_law_986 : decode cL_law 986 = .ok (.aload_n 2, 1) := by decide +kernel
theorem dL_law_987 : decode cL_law 987 = .ok (.aload_n 0, 1) := by decide +kernel
theorem dL_law_988 : decode cL_law 988 = .ok (.iload_n 3, 1) := by decide +kernel
theorem dL_law_989 : decode cL_law 989 = .ok (.iconst 1, 1) := by decide +kernel
theorem dL_law_990 : decode cL_law 990 = .ok (.iadd, 1) := by decide +kernel
theorem dL_law_991 : decode cL_law 991 = .ok (.iaload, 1) := by decide +kernel
theorem dL_law_992 : decode cL_law 992 = .ok (.invokevirtual 123, 3) := by decide +kernel
theorem dL_law_995 : decode cL_law 995 = .ok (.if_icmp .eq 28, 3) := by decide +kernel
theorem dL_law_998 : decode cL_law 998 = .ok (.iconst 0, 1) := by decide +kernel
theorem dL_law_999 : decode cL_law 999 = .ok (.ireturn, 1) := by decide +kernel
theorem dL_law_1000 : decode cL_law 1000 = .ok (.aload_n 1, 1) := by decide +kernel
theorem dL_law_1001 : decode cL_law 1001 = .ok (.aload_n 0, 1) := by decide +kernel
theorem dL_law_1002 : decode cL_law 1002 = .ok (.iload_n 3, 1) := by decide +kernel
theorem dL_law_1003 : decode cL_law 1003 = .ok (.iconst 1, 1) := by decide +kernel
theorem dL_law_1004 : decode cL_law 1004 = .ok (.iadd, 1) := by decide +kernel
theorem dL_law_1005 : decode cL_law 1005 = .ok (.iaload, 1) := by decide +kernel
theorem dL_law_1006 : decode cL_law 1006 = .ok (.invokevirtual 124, 3) := by decide +kernel
theorem dL_law_1009 : decode cL_law 1009 = .ok (.aload_n 2, 1) := by decide +kernel
theorem dL_law_1010 : decode cL_law 1010 = .ok (.aload_n 0, 1) := by decide +kernel
theorem dL_law_1011 : decode cL_law 1011 = .ok (.iload_n 3, 1) := by decide +kernel
theorem dL_law_1012 : decode cL_law 1012 = .ok (.iconst 1, 1) := by decide +kernel
theorem dL_law_1013 : decode cL_law 1013 = .ok (.iadd, 1) := by decide +kernel
theorem dL_law_1014 : decode cL_law 1014 = .ok (.iaload, 1) := by decide +kernel
theorem dL_law_1015 : decode cL_law 1015 = .ok (.invokevirtual 127, 3) := by decide +kernel
theorem dL_law_1018 : decode cL_law 1018 = .ok (.if_icmp .eq 5, 3) := by decide +kernel
theorem dL_law_1021 : decode cL_law 1021 = .ok (.iconst 0, 1) := by decide +kernel
theorem dL_law_1022 : decode cL_law 1022 = .ok (.ireturn, 1) := by decide +kernel
theorem dL_law_1023 : decode cL_law 1023 = .ok (.iinc 3 7, 3) := by decide +kernel
theorem dL_law_1026 : decode cL_law 1026 = .ok (.goto (-1008), 3) := by decide +kernel
theorem dL_law_1029 : decode cL_law 1029 = .ok (.iconst 1, 1) := by decide +kernel
theorem dL_law_1030 : decode cL_law 1030 = .ok (.ireturn, 1) := by decide +kernel
