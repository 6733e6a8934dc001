theorem dX0_init_0 : decode cX0_init 0 = .ok (.aload_n 0, 1) := by decide +kernel
theorem dX0_init_1 : decode cX0_init 1 = .ok (.invokespecial 3, 3) := by decide +kernel
theorem dX0_init_4 : decode cX0_init 4 = .ok (.aload_n 0, 1) := by decide +kernel
theorem dX0_init_5 : decode cX0_init 5 = .ok (.iconst 0, 1) := by decide +kernel
theorem dX0_init_6 : decode cX0_init 6 = .ok (.putfield 9, 3) := by decide +kernel
theorem dX0_init_9 : decode cX0_init 9 = .ok (.aload_n 0, 1) := by decide +kernel
theorem dX0_init_10 : decode cX0_init 10 = .ok (.fconst 0, 1) := by decide +kernel
theorem dX0_init_11 : decode cX0_init 11 = .ok (.putfield 15, 3) := by decide +kernel
theorem dX0_init_14 : decode cX0_init 14 = .ok (.aload_n 0, 1) := by decide +kernel
theorem dX0_init_15 : decode cX0_init 15 = .ok (.fconst 1, 1) := by decide +kernel
theorem dX0_init_16 : decode cX0_init 16 = .ok (.putfield 19, 3) := by decide +kernel
theorem dX0_init_19 : decode cX0_init 19 = .ok (.aload_n 0, 1) := by decide +kernel
theorem dX0_init_20 : decode cX0_init 20 = .ok (.fconst 0, 1) := by decide +kernel
theorem dX0_init_21 : decode cX0_init 21 = .ok (.putfield 22, 3) := by decide +kernel
theorem dX0_init_24 : decode cX0_init 24 = .ok (.aload_n 0, 1) := by decide +kernel
theorem dX0_init_25 : decode cX0_init 25 = .ok (.iconst 0, 1) := by decide +kernel
theorem dX0_init_26 : decode cX0_init 26 = .ok (.putfield 25, 3) := by decide +kernel
theorem dX0_init_29 : decode cX0_init 29 = .ok (.aload_n 0, 1) := by decide +kernel
theorem dX0_init_30 : decode cX0_init 30 = .ok (.iconst 0, 1) := by decide +kernel
theorem dX0_init_31 : decode cX0_init 31 = .ok (.putfield 29, 3) := by decide +kernel
theorem dX0_init_34 : decode cX0_init 34 = .ok (.return_, 1) := by decide +kernel
theorem dX0_setUp_0 : decode cX0_setUp 0 = .ok (.aload_n 0, 1) := by decide +kernel
theorem dX0_setUp_1 : decode cX0_setUp 1 = .ok (.iload_n 1, 1) := by decide +kernel
theorem dX0_setUp_2 : decode cX0_setUp 2 = .ok (.putfield 9, 3) := by decide +kernel
theorem dX0_setUp_5 : decode cX0_setUp 5 = .ok (.aload_n 0, 1) := by decide +kernel
theorem dX0_setUp_6 : decode cX0_setUp 6 = .ok (.iload_n 2, 1) := by decide +kernel
theorem dX0_setUp_7 : decode cX0_setUp 7 = .ok (.i2f, 1) := by decide +kernel
theorem dX0_setUp_8 : decode cX0_setUp 8 = .ok (.ldc 32, 2) := by decide +kernel
theorem dX0_setUp_10 : decode cX0_setUp 10 = .ok (.fdiv, 1) := by decide +kernel
theorem dX0_setUp_11 : decode cX0_setUp 11 = .ok (.putfield 15, 3) := by decide +kernel
theorem dX0_setUp_14 : decode cX0_setUp 14 = .ok (.aload_n 0, 1) := by decide +kernel
theorem dX0_setUp_15 : decode cX0_setUp 15 = .ok (.fconst 1, 1) := by decide +kernel
theorem dX0_setUp_16 : decode cX0_setUp 16 = .ok (.putfield 19, 3) := by decide +kernel
theorem dX0_setUp_19 : decode cX0_setUp 19 = .ok (.aload_n 0, 1) := by decide +kernel
theorem dX0_setUp_20 : decode cX0_setUp 20 = .ok (.fconst 0, 1) := by decide +kernel
theorem dX0_setUp_21 : decode cX0_setUp 21 = .ok (.putfield 22, 3) := by decide +kernel
theorem dX0_setUp_24 : decode cX0_setUp 24 = .ok (.aload_n 0, 1) := by decide +kernel
theorem dX0_setUp_25 : decode cX0_setUp 25 = .ok (.iconst 0, 1) := by decide +kernel
theorem dX0_setUp_26 : decode cX0_setUp 26 = .ok (.putfield 25, 3) := by decide +kernel
theorem dX0_setUp_29 : decode cX0_setUp 29 = .ok (.aload_n 0, 1) := by decide +kernel
theorem dX0_setUp_30 : decode cX0_setUp 30 = .ok (.iconst 0, 1) := by decide +kernel
theorem dX0_setUp_31 : decode cX0_setUp 31 = .ok (.putfield 29, 3) := by decide +kernel
theorem dX0_setUp_34 : decode cX0_setUp 34 = .ok (.return_, 1) := by decide +kernel
theorem dX0_copyFrom_0 : decode cX0_copyFrom 0 = .ok (.aload_n 0, 1) := by decide +kernel
theorem dX0_copyFrom_1 : decode cX0_copyFrom 1 = .ok (.aload_n 1, 1) := by decide +kernel
theorem dX0_copyFrom_2 : decode cX0_copyFrom 2 = .ok (.getfield 9, 3) := by decide +kernel
theorem dX0_copyFrom_5 : decode cX0_copyFrom 5 = .ok (.putfield 9, 3) := by decide +kernel
theorem dX0_copyFrom_8 : decode cX0_copyFrom 8 = .ok (.aload_n 0, 1) := by decide +kernel
theorem dX0_copyFrom_9 : decode cX0_copyFrom 9 = .ok (.aload_n 1, 1) := by decide +kernel
theorem dX0_copyFrom_10 : decode cX0_copyFrom 10 = .ok (.getfield 15, 3) := by decide +kernel
theorem dX0_copyFrom_13 : decode cX0_copyFrom 13 = .ok (.putfield 15, 3) := by decide +kernel
theorem dX0_copyFrom_16 : decode cX0_copyFrom 16 = .ok (.aload_n 0, 1) := by decide +kernel
theorem dX0_copyFrom_17 : decode cX0_copyFrom 17 = .ok (.aload_n 1, 1) := by decide +kernel
theorem dX0_copyFrom_18 : decode cX0_copyFrom 18 = .ok (.getfield 19, 3) := by decide +kernel
theorem dX0_copyFrom_21 : decode cX0_copyFrom 21 = .ok (.putfield 19, 3) := by decide +kernel
theorem dX0_copyFrom_24 : decode cX0_copyFrom 24 = .ok (.aload_n 0, 1) := by decide +kernel
theorem dX0_copyFrom_25 : decode cX0_copyFrom 25 = .ok (.aload_n 1, 1) := by decide +kernel
theorem dX0_copyFrom_26 : decode cX0_copyFrom 26 = .ok (.getfield 22, 3) := by decide +kernel
theorem dX0_copyFrom_29 : decode cX0_copyFrom 29 = .ok (.putfield 22, 3) := by decide +kernel
theorem dX0_copyFrom_32 : decode cX0_copyFrom 32 = .ok (.aload_n 0, 1) := by decide +kernel
theorem dX0_copyFrom_33 : decode cX0_copyFrom 33 = .ok (.aload_n 1, 1) := by decide +kernel
theorem dX0_copyFrom_34 : decode cX0_copyFrom 34 = .ok (.getfield 25, 3) := by decide +kernel
theorem dX0_copyFrom_37 : decode cX0_copyFrom 37 = .ok (.putfield 25, 3) := by decide +kernel
theorem dX0_copyFrom_40 : decode cX0_copyFrom 40 = .ok (.aload_n 0, 1) := by decide +kernel
theorem dX0_copyFrom_41 : decode cX0_copyFrom 41 = .ok (.aload_n 1, 1) := by decide +kernel
theorem dX0_copyFrom_42 : decode cX0_copyFrom 42 = .ok (.getfield 29, 3) := by decide +kernel
theorem dX0_copyFrom_45 : decode cX0_copyFrom 45 = .ok (.putfield 29, 3) := by decide +kernel
theorem dX0_copyFrom_48 : decode cX0_copyFrom 48 = .ok (.return_, 1) := by decide +kernel
theorem dX0_isLinkedTo_0 : decode cX0_isLinkedTo 0 = .ok (.aload_n 0, 1) := by decide +kernel
theorem dX0_isLinkedTo_1 : decode cX0_isLinkedTo 1 = .ok (.getfield 29, 3) := by decide +kernel
theorem dX0_isLinkedTo_4 : decode cX0_isLinkedTo 4 = .ok (.iload_n 1, 1) := by decide +kernel
theorem dX0_isLinkedTo_5 : decode cX0_isLinkedTo 5 = .ok (.ishr, 1) := by decide +kernel
theorem dX0_isLinkedTo_6 : decode cX0_isLinkedTo 6 = .ok (.iconst 1, 1) := by decide +kernel
theorem dX0_isLinkedTo_7 : decode cX0_isLinkedTo 7 = .ok (.iand, 1) := by decide +kernel
theorem dX0_isLinkedTo_8 : decode cX0_isLinkedTo 8 = .ok (.iconst 1, 1) := by decide +kernel
theorem dX0_isLinkedTo_9 : decode cX0_isLinkedTo 9 = .ok (.if_icmp .ne 7, 3) := by decide +kernel
theorem dX0_isLinkedTo_12 : decode cX0_isLinkedTo 12 = .ok (.iconst 1, 1) := by decide +kernel
theorem dX0_isLinkedTo_13 : decode cX0_isLinkedTo 13 = .ok (.goto 4, 3) := by decide +kernel
theorem dX0_isLinkedTo_16 : decode cX0_isLinkedTo 16 = .ok (.iconst 0, 1) := by decide +kernel
theorem dX0_isLinkedTo_17 : decode cX0_isLinkedTo 17 = .ok (.ireturn, 1) := by decide +kernel
theorem dX0_runForAnHour_0 : decode cX0_runForAnHour 0 = .ok (.aload_n 0, 1) := by decide +kernel
theorem dX0_runForAnHour_1 : decode cX0_runForAnHour 1 = .ok (.aload_n 0, 1) := by decide +kernel
theorem dX0_runForAnHour_2 : decode cX0_runForAnHour 2 = .ok (.getfield 22, 3) := by decide +kernel
theorem dX0_runForAnHour_5 : decode cX0_runForAnHour 5 = .ok (.aload_n 0, 1) := by decide +kernel
theorem dX0_runForAnHour_6 : decode cX0_runForAnHour 6 = .ok (.getfield 9, 3) := by decide +kernel
theorem dX0_runForAnHour_9 : decode cX0_runForAnHour 9 = .ok (.i2f, 1) := by decide +kernel
theorem dX0_runForAnHour_10 : decode cX0_runForAnHour 10 = .ok (.aload_n 0, 1) := by decide +kernel
theorem dX0_runForAnHour_11 : decode cX0_runForAnHour 11 = .ok (.getfield 19, 3) := by decide +kernel
theorem dX0_runForAnHour_14 : decode cX0_runForAnHour 14 = .ok (.fmul, 1) := by decide +kernel
theorem dX0_runForAnHour_15 : decode cX0_runForAnHour 15 = .ok (.fadd, 1) := by decide +kernel
theorem dX0_runForAnHour_16 : decode cX0_runForAnHour 16 = .ok (.putfield 22, 3) := by decide +kernel
theorem dX0_runForAnHour_19 : decode cX0_runForAnHour 19 = .ok (.aload_n 0, 1) := by decide +kernel
theorem dX0_runForAnHour_20 : decode cX0_runForAnHour 20 = .ok (.aload_n 0, 1) := by decide +kernel
theorem dX0_runForAnHour_21 : decode cX0_runForAnHour 21 = .ok (.aload_n 0, 1) := by decide +kernel
theorem dX0_runForAnHour_22 : decode cX0_runForAnHour 22 = .ok (.getfield 19, 3) := by decide +kernel
theorem dX0_runForAnHour_25 : decode cX0_runForAnHour 25 = .ok (.invokevirtual 33, 3) := by decide +kernel
theorem dX0_runForAnHour_28 : decode cX0_runForAnHour 28 = .ok (.putfield 19, 3) := by decide +kernel
theorem dX0_runForAnHour_31 : decode cX0_runForAnHour 31 = .ok (.return_, 1) := by decide +kernel
theorem dX0_mend_0 : decode cX0_mend 0 = .ok (.aload_n 0, 1) := by decide +kernel
theorem dX0_mend_1 : decode cX0_mend 1 = .ok (.aload_n 0, 1) := by decide +kernel
theorem dX0_mend_2 : decode cX0_mend 2 = .ok (.getfield 19, 3) := by decide +kernel
theorem dX0_mend_5 : decode cX0_mend 5 = .ok (.fconst 1, 1) := by decide +kernel
theorem dX0_mend_6 : decode cX0_mend 6 = .ok (.aload_n 0, 1) := by decide +kernel
theorem dX0_mend_7 : decode cX0_mend 7 = .ok (.getfield 19, 3) := by decide +kernel
theorem dX0_mend_10 : decode cX0_mend 10 = .ok (.fsub, 1) := by decide +kernel
theorem dX0_mend_11 : decode cX0_mend 11 = .ok (.ldc 37, 2) := by decide +kernel
theorem dX0_mend_13 : decode cX0_mend 13 = .ok (.fmul, 1) := by decide +kernel
theorem dX0_mend_14 : decode cX0_mend 14 = .ok (.fadd, 1) := by decide +kernel
theorem dX0_mend_15 : decode cX0_mend 15 = .ok (.putfield 19, 3) := by decide +kernel
theorem dX0_mend_18 : decode cX0_mend 18 = .ok (.return_, 1) := by decide +kernel
theorem dX0_afterAnHour_0 : decode cX0_afterAnHour 0 = .ok (.fload_n 1, 1) := by decide +kernel
theorem dX0_afterAnHour_1 : decode cX0_afterAnHour 1 = .ok (.fload_n 1, 1) := by decide +kernel
theorem dX0_afterAnHour_2 : decode cX0_afterAnHour 2 = .ok (.aload_n 0, 1) := by decide +kernel
theorem dX0_afterAnHour_3 : decode cX0_afterAnHour 3 = .ok (.getfield 15, 3) := by decide +kernel
theorem dX0_afterAnHour_6 : decode cX0_afterAnHour 6 = .ok (.fmul, 1) := by decide +kernel
theorem dX0_afterAnHour_7 : decode cX0_afterAnHour 7 = .ok (.fsub, 1) := by decide +kernel
theorem dX0_afterAnHour_8 : decode cX0_afterAnHour 8 = .ok (.fstore_n 2, 1) := by decide +kernel
theorem dX0_afterAnHour_9 : decode cX0_afterAnHour 9 = .ok (.fload_n 2, 1) := by decide +kernel
theorem dX0_afterAnHour_10 : decode cX0_afterAnHour 10 = .ok (.ldc 38, 2) := by decide +kernel
theorem dX0_afterAnHour_12 : decode cX0_afterAnHour 12 = .ok (.fcmp .g, 1) := by decide +kernel
theorem dX0_afterAnHour_13 : decode cX0_afterAnHour 13 = .ok (.ifCond .ge 8, 3) := by decide +kernel
theorem dX0_afterAnHour_16 : decode cX0_afterAnHour 16 = .ok (.ldc 38, 2) := by decide +kernel
theorem dX0_afterAnHour_18 : decode cX0_afterAnHour 18 = .ok (.goto 4, 3) := by decide +kernel
theorem dX0_afterAnHour_21 : decode cX0_afterAnHour 21 = .ok (.fload_n 2, 1) := by decide +kernel
theorem dX0_afterAnHour_22 : decode cX0_afterAnHour 22 = .ok (.freturn, 1) := by decide +kernel
theorem dX0_hoursUntilBelow_0 : decode cX0_hoursUntilBelow 0 = .ok (.aload_n 0, 1) := by decide +kernel
theorem dX0_hoursUntilBelow_1 : decode cX0_hoursUntilBelow 1 = .ok (.getfield 19, 3) := by decide +kernel
theorem dX0_hoursUntilBelow_4 : decode cX0_hoursUntilBelow 4 = .ok (.fstore_n 2, 1) := by decide +kernel
theorem dX0_hoursUntilBelow_5 : decode cX0_hoursUntilBelow 5 = .ok (.iconst 0, 1) := by decide +kernel
theorem dX0_hoursUntilBelow_6 : decode cX0_hoursUntilBelow 6 = .ok (.istore_n 3, 1) := by decide +kernel
theorem dX0_hoursUntilBelow_7 : decode cX0_hoursUntilBelow 7 = .ok (.iload_n 3, 1) := by decide +kernel
theorem dX0_hoursUntilBelow_8 : decode cX0_hoursUntilBelow 8 = .ok (.sipush 200, 3) := by decide +kernel
theorem dX0_hoursUntilBelow_11 : decode cX0_hoursUntilBelow 11 = .ok (.if_icmp .gt 23, 3) := by decide +kernel
theorem dX0_hoursUntilBelow_14 : decode cX0_hoursUntilBelow 14 = .ok (.fload_n 2, 1) := by decide +kernel
theorem dX0_hoursUntilBelow_15 : decode cX0_hoursUntilBelow 15 = .ok (.fload_n 1, 1) := by decide +kernel
theorem dX0_hoursUntilBelow_16 : decode cX0_hoursUntilBelow 16 = .ok (.fcmp .g, 1) := by decide +kernel
theorem dX0_hoursUntilBelow_17 : decode cX0_hoursUntilBelow 17 = .ok (.ifCond .ge 5, 3) := by decide +kernel
theorem dX0_hoursUntilBelow_20 : decode cX0_hoursUntilBelow 20 = .ok (.iload_n 3, 1) := by decide +kernel
theorem dX0_hoursUntilBelow_21 : decode cX0_hoursUntilBelow 21 = .ok (.ireturn, 1) := by decide +kernel
theorem dX0_hoursUntilBelow_22 : decode cX0_hoursUntilBelow 22 = .ok (.aload_n 0, 1) := by decide +kernel
theorem dX0_hoursUntilBelow_23 : decode cX0_hoursUntilBelow 23 = .ok (.fload_n 2, 1) := by decide +kernel
theorem dX0_hoursUntilBelow_24 : decode cX0_hoursUntilBelow 24 = .ok (.invokevirtual 33, 3) := by decide +kernel
theorem dX0_hoursUntilBelow_27 : decode cX0_hoursUntilBelow 27 = .ok (.fstore_n 2, 1) := by decide +kernel
theorem dX0_hoursUntilBelow_28 : decode cX0_hoursUntilBelow 28 = .ok (.iinc 3 1, 3) := by decide +kernel
theorem dX0_hoursUntilBelow_31 : decode cX0_hoursUntilBelow 31 = .ok (.goto (-24), 3) := by decide +kernel
theorem dX0_hoursUntilBelow_34 : decode cX0_hoursUntilBelow 34 = .ok (.bipush (-5), 2) := by decide +kernel
theorem dX0_hoursUntilBelow_36 : decode cX0_hoursUntilBelow 36 = .ok (.ireturn, 1) := by decide +kernel
theorem dX1_init_0 : decode cX1_init 0 = .ok (.aload_n 0, 1) := by decide +kernel
theorem dX1_init_1 : decode cX1_init 1 = .ok (.invokespecial 1, 3) := by decide +kernel
theorem dX1_init_4 : decode cX1_init 4 = .ok (.aload_n 0, 1) := by decide +kernel
theorem dX1_init_5 : decode cX1_init 5 = .ok (.iconst 0, 1) := by decide +kernel
theorem dX1_init_6 : decode cX1_init 6 = .ok (.putfield 7, 3) := by decide +kernel
theorem dX1_init_9 : decode cX1_init 9 = .ok (.aload_n 0, 1) := by decide +kernel
theorem dX1_init_10 : decode cX1_init 10 = .ok (.iconst 0, 1) := by decide +kernel
theorem dX1_init_11 : decode cX1_init 11 = .ok (.putfield 13, 3) := by decide +kernel
theorem dX1_init_14 : decode cX1_init 14 = .ok (.return_, 1) := by decide +kernel
theorem dX1_setUp_0 : decode cX1_setUp 0 = .ok (.aload_n 0, 1) := by decide +kernel
theorem dX1_setUp_1 : decode cX1_setUp 1 = .ok (.iload_n 1, 1) := by decide +kernel
theorem dX1_setUp_2 : decode cX1_setUp 2 = .ok (.putfield 7, 3) := by decide +kernel
theorem dX1_setUp_5 : decode cX1_setUp 5 = .ok (.aload_n 0, 1) := by decide +kernel
theorem dX1_setUp_6 : decode cX1_setUp 6 = .ok (.iload_n 2, 1) := by decide +kernel
theorem dX1_setUp_7 : decode cX1_setUp 7 = .ok (.putfield 13, 3) := by decide +kernel
theorem dX1_setUp_10 : decode cX1_setUp 10 = .ok (.return_, 1) := by decide +kernel
theorem dX1_copyFrom_0 : decode cX1_copyFrom 0 = .ok (.aload_n 0, 1) := by decide +kernel
theorem dX1_copyFrom_1 : decode cX1_copyFrom 1 = .ok (.aload_n 1, 1) := by decide +kernel
theorem dX1_copyFrom_2 : decode cX1_copyFrom 2 = .ok (.getfield 7, 3) := by decide +kernel
theorem dX1_copyFrom_5 : decode cX1_copyFrom 5 = .ok (.putfield 7, 3) := by decide +kernel
theorem dX1_copyFrom_8 : decode cX1_copyFrom 8 = .ok (.aload_n 0, 1) := by decide +kernel
theorem dX1_copyFrom_9 : decode cX1_copyFrom 9 = .ok (.aload_n 1, 1) := by decide +kernel
theorem dX1_copyFrom_10 : decode cX1_copyFrom 10 = .ok (.getfield 13, 3) := by decide +kernel
theorem dX1_copyFrom_13 : decode cX1_copyFrom 13 = .ok (.putfield 13, 3) := by decide +kernel
theorem dX1_copyFrom_16 : decode cX1_copyFrom 16 = .ok (.return_, 1) := by decide +kernel
theorem dX1_has_0 : decode cX1_has 0 = .ok (.aload_n 0, 1) := by decide +kernel
theorem dX1_has_1 : decode cX1_has 1 = .ok (.getfield 13, 3) := by decide +kernel
theorem dX1_has_4 : decode cX1_has 4 = .ok (.iload_n 1, 1) := by decide +kernel
theorem dX1_has_5 : decode cX1_has 5 = .ok (.ishr, 1) := by decide +kernel
theorem dX1_has_6 : decode cX1_has 6 = .ok (.iconst 1, 1) := by decide +kernel
theorem dX1_has_7 : decode cX1_has 7 = .ok (.iand, 1) := by decide +kernel
theorem dX1_has_8 : decode cX1_has 8 = .ok (.iconst 1, 1) := by decide +kernel
theorem dX1_has_9 : decode cX1_has 9 = .ok (.if_icmp .ne 7, 3) := by decide +kernel
theorem dX1_has_12 : decode cX1_has 12 = .ok (.iconst 1, 1) := by decide +kernel
theorem dX1_has_13 : decode cX1_has 13 = .ok (.goto 4, 3) := by decide +kernel
theorem dX1_has_16 : decode cX1_has 16 = .ok (.iconst 0, 1) := by decide +kernel
theorem dX1_has_17 : decode cX1_has 17 = .ok (.ireturn, 1) := by decide +kernel
theorem dX2_init_0 : decode cX2_init 0 = .ok (.aload_n 0, 1) := by decide +kernel
theorem dX2_init_1 : decode cX2_init 1 = .ok (.invokespecial 3, 3) := by decide +kernel
theorem dX2_init_4 : decode cX2_init 4 = .ok (.aload_n 0, 1) := by decide +kernel
theorem dX2_init_5 : decode cX2_init 5 = .ok (.iconst 4, 1) := by decide +kernel
theorem dX2_init_6 : decode cX2_init 6 = .ok (.anewarray 9, 3) := by decide +kernel
theorem dX2_init_9 : decode cX2_init 9 = .ok (.putfield 11, 3) := by decide +kernel
theorem dX2_init_12 : decode cX2_init 12 = .ok (.aload_n 0, 1) := by decide +kernel
theorem dX2_init_13 : decode cX2_init 13 = .ok (.iconst 0, 1) := by decide +kernel
theorem dX2_init_14 : decode cX2_init 14 = .ok (.putfield 17, 3) := by decide +kernel
theorem dX2_init_17 : decode cX2_init 17 = .ok (.aload_n 0, 1) := by decide +kernel
theorem dX2_init_18 : decode cX2_init 18 = .ok (.iconst 0, 1) := by decide +kernel
theorem dX2_init_19 : decode cX2_init 19 = .ok (.putfield 21, 3) := by decide +kernel
theorem dX2_init_22 : decode cX2_init 22 = .ok (.iconst 0, 1) := by decide +kernel
theorem dX2_init_23 : decode cX2_init 23 = .ok (.istore_n 1, 1) := by decide +kernel
theorem dX2_init_24 : decode cX2_init 24 = .ok (.iload_n 1, 1) := by decide +kernel
theorem dX2_init_25 : decode cX2_init 25 = .ok (.aload_n 0, 1) := by decide +kernel
theorem dX2_init_26 : decode cX2_init 26 = .ok (.getfield 11, 3) := by decide +kernel
theorem dX2_init_29 : decode cX2_init 29 = .ok (.arraylength, 1) := by decide +kernel
theorem dX2_init_30 : decode cX2_init 30 = .ok (.if_icmp .ge 22, 3) := by decide +kernel
theorem dX2_init_33 : decode cX2_init 33 = .ok (.aload_n 0, 1) := by decide +kernel
theorem dX2_init_34 : decode cX2_init 34 = .ok (.getfield 11, 3) := by decide +kernel
theorem dX2_init_37 : decode cX2_init 37 = .ok (.iload_n 1, 1) := by decide +kernel
theorem dX2_init_38 : decode cX2_init 38 = .ok (.new 9, 3) := by decide +kernel
theorem dX2_init_41 : decode cX2_init 41 = .ok (.dup, 1) := by decide +kernel
theorem dX2_init_42 : decode cX2_init 42 = .ok (.invokespecial 24, 3) := by decide +kernel
theorem dX2_init_45 : decode cX2_init 45 = .ok (.aastore, 1) := by decide +kernel
theorem dX2_init_46 : decode cX2_init 46 = .ok (.iinc 1 1, 3) := by decide +kernel
theorem dX2_init_49 : decode cX2_init 49 = .ok (.goto (-25), 3) := by decide +kernel
theorem dX2_init_52 : decode cX2_init 52 = .ok (.return_, 1) := by decide +kernel
theorem dX2_add_0 : decode cX2_add 0 = .ok (.aload_n 0, 1) := by decide +kernel
theorem dX2_add_1 : decode cX2_add 1 = .ok (.getfield 11, 3) := by decide +kernel
theorem dX2_add_4 : decode cX2_add 4 = .ok (.aload_n 0, 1) := by decide +kernel
theorem dX2_add_5 : decode cX2_add 5 = .ok (.getfield 17, 3) := by decide +kernel
theorem dX2_add_8 : decode cX2_add 8 = .ok (.aload_n 0, 1) := by decide +kernel
theorem dX2_add_9 : decode cX2_add 9 = .ok (.getfield 21, 3) := by decide +kernel
theorem dX2_add_12 : decode cX2_add 12 = .ok (.iadd, 1) := by decide +kernel
theorem dX2_add_13 : decode cX2_add 13 = .ok (.iconst 4, 1) := by decide +kernel
theorem dX2_add_14 : decode cX2_add 14 = .ok (.irem, 1) := by decide +kernel
theorem dX2_add_15 : decode cX2_add 15 = .ok (.aaload, 1) := by decide +kernel
theorem dX2_add_16 : decode cX2_add 16 = .ok (.aload_n 1, 1) := by decide +kernel
theorem dX2_add_17 : decode cX2_add 17 = .ok (.invokevirtual 25, 3) := by decide +kernel
theorem dX2_add_20 : decode cX2_add 20 = .ok (.aload_n 0, 1) := by decide +kernel
theorem dX2_add_21 : decode cX2_add 21 = .ok (.getfield 21, 3) := by decide +kernel
theorem dX2_add_24 : decode cX2_add 24 = .ok (.iconst 4, 1) := by decide +kernel
theorem dX2_add_25 : decode cX2_add 25 = .ok (.if_icmp .ge 16, 3) := by decide +kernel
theorem dX2_add_28 : decode cX2_add 28 = .ok (.aload_n 0, 1) := by decide +kernel
theorem dX2_add_29 : decode cX2_add 29 = .ok (.dup, 1) := by decide +kernel
theorem dX2_add_30 : decode cX2_add 30 = .ok (.getfield 21, 3) := by decide +kernel
theorem dX2_add_33 : decode cX2_add 33 = .ok (.iconst 1, 1) := by decide +kernel
theorem dX2_add_34 : decode cX2_add 34 = .ok (.iadd, 1) := by decide +kernel
theorem dX2_add_35 : decode cX2_add 35 = .ok (.putfield 21, 3) := by decide +kernel
theorem dX2_add_38 : decode cX2_add 38 = .ok (.goto 15, 3) := by decide +kernel
theorem dX2_add_41 : decode cX2_add 41 = .ok (.aload_n 0, 1) := by decide +kernel
theorem dX2_add_42 : decode cX2_add 42 = .ok (.aload_n 0, 1) := by decide +kernel
theorem dX2_add_43 : decode cX2_add 43 = .ok (.getfield 17, 3) := by decide +kernel
theorem dX2_add_46 : decode cX2_add 46 = .ok (.iconst 1, 1) := by decide +kernel
theorem dX2_add_47 : decode cX2_add 47 = .ok (.iadd, 1) := by decide +kernel
theorem dX2_add_48 : decode cX2_add 48 = .ok (.iconst 4, 1) := by decide +kernel
theorem dX2_add_49 : decode cX2_add 49 = .ok (.irem, 1) := by decide +kernel
theorem dX2_add_50 : decode cX2_add 50 = .ok (.putfield 17, 3) := by decide +kernel
theorem dX2_add_53 : decode cX2_add 53 = .ok (.return_, 1) := by decide +kernel
theorem dX2_takeBack_0 : decode cX2_takeBack 0 = .ok (.aload_n 0, 1) := by decide +kernel
theorem dX2_takeBack_1 : decode cX2_takeBack 1 = .ok (.getfield 21, 3) := by decide +kernel
theorem dX2_takeBack_4 : decode cX2_takeBack 4 = .ok (.ifCond .gt 6, 3) := by decide +kernel
theorem dX2_takeBack_7 : decode cX2_takeBack 7 = .ok (.bipush (-5), 2) := by decide +kernel
theorem dX2_takeBack_9 : decode cX2_takeBack 9 = .ok (.ireturn, 1) := by decide +kernel
theorem dX2_takeBack_10 : decode cX2_takeBack 10 = .ok (.aload_n 0, 1) := by decide +kernel
theorem dX2_takeBack_11 : decode cX2_takeBack 11 = .ok (.dup, 1) := by decide +kernel
theorem dX2_takeBack_12 : decode cX2_takeBack 12 = .ok (.getfield 21, 3) := by decide +kernel
theorem dX2_takeBack_15 : decode cX2_takeBack 15 = .ok (.iconst 1, 1) := by decide +kernel
theorem dX2_takeBack_16 : decode cX2_takeBack 16 = .ok (.isub, 1) := by decide +kernel
theorem dX2_takeBack_17 : decode cX2_takeBack 17 = .ok (.putfield 21, 3) := by decide +kernel
theorem dX2_takeBack_20 : decode cX2_takeBack 20 = .ok (.aload_n 1, 1) := by decide +kernel
theorem dX2_takeBack_21 : decode cX2_takeBack 21 = .ok (.aload_n 0, 1) := by decide +kernel
theorem dX2_takeBack_22 : decode cX2_takeBack 22 = .ok (.getfield 11, 3) := by decide +kernel
theorem dX2_takeBack_25 : decode cX2_takeBack 25 = .ok (.aload_n 0, 1) := by decide +kernel
theorem dX2_takeBack_26 : decode cX2_takeBack 26 = .ok (.getfield 17, 3) := by decide +kernel
theorem dX2_takeBack_29 : decode cX2_takeBack 29 = .ok (.aload_n 0, 1) := by decide +kernel
theorem dX2_takeBack_30 : decode cX2_takeBack 30 = .ok (.getfield 21, 3) := by decide +kernel
theorem dX2_takeBack_33 : decode cX2_takeBack 33 = .ok (.iadd, 1) := by decide +kernel
theorem dX2_takeBack_34 : decode cX2_takeBack 34 = .ok (.iconst 4, 1) := by decide +kernel
theorem dX2_takeBack_35 : decode cX2_takeBack 35 = .ok (.irem, 1) := by decide +kernel
theorem dX2_takeBack_36 : decode cX2_takeBack 36 = .ok (.aaload, 1) := by decide +kernel
theorem dX2_takeBack_37 : decode cX2_takeBack 37 = .ok (.invokevirtual 25, 3) := by decide +kernel
theorem dX2_takeBack_40 : decode cX2_takeBack 40 = .ok (.aload_n 0, 1) := by decide +kernel
theorem dX2_takeBack_41 : decode cX2_takeBack 41 = .ok (.getfield 21, 3) := by decide +kernel
theorem dX2_takeBack_44 : decode cX2_takeBack 44 = .ok (.ireturn, 1) := by decide +kernel
theorem dX3_init_0 : decode cX3_init 0 = .ok (.aload_n 0, 1) := by decide +kernel
theorem dX3_init_1 : decode cX3_init 1 = .ok (.invokespecial 1, 3) := by decide +kernel
theorem dX3_init_4 : decode cX3_init 4 = .ok (.aload_n 0, 1) := by decide +kernel
theorem dX3_init_5 : decode cX3_init 5 = .ok (.bipush 112, 2) := by decide +kernel
theorem dX3_init_7 : decode cX3_init 7 = .ok (.putfield 7, 3) := by decide +kernel
theorem dX3_init_10 : decode cX3_init 10 = .ok (.aload_n 0, 1) := by decide +kernel
theorem dX3_init_11 : decode cX3_init 11 = .ok (.iconst 0, 1) := by decide +kernel
theorem dX3_init_12 : decode cX3_init 12 = .ok (.putfield 13, 3) := by decide +kernel
theorem dX3_init_15 : decode cX3_init 15 = .ok (.aload_n 0, 1) := by decide +kernel
theorem dX3_init_16 : decode cX3_init 16 = .ok (.iconst 0, 1) := by decide +kernel
theorem dX3_init_17 : decode cX3_init 17 = .ok (.putfield 17, 3) := by decide +kernel
theorem dX3_init_20 : decode cX3_init 20 = .ok (.return_, 1) := by decide +kernel
theorem dX4_init_0 : decode cX4_init 0 = .ok (.aload_n 0, 1) := by decide +kernel
theorem dX4_init_1 : decode cX4_init 1 = .ok (.invokespecial 3, 3) := by decide +kernel
theorem dX4_init_4 : decode cX4_init 4 = .ok (.aload_n 0, 1) := by decide +kernel
theorem dX4_init_5 : decode cX4_init 5 = .ok (.bipush 60, 2) := by decide +kernel
theorem dX4_init_7 : decode cX4_init 7 = .ok (.newarray .char, 2) := by decide +kernel
theorem dX4_init_9 : decode cX4_init 9 = .ok (.putfield 9, 3) := by decide +kernel
theorem dX4_init_12 : decode cX4_init 12 = .ok (.aload_n 0, 1) := by decide +kernel
theorem dX4_init_13 : decode cX4_init 13 = .ok (.iconst 0, 1) := by decide +kernel
theorem dX4_init_14 : decode cX4_init 14 = .ok (.putfield 15, 3) := by decide +kernel
theorem dX4_init_17 : decode cX4_init 17 = .ok (.aload_n 0, 1) := by decide +kernel
theorem dX4_init_18 : decode cX4_init 18 = .ok (.bipush 20, 2) := by decide +kernel
theorem dX4_init_20 : decode cX4_init 20 = .ok (.anewarray 19, 3) := by decide +kernel
theorem dX4_init_23 : decode cX4_init 23 = .ok (.putfield 21, 3) := by decide +kernel
theorem dX4_init_26 : decode cX4_init 26 = .ok (.aload_n 0, 1) := by decide +kernel
theorem dX4_init_27 : decode cX4_init 27 = .ok (.iconst 0, 1) := by decide +kernel
theorem dX4_init_28 : decode cX4_init 28 = .ok (.putfield 25, 3) := by decide +kernel
theorem dX4_init_31 : decode cX4_init 31 = .ok (.aload_n 0, 1) := by decide +kernel
theorem dX4_init_32 : decode cX4_init 32 = .ok (.iconst 0, 1) := by decide +kernel
theorem dX4_init_33 : decode cX4_init 33 = .ok (.putfield 28, 3) := by decide +kernel
theorem dX4_init_36 : decode cX4_init 36 = .ok (.iconst 0, 1) := by decide +kernel
theorem dX4_init_37 : decode cX4_init 37 = .ok (.istore_n 1, 1) := by decide +kernel
theorem dX4_init_38 : decode cX4_init 38 = .ok (.iload_n 1, 1) := by decide +kernel
theorem dX4_init_39 : decode cX4_init 39 = .ok (.aload_n 0, 1) := by decide +kernel
theorem dX4_init_40 : decode cX4_init 40 = .ok (.getfield 21, 3) := by decide +kernel
theorem dX4_init_43 : decode cX4_init 43 = .ok (.arraylength, 1) := by decide +kernel
theorem dX4_init_44 : decode cX4_init 44 = .ok (.if_icmp .ge 22, 3) := by decide +kernel
theorem dX4_init_47 : decode cX4_init 47 = .ok (.aload_n 0, 1) := by decide +kernel
theorem dX4_init_48 : decode cX4_init 48 = .ok (.getfield 21, 3) := by decide +kernel
theorem dX4_init_51 : decode cX4_init 51 = .ok (.iload_n 1, 1) := by decide +kernel
theorem dX4_init_52 : decode cX4_init 52 = .ok (.new 19, 3) := by decide +kernel
theorem dX4_init_55 : decode cX4_init 55 = .ok (.dup, 1) := by decide +kernel
theorem dX4_init_56 : decode cX4_init 56 = .ok (.invokespecial 31, 3) := by decide +kernel
theorem dX4_init_59 : decode cX4_init 59 = .ok (.aastore, 1) := by decide +kernel
theorem dX4_init_60 : decode cX4_init 60 = .ok (.iinc 1 1, 3) := by decide +kernel
theorem dX4_init_63 : decode cX4_init 63 = .ok (.goto (-25), 3) := by decide +kernel
theorem dX4_init_66 : decode cX4_init 66 = .ok (.return_, 1) := by decide +kernel
theorem dX5_init_0 : decode cX5_init 0 = .ok (.aload_n 0, 1) := by decide +kernel
theorem dX5_init_1 : decode cX5_init 1 = .ok (.invokespecial 3, 3) := by decide +kernel
theorem dX5_init_4 : decode cX5_init 4 = .ok (.aload_n 0, 1) := by decide +kernel
theorem dX5_init_5 : decode cX5_init 5 = .ok (.bipush 8, 2) := by decide +kernel
theorem dX5_init_7 : decode cX5_init 7 = .ok (.anewarray 9, 3) := by decide +kernel
theorem dX5_init_10 : decode cX5_init 10 = .ok (.putfield 11, 3) := by decide +kernel
theorem dX5_init_13 : decode cX5_init 13 = .ok (.aload_n 0, 1) := by decide +kernel
theorem dX5_init_14 : decode cX5_init 14 = .ok (.iconst 5, 1) := by decide +kernel
theorem dX5_init_15 : decode cX5_init 15 = .ok (.anewarray 17, 3) := by decide +kernel
theorem dX5_init_18 : decode cX5_init 18 = .ok (.putfield 19, 3) := by decide +kernel
theorem dX5_init_21 : decode cX5_init 21 = .ok (.aload_n 0, 1) := by decide +kernel
theorem dX5_init_22 : decode cX5_init 22 = .ok (.bipush 24, 2) := by decide +kernel
theorem dX5_init_24 : decode cX5_init 24 = .ok (.anewarray 23, 3) := by decide +kernel
theorem dX5_init_27 : decode cX5_init 27 = .ok (.putfield 25, 3) := by decide +kernel
theorem dX5_init_30 : decode cX5_init 30 = .ok (.aload_n 0, 1) := by decide +kernel
theorem dX5_init_31 : decode cX5_init 31 = .ok (.iconst 5, 1) := by decide +kernel
theorem dX5_init_32 : decode cX5_init 32 = .ok (.newarray .int, 2) := by decide +kernel
theorem dX5_init_34 : decode cX5_init 34 = .ok (.putfield 29, 3) := by decide +kernel
theorem dX5_init_37 : decode cX5_init 37 = .ok (.aload_n 0, 1) := by decide +kernel
theorem dX5_init_38 : decode cX5_init 38 = .ok (.iconst 0, 1) := by decide +kernel
theorem dX5_init_39 : decode cX5_init 39 = .ok (.putfield 33, 3) := by decide +kernel
theorem dX5_init_42 : decode cX5_init 42 = .ok (.aload_n 0, 1) := by decide +kernel
theorem dX5_init_43 : decode cX5_init 43 = .ok (.iconst 0, 1) := by decide +kernel
theorem dX5_init_44 : decode cX5_init 44 = .ok (.putfield 37, 3) := by decide +kernel
theorem dX5_init_47 : decode cX5_init 47 = .ok (.aload_n 0, 1) := by decide +kernel
theorem dX5_init_48 : decode cX5_init 48 = .ok (.iconst 0, 1) := by decide +kernel
theorem dX5_init_49 : decode cX5_init 49 = .ok (.putfield 40, 3) := by decide +kernel
theorem dX5_init_52 : decode cX5_init 52 = .ok (.aload_n 0, 1) := by decide +kernel
theorem dX5_init_53 : decode cX5_init 53 = .ok (.iconst 0, 1) := by decide +kernel
theorem dX5_init_54 : decode cX5_init 54 = .ok (.putfield 43, 3) := by decide +kernel
theorem dX5_init_57 : decode cX5_init 57 = .ok (.iconst 0, 1) := by decide +kernel
theorem dX5_init_58 : decode cX5_init 58 = .ok (.istore_n 1, 1) := by decide +kernel
theorem dX5_init_59 : decode cX5_init 59 = .ok (.iload_n 1, 1) := by decide +kernel
theorem dX5_init_60 : decode cX5_init 60 = .ok (.aload_n 0, 1) := by decide +kernel
theorem dX5_init_61 : decode cX5_init 61 = .ok (.getfield 11, 3) := by decide +kernel
theorem dX5_init_64 : decode cX5_init 64 = .ok (.arraylength, 1) := by decide +kernel
theorem dX5_init_65 : decode cX5_init 65 = .ok (.if_icmp .ge 22, 3) := by decide +kernel
theorem dX5_init_68 : decode cX5_init 68 = .ok (.aload_n 0, 1) := by decide +kernel
theorem dX5_init_69 : decode cX5_init 69 = .ok (.getfield 11, 3) := by decide +kernel
theorem dX5_init_72 : decode cX5_init 72 = .ok (.iload_n 1, 1) := by decide +kernel
theorem dX5_init_73 : decode cX5_init 73 = .ok (.new 9, 3) := by decide +kernel
theorem dX5_init_76 : decode cX5_init 76 = .ok (.dup, 1) := by decide +kernel
theorem dX5_init_77 : decode cX5_init 77 = .ok (.invokespecial 46, 3) := by decide +kernel
theorem dX5_init_80 : decode cX5_init 80 = .ok (.aastore, 1) := by decide +kernel
theorem dX5_init_81 : decode cX5_init 81 = .ok (.iinc 1 1, 3) := by decide +kernel
theorem dX5_init_84 : decode cX5_init 84 = .ok (.goto (-25), 3) := by decide +kernel
theorem dX5_init_87 : decode cX5_init 87 = .ok (.iconst 0, 1) := by decide +kernel
theorem dX5_init_88 : decode cX5_init 88 = .ok (.istore_n 1, 1) := by decide +kernel
theorem dX5_init_89 : decode cX5_init 89 = .ok (.iload_n 1, 1) := by decide +kernel
theorem dX5_init_90 : decode cX5_init 90 = .ok (.aload_n 0, 1) := by decide +kernel
theorem dX5_init_91 : decode cX5_init 91 = .ok (.getfield 19, 3) := by decide +kernel
theorem dX5_init_94 : decode cX5_init 94 = .ok (.arraylength, 1) := by decide +kernel
theorem dX5_init_95 : decode cX5_init 95 = .ok (.if_icmp .ge 22, 3) := by decide +kernel
theorem dX5_init_98 : decode cX5_init 98 = .ok (.aload_n 0, 1) := by decide +kernel
theorem dX5_init_99 : decode cX5_init 99 = .ok (.getfield 19, 3) := by decide +kernel
theorem dX5_init_102 : decode cX5_init 102 = .ok (.iload_n 1, 1) := by decide +kernel
theorem dX5_init_103 : decode cX5_init 103 = .ok (.new 17, 3) := by decide +kernel
theorem dX5_init_106 : decode cX5_init 106 = .ok (.dup, 1) := by decide +kernel
theorem dX5_init_107 : decode cX5_init 107 = .ok (.invokespecial 47, 3) := by decide +kernel
theorem dX5_init_110 : decode cX5_init 110 = .ok (.aastore, 1) := by decide +kernel
theorem dX5_init_111 : decode cX5_init 111 = .ok (.iinc 1 1, 3) := by decide +kernel
theorem dX5_init_114 : decode cX5_init 114 = .ok (.goto (-25), 3) := by decide +kernel
theorem dX5_init_117 : decode cX5_init 117 = .ok (.iconst 0, 1) := by decide +kernel
theorem dX5_init_118 : decode cX5_init 118 = .ok (.istore_n 1, 1) := by decide +kernel
theorem dX5_init_119 : decode cX5_init 119 = .ok (.iload_n 1, 1) := by decide +kernel
theorem dX5_init_120 : decode cX5_init 120 = .ok (.aload_n 0, 1) := by decide +kernel
theorem dX5_init_121 : decode cX5_init 121 = .ok (.getfield 25, 3) := by decide +kernel
theorem dX5_init_124 : decode cX5_init 124 = .ok (.arraylength, 1) := by decide +kernel
theorem dX5_init_125 : decode cX5_init 125 = .ok (.if_icmp .ge 22, 3) := by decide +kernel
theorem dX5_init_128 : decode cX5_init 128 = .ok (.aload_n 0, 1) := by decide +kernel
theorem dX5_init_129 : decode cX5_init 129 = .ok (.getfield 25, 3) := by decide +kernel
theorem dX5_init_132 : decode cX5_init 132 = .ok (.iload_n 1, 1) := by decide +kernel
theorem dX5_init_133 : decode cX5_init 133 = .ok (.new 23, 3) := by decide +kernel
theorem dX5_init_136 : decode cX5_init 136 = .ok (.dup, 1) := by decide +kernel
theorem dX5_init_137 : decode cX5_init 137 = .ok (.invokespecial 48, 3) := by decide +kernel
theorem dX5_init_140 : decode cX5_init 140 = .ok (.aastore, 1) := by decide +kernel
theorem dX5_init_141 : decode cX5_init 141 = .ok (.iinc 1 1, 3) := by decide +kernel
theorem dX5_init_144 : decode cX5_init 144 = .ok (.goto (-25), 3) := by decide +kernel
theorem dX5_init_147 : decode cX5_init 147 = .ok (.return_, 1) := by decide +kernel
theorem dX5_copyFrom_0 : decode cX5_copyFrom 0 = .ok (.iconst 0, 1) := by decide +kernel
theorem dX5_copyFrom_1 : decode cX5_copyFrom 1 = .ok (.istore_n 2, 1) := by decide +kernel
theorem dX5_copyFrom_2 : decode cX5_copyFrom 2 = .ok (.iload_n 2, 1) := by decide +kernel
theorem dX5_copyFrom_3 : decode cX5_copyFrom 3 = .ok (.aload_n 0, 1) := by decide +kernel
theorem dX5_copyFrom_4 : decode cX5_copyFrom 4 = .ok (.getfield 11, 3) := by decide +kernel
theorem dX5_copyFrom_7 : decode cX5_copyFrom 7 = .ok (.arraylength, 1) := by decide +kernel
theorem dX5_copyFrom_8 : decode cX5_copyFrom 8 = .ok (.if_icmp .ge 24, 3) := by decide +kernel
theorem dX5_copyFrom_11 : decode cX5_copyFrom 11 = .ok (.aload_n 0, 1) := by decide +kernel
theorem dX5_copyFrom_12 : decode cX5_copyFrom 12 = .ok (.getfield 11, 3) := by decide +kernel
theorem dX5_copyFrom_15 : decode cX5_copyFrom 15 = .ok (.iload_n 2, 1) := by decide +kernel
theorem dX5_copyFrom_16 : decode cX5_copyFrom 16 = .ok (.aaload, 1) := by decide +kernel
theorem dX5_copyFrom_17 : decode cX5_copyFrom 17 = .ok (.aload_n 1, 1) := by decide +kernel
theorem dX5_copyFrom_18 : decode cX5_copyFrom 18 = .ok (.getfield 11, 3) := by decide +kernel
theorem dX5_copyFrom_21 : decode cX5_copyFrom 21 = .ok (.iload_n 2, 1) := by decide +kernel
theorem dX5_copyFrom_22 : decode cX5_copyFrom 22 = .ok (.aaload, 1) := by decide +kernel
theorem dX5_copyFrom_23 : decode cX5_copyFrom 23 = .ok (.invokevirtual 49, 3) := by decide +kernel
theorem dX5_copyFrom_26 : decode cX5_copyFrom 26 = .ok (.iinc 2 1, 3) := by decide +kernel
theorem dX5_copyFrom_29 : decode cX5_copyFrom 29 = .ok (.goto (-27), 3) := by decide +kernel
theorem dX5_copyFrom_32 : decode cX5_copyFrom 32 = .ok (.iconst 0, 1) := by decide +kernel
theorem dX5_copyFrom_33 : decode cX5_copyFrom 33 = .ok (.istore_n 2, 1) := by decide +kernel
theorem dX5_copyFrom_34 : decode cX5_copyFrom 34 = .ok (.iload_n 2, 1) := by decide +kernel
theorem dX5_copyFrom_35 : decode cX5_copyFrom 35 = .ok (.aload_n 0, 1) := by decide +kernel
theorem dX5_copyFrom_36 : decode cX5_copyFrom 36 = .ok (.getfield 19, 3) := by decide +kernel
theorem dX5_copyFrom_39 : decode cX5_copyFrom 39 = .ok (.arraylength, 1) := by decide +kernel
theorem dX5_copyFrom_40 : decode cX5_copyFrom 40 = .ok (.if_icmp .ge 24, 3) := by decide +kernel
theorem dX5_copyFrom_43 : decode cX5_copyFrom 43 = .ok (.aload_n 0, 1) := by decide +kernel
theorem dX5_copyFrom_44 : decode cX5_copyFrom 44 = .ok (.getfield 19, 3) := by decide +kernel
theorem dX5_copyFrom_47 : decode cX5_copyFrom 47 = .ok (.iload_n 2, 1) := by decide +kernel
theorem dX5_copyFrom_48 : decode cX5_copyFrom 48 = .ok (.aaload, 1) := by decide +kernel
theorem dX5_copyFrom_49 : decode cX5_copyFrom 49 = .ok (.aload_n 1, 1) := by decide +kernel
theorem dX5_copyFrom_50 : decode cX5_copyFrom 50 = .ok (.getfield 19, 3) := by decide +kernel
theorem dX5_copyFrom_53 : decode cX5_copyFrom 53 = .ok (.iload_n 2, 1) := by decide +kernel
theorem dX5_copyFrom_54 : decode cX5_copyFrom 54 = .ok (.aaload, 1) := by decide +kernel
theorem dX5_copyFrom_55 : decode cX5_copyFrom 55 = .ok (.invokevirtual 53, 3) := by decide +kernel
theorem dX5_copyFrom_58 : decode cX5_copyFrom 58 = .ok (.iinc 2 1, 3) := by decide +kernel
theorem dX5_copyFrom_61 : decode cX5_copyFrom 61 = .ok (.goto (-27), 3) := by decide +kernel
theorem dX5_copyFrom_64 : decode cX5_copyFrom 64 = .ok (.iconst 0, 1) := by decide +kernel
theorem dX5_copyFrom_65 : decode cX5_copyFrom 65 = .ok (.istore_n 2, 1) := by decide +kernel
theorem dX5_copyFrom_66 : decode cX5_copyFrom 66 = .ok (.iload_n 2, 1) := by decide +kernel
theorem dX5_copyFrom_67 : decode cX5_copyFrom 67 = .ok (.aload_n 0, 1) := by decide +kernel
theorem dX5_copyFrom_68 : decode cX5_copyFrom 68 = .ok (.getfield 25, 3) := by decide +kernel
theorem dX5_copyFrom_71 : decode cX5_copyFrom 71 = .ok (.arraylength, 1) := by decide +kernel
theorem dX5_copyFrom_72 : decode cX5_copyFrom 72 = .ok (.if_icmp .ge 24, 3) := by decide +kernel
theorem dX5_copyFrom_75 : decode cX5_copyFrom 75 = .ok (.aload_n 0, 1) := by decide +kernel
theorem dX5_copyFrom_76 : decode cX5_copyFrom 76 = .ok (.getfield 25, 3) := by decide +kernel
theorem dX5_copyFrom_79 : decode cX5_copyFrom 79 = .ok (.iload_n 2, 1) := by decide +kernel
theorem dX5_copyFrom_80 : decode cX5_copyFrom 80 = .ok (.aaload, 1) := by decide +kernel
theorem dX5_copyFrom_81 : decode cX5_copyFrom 81 = .ok (.aload_n 1, 1) := by decide +kernel
theorem dX5_copyFrom_82 : decode cX5_copyFrom 82 = .ok (.getfield 25, 3) := by decide +kernel
theorem dX5_copyFrom_85 : decode cX5_copyFrom 85 = .ok (.iload_n 2, 1) := by decide +kernel
theorem dX5_copyFrom_86 : decode cX5_copyFrom 86 = .ok (.aaload, 1) := by decide +kernel
theorem dX5_copyFrom_87 : decode cX5_copyFrom 87 = .ok (.invokevirtual 56, 3) := by decide +kernel
theorem dX5_copyFrom_90 : decode cX5_copyFrom 90 = .ok (.iinc 2 1, 3) := by decide +kernel
theorem dX5_copyFrom_93 : decode cX5_copyFrom 93 = .ok (.goto (-27), 3) := by decide +kernel
theorem dX5_copyFrom_96 : decode cX5_copyFrom 96 = .ok (.iconst 0, 1) := by decide +kernel
theorem dX5_copyFrom_97 : decode cX5_copyFrom 97 = .ok (.istore_n 2, 1) := by decide +kernel
theorem dX5_copyFrom_98 : decode cX5_copyFrom 98 = .ok (.iload_n 2, 1) := by decide +kernel
theorem dX5_copyFrom_99 : decode cX5_copyFrom 99 = .ok (.aload_n 0, 1) := by decide +kernel
theorem dX5_copyFrom_100 : decode cX5_copyFrom 100 = .ok (.getfield 29, 3) := by decide +kernel
theorem dX5_copyFrom_103 : decode cX5_copyFrom 103 = .ok (.arraylength, 1) := by decide +kernel
theorem dX5_copyFrom_104 : decode cX5_copyFrom 104 = .ok (.if_icmp .ge 21, 3) := by decide +kernel
theorem dX5_copyFrom_107 : decode cX5_copyFrom 107 = .ok (.aload_n 0, 1) := by decide +kernel
theorem dX5_copyFrom_108 : decode cX5_copyFrom 108 = .ok (.getfield 29, 3) := by decide +kernel
theorem dX5_copyFrom_111 : decode cX5_copyFrom 111 = .ok (.iload_n 2, 1) := by decide +kernel
theorem dX5_copyFrom_112 : decode cX5_copyFrom 112 = .ok (.aload_n 1, 1) := by decide +kernel
theorem dX5_copyFrom_113 : decode cX5_copyFrom 113 = .ok (.getfield 29, 3) := by decide +kernel
theorem dX5_copyFrom_116 : decode cX5_copyFrom 116 = .ok (.iload_n 2, 1) := by decide +kernel
theorem dX5_copyFrom_117 : decode cX5_copyFrom 117 = .ok (.iaload, 1) := by decide +kernel
theorem dX5_copyFrom_118 : decode cX5_copyFrom 118 = .ok (.iastore, 1) := by decide +kernel
theorem dX5_copyFrom_119 : decode cX5_copyFrom 119 = .ok (.iinc 2 1, 3) := by decide +kernel
theorem dX5_copyFrom_122 : decode cX5_copyFrom 122 = .ok (.goto (-24), 3) := by decide +kernel
theorem dX5_copyFrom_125 : decode cX5_copyFrom 125 = .ok (.aload_n 0, 1) := by decide +kernel
theorem dX5_copyFrom_126 : decode cX5_copyFrom 126 = .ok (.aload_n 1, 1) := by decide +kernel
theorem dX5_copyFrom_127 : decode cX5_copyFrom 127 = .ok (.getfield 33, 3) := by decide +kernel
theorem dX5_copyFrom_130 : decode cX5_copyFrom 130 = .ok (.putfield 33, 3) := by decide +kernel
theorem dX5_copyFrom_133 : decode cX5_copyFrom 133 = .ok (.aload_n 0, 1) := by decide +kernel
theorem dX5_copyFrom_134 : decode cX5_copyFrom 134 = .ok (.aload_n 1, 1) := by decide +kernel
theorem dX5_copyFrom_135 : decode cX5_copyFrom 135 = .ok (.getfield 37, 3) := by decide +kernel
theorem dX5_copyFrom_138 : decode cX5_copyFrom 138 = .ok (.putfield 37, 3) := by decide +kernel
theorem dX5_copyFrom_141 : decode cX5_copyFrom 141 = .ok (.aload_n 0, 1) := by decide +kernel
theorem dX5_copyFrom_142 : decode cX5_copyFrom 142 = .ok (.aload_n 1, 1) := by decide +kernel
theorem dX5_copyFrom_143 : decode cX5_copyFrom 143 = .ok (.getfield 40, 3) := by decide +kernel
theorem dX5_copyFrom_146 : decode cX5_copyFrom 146 = .ok (.putfield 40, 3) := by decide +kernel
theorem dX5_copyFrom_149 : decode cX5_copyFrom 149 = .ok (.aload_n 0, 1) := by decide +kernel
theorem dX5_copyFrom_150 : decode cX5_copyFrom 150 = .ok (.aload_n 1, 1) := by decide +kernel
theorem dX5_copyFrom_151 : decode cX5_copyFrom 151 = .ok (.getfield 43, 3) := by decide +kernel
theorem dX5_copyFrom_154 : decode cX5_copyFrom 154 = .ok (.putfield 43, 3) := by decide +kernel
theorem dX5_copyFrom_157 : decode cX5_copyFrom 157 = .ok (.return_, 1) := by decide +kernel
theorem dX5_hasAsset_0 : decode cX5_hasAsset 0 = .ok (.iload_n 1, 1) := by decide +kernel
theorem dX5_hasAsset_1 : decode cX5_hasAsset 1 = .ok (.ifCond .lt 15, 3) := by decide +kernel
theorem dX5_hasAsset_4 : decode cX5_hasAsset 4 = .ok (.iload_n 1, 1) := by decide +kernel
theorem dX5_hasAsset_5 : decode cX5_hasAsset 5 = .ok (.aload_n 0, 1) := by decide +kernel
theorem dX5_hasAsset_6 : decode cX5_hasAsset 6 = .ok (.getfield 33, 3) := by decide +kernel
theorem dX5_hasAsset_9 : decode cX5_hasAsset 9 = .ok (.if_icmp .ge 7, 3) := by decide +kernel
theorem dX5_hasAsset_12 : decode cX5_hasAsset 12 = .ok (.iconst 1, 1) := by decide +kernel
theorem dX5_hasAsset_13 : decode cX5_hasAsset 13 = .ok (.goto 4, 3) := by decide +kernel
theorem dX5_hasAsset_16 : decode cX5_hasAsset 16 = .ok (.iconst 0, 1) := by decide +kernel
theorem dX5_hasAsset_17 : decode cX5_hasAsset 17 = .ok (.ireturn, 1) := by decide +kernel
theorem dX5_hasCrew_0 : decode cX5_hasCrew 0 = .ok (.iload_n 1, 1) := by decide +kernel
theorem dX5_hasCrew_1 : decode cX5_hasCrew 1 = .ok (.ifCond .lt 15, 3) := by decide +kernel
theorem dX5_hasCrew_4 : decode cX5_hasCrew 4 = .ok (.iload_n 1, 1) := by decide +kernel
theorem dX5_hasCrew_5 : decode cX5_hasCrew 5 = .ok (.aload_n 0, 1) := by decide +kernel
theorem dX5_hasCrew_6 : decode cX5_hasCrew 6 = .ok (.getfield 37, 3) := by decide +kernel
theorem dX5_hasCrew_9 : decode cX5_hasCrew 9 = .ok (.if_icmp .ge 7, 3) := by decide +kernel
theorem dX5_hasCrew_12 : decode cX5_hasCrew 12 = .ok (.iconst 1, 1) := by decide +kernel
theorem dX5_hasCrew_13 : decode cX5_hasCrew 13 = .ok (.goto 4, 3) := by decide +kernel
theorem dX5_hasCrew_16 : decode cX5_hasCrew 16 = .ok (.iconst 0, 1) := by decide +kernel
theorem dX5_hasCrew_17 : decode cX5_hasCrew 17 = .ok (.ireturn, 1) := by decide +kernel
theorem dX5_hasTask_0 : decode cX5_hasTask 0 = .ok (.iload_n 1, 1) := by decide +kernel
theorem dX5_hasTask_1 : decode cX5_hasTask 1 = .ok (.ifCond .lt 15, 3) := by decide +kernel
theorem dX5_hasTask_4 : decode cX5_hasTask 4 = .ok (.iload_n 1, 1) := by decide +kernel
theorem dX5_hasTask_5 : decode cX5_hasTask 5 = .ok (.aload_n 0, 1) := by decide +kernel
theorem dX5_hasTask_6 : decode cX5_hasTask 6 = .ok (.getfield 40, 3) := by decide +kernel
theorem dX5_hasTask_9 : decode cX5_hasTask 9 = .ok (.if_icmp .ge 7, 3) := by decide +kernel
theorem dX5_hasTask_12 : decode cX5_hasTask 12 = .ok (.iconst 1, 1) := by decide +kernel
theorem dX5_hasTask_13 : decode cX5_hasTask 13 = .ok (.goto 4, 3) := by decide +kernel
theorem dX5_hasTask_16 : decode cX5_hasTask 16 = .ok (.iconst 0, 1) := by decide +kernel
theorem dX5_hasTask_17 : decode cX5_hasTask 17 = .ok (.ireturn, 1) := by decide +kernel
theorem dX5_newAsset_0 : decode cX5_newAsset 0 = .ok (.iload_n 1, 1) := by decide +kernel
theorem dX5_newAsset_1 : decode cX5_newAsset 1 = .ok (.iconst 1, 1) := by decide +kernel
theorem dX5_newAsset_2 : decode cX5_newAsset 2 = .ok (.bipush 100, 2) := by decide +kernel
theorem dX5_newAsset_4 : decode cX5_newAsset 4 = .ok (.invokestatic 59, 3) := by decide +kernel
theorem dX5_newAsset_7 : decode cX5_newAsset 7 = .ok (.ifCond .eq 14, 3) := by decide +kernel
theorem dX5_newAsset_10 : decode cX5_newAsset 10 = .ok (.iload_n 2, 1) := by decide +kernel
theorem dX5_newAsset_11 : decode cX5_newAsset 11 = .ok (.iconst 1, 1) := by decide +kernel
theorem dX5_newAsset_12 : decode cX5_newAsset 12 = .ok (.sipush 200, 3) := by decide +kernel
theorem dX5_newAsset_15 : decode cX5_newAsset 15 = .ok (.invokestatic 59, 3) := by decide +kernel
theorem dX5_newAsset_18 : decode cX5_newAsset 18 = .ok (.ifCond .ne 6, 3) := by decide +kernel
theorem dX5_newAsset_21 : decode cX5_newAsset 21 = .ok (.bipush (-2), 2) := by decide +kernel
theorem dX5_newAsset_23 : decode cX5_newAsset 23 = .ok (.ireturn, 1) := by decide +kernel
theorem dX5_newAsset_24 : decode cX5_newAsset 24 = .ok (.aload_n 0, 1) := by decide +kernel
theorem dX5_newAsset_25 : decode cX5_newAsset 25 = .ok (.getfield 33, 3) := by decide +kernel
theorem dX5_newAsset_28 : decode cX5_newAsset 28 = .ok (.aload_n 0, 1) := by decide +kernel
theorem dX5_newAsset_29 : decode cX5_newAsset 29 = .ok (.getfield 11, 3) := by decide +kernel
theorem dX5_newAsset_32 : decode cX5_newAsset 32 = .ok (.arraylength, 1) := by decide +kernel
theorem dX5_newAsset_33 : decode cX5_newAsset 33 = .ok (.if_icmp .lt 6, 3) := by decide +kernel
theorem dX5_newAsset_36 : decode cX5_newAsset 36 = .ok (.bipush (-3), 2) := by decide +kernel
theorem dX5_newAsset_38 : decode cX5_newAsset 38 = .ok (.ireturn, 1) := by decide +kernel
theorem dX5_newAsset_39 : decode cX5_newAsset 39 = .ok (.aload_n 0, 1) := by decide +kernel
theorem dX5_newAsset_40 : decode cX5_newAsset 40 = .ok (.getfield 11, 3) := by decide +kernel
theorem dX5_newAsset_43 : decode cX5_newAsset 43 = .ok (.aload_n 0, 1) := by decide +kernel
theorem dX5_newAsset_44 : decode cX5_newAsset 44 = .ok (.getfield 33, 3) := by decide +kernel
theorem dX5_newAsset_47 : decode cX5_newAsset 47 = .ok (.aaload, 1) := by decide +kernel
theorem dX5_newAsset_48 : decode cX5_newAsset 48 = .ok (.iload_n 1, 1) := by decide +kernel
theorem dX5_newAsset_49 : decode cX5_newAsset 49 = .ok (.iload_n 2, 1) := by decide +kernel
theorem dX5_newAsset_50 : decode cX5_newAsset 50 = .ok (.invokevirtual 63, 3) := by decide +kernel
theorem dX5_newAsset_53 : decode cX5_newAsset 53 = .ok (.aload_n 0, 1) := by decide +kernel
theorem dX5_newAsset_54 : decode cX5_newAsset 54 = .ok (.dup, 1) := by decide +kernel
theorem dX5_newAsset_55 : decode cX5_newAsset 55 = .ok (.getfield 33, 3) := by decide +kernel
theorem dX5_newAsset_58 : decode cX5_newAsset 58 = .ok (.iconst 1, 1) := by decide +kernel
theorem dX5_newAsset_59 : decode cX5_newAsset 59 = .ok (.iadd, 1) := by decide +kernel
theorem dX5_newAsset_60 : decode cX5_newAsset 60 = .ok (.putfield 33, 3) := by decide +kernel
theorem dX5_newAsset_63 : decode cX5_newAsset 63 = .ok (.aload_n 0, 1) := by decide +kernel
theorem dX5_newAsset_64 : decode cX5_newAsset 64 = .ok (.getfield 33, 3) := by decide +kernel
theorem dX5_newAsset_67 : decode cX5_newAsset 67 = .ok (.iconst 1, 1) := by decide +kernel
theorem dX5_newAsset_68 : decode cX5_newAsset 68 = .ok (.isub, 1) := by decide +kernel
theorem dX5_newAsset_69 : decode cX5_newAsset 69 = .ok (.ireturn, 1) := by decide +kernel
theorem dX5_setLink_0 : decode cX5_setLink 0 = .ok (.aload_n 0, 1) := by decide +kernel
theorem dX5_setLink_1 : decode cX5_setLink 1 = .ok (.iload_n 1, 1) := by decide +kernel
theorem dX5_setLink_2 : decode cX5_setLink 2 = .ok (.invokevirtual 67, 3) := by decide +kernel
theorem dX5_setLink_5 : decode cX5_setLink 5 = .ok (.ifCond .eq 11, 3) := by decide +kernel
theorem dX5_setLink_8 : decode cX5_setLink 8 = .ok (.aload_n 0, 1) := by decide +kernel
theorem dX5_setLink_9 : decode cX5_setLink 9 = .ok (.iload_n 2, 1) := by decide +kernel
theorem dX5_setLink_10 : decode cX5_setLink 10 = .ok (.invokevirtual 67, 3) := by decide +kernel
theorem dX5_setLink_13 : decode cX5_setLink 13 = .ok (.ifCond .ne 5, 3) := by decide +kernel
theorem dX5_setLink_16 : decode cX5_setLink 16 = .ok (.iconst (-1), 1) := by decide +kernel
theorem dX5_setLink_17 : decode cX5_setLink 17 = .ok (.ireturn, 1) := by decide +kernel
theorem dX5_setLink_18 : decode cX5_setLink 18 = .ok (.iload_n 1, 1) := by decide +kernel
theorem dX5_setLink_19 : decode cX5_setLink 19 = .ok (.iload_n 2, 1) := by decide +kernel
theorem dX5_setLink_20 : decode cX5_setLink 20 = .ok (.if_icmp .ne 6, 3) := by decide +kernel
theorem dX5_setLink_23 : decode cX5_setLink 23 = .ok (.bipush (-2), 2) := by decide +kernel
theorem dX5_setLink_25 : decode cX5_setLink 25 = .ok (.ireturn, 1) := by decide +kernel
theorem dX5_setLink_26 : decode cX5_setLink 26 = .ok (.aload_n 0, 1) := by decide +kernel
theorem dX5_setLink_27 : decode cX5_setLink 27 = .ok (.getfield 11, 3) := by decide +kernel
theorem dX5_setLink_30 : decode cX5_setLink 30 = .ok (.iload_n 1, 1) := by decide +kernel
theorem dX5_setLink_31 : decode cX5_setLink 31 = .ok (.aaload, 1) := by decide +kernel
theorem dX5_setLink_32 : decode cX5_setLink 32 = .ok (.iload_n 2, 1) := by decide +kernel
theorem dX5_setLink_33 : decode cX5_setLink 33 = .ok (.invokevirtual 71, 3) := by decide +kernel
theorem dX5_setLink_36 : decode cX5_setLink 36 = .ok (.iload_n 3, 1) := by decide +kernel
theorem dX5_setLink_37 : decode cX5_setLink 37 = .ok (.if_icmp .ne 6, 3) := by decide +kernel
theorem dX5_setLink_40 : decode cX5_setLink 40 = .ok (.bipush (-5), 2) := by decide +kernel
theorem dX5_setLink_42 : decode cX5_setLink 42 = .ok (.ireturn, 1) := by decide +kernel
theorem dX5_setLink_43 : decode cX5_setLink 43 = .ok (.aload_n 0, 1) := by decide +kernel
theorem dX5_setLink_44 : decode cX5_setLink 44 = .ok (.getfield 11, 3) := by decide +kernel
theorem dX5_setLink_47 : decode cX5_setLink 47 = .ok (.iload_n 1, 1) := by decide +kernel
theorem dX5_setLink_48 : decode cX5_setLink 48 = .ok (.aaload, 1) := by decide +kernel
theorem dX5_setLink_49 : decode cX5_setLink 49 = .ok (.dup, 1) := by decide +kernel
theorem dX5_setLink_50 : decode cX5_setLink 50 = .ok (.getfield 74, 3) := by decide +kernel
theorem dX5_setLink_53 : decode cX5_setLink 53 = .ok (.iconst 1, 1) := by decide +kernel
theorem dX5_setLink_54 : decode cX5_setLink 54 = .ok (.iload_n 2, 1) := by decide +kernel
theorem dX5_setLink_55 : decode cX5_setLink 55 = .ok (.ishl, 1) := by decide +kernel
theorem dX5_setLink_56 : decode cX5_setLink 56 = .ok (.ixor, 1) := by decide +kernel
theorem dX5_setLink_57 : decode cX5_setLink 57 = .ok (.putfield 74, 3) := by decide +kernel
theorem dX5_setLink_60 : decode cX5_setLink 60 = .ok (.aload_n 0, 1) := by decide +kernel
theorem dX5_setLink_61 : decode cX5_setLink 61 = .ok (.getfield 11, 3) := by decide +kernel
theorem dX5_setLink_64 : decode cX5_setLink 64 = .ok (.iload_n 2, 1) := by decide +kernel
theorem dX5_setLink_65 : decode cX5_setLink 65 = .ok (.aaload, 1) := by decide +kernel
theorem dX5_setLink_66 : decode cX5_setLink 66 = .ok (.dup, 1) := by decide +kernel
theorem dX5_setLink_67 : decode cX5_setLink 67 = .ok (.getfield 74, 3) := by decide +kernel
theorem dX5_setLink_70 : decode cX5_setLink 70 = .ok (.iconst 1, 1) := by decide +kernel
theorem dX5_setLink_71 : decode cX5_setLink 71 = .ok (.iload_n 1, 1) := by decide +kernel
theorem dX5_setLink_72 : decode cX5_setLink 72 = .ok (.ishl, 1) := by decide +kernel
theorem dX5_setLink_73 : decode cX5_setLink 73 = .ok (.ixor, 1) := by decide +kernel
theorem dX5_setLink_74 : decode cX5_setLink 74 = .ok (.putfield 74, 3) := by decide +kernel
theorem dX5_setLink_77 : decode cX5_setLink 77 = .ok (.aload_n 0, 1) := by decide +kernel
theorem dX5_setLink_78 : decode cX5_setLink 78 = .ok (.getfield 11, 3) := by decide +kernel
theorem dX5_setLink_81 : decode cX5_setLink 81 = .ok (.iload_n 1, 1) := by decide +kernel
theorem dX5_setLink_82 : decode cX5_setLink 82 = .ok (.aaload, 1) := by decide +kernel
theorem dX5_setLink_83 : decode cX5_setLink 83 = .ok (.getfield 74, 3) := by decide +kernel
theorem dX5_setLink_86 : decode cX5_setLink 86 = .ok (.invokestatic 77, 3) := by decide +kernel
theorem dX5_setLink_89 : decode cX5_setLink 89 = .ok (.ireturn, 1) := by decide +kernel
theorem dX5_setBar_0 : decode cX5_setBar 0 = .ok (.iload_n 1, 1) := by decide +kernel
theorem dX5_setBar_1 : decode cX5_setBar 1 = .ok (.iconst 0, 1) := by decide +kernel
theorem dX5_setBar_2 : decode cX5_setBar 2 = .ok (.aload_n 0, 1) := by decide +kernel
theorem dX5_setBar_3 : decode cX5_setBar 3 = .ok (.getfield 29, 3) := by decide +kernel
theorem dX5_setBar_6 : decode cX5_setBar 6 = .ok (.arraylength, 1) := by decide +kernel
theorem dX5_setBar_7 : decode cX5_setBar 7 = .ok (.iconst 1, 1) := by decide +kernel
theorem dX5_setBar_8 : decode cX5_setBar 8 = .ok (.isub, 1) := by decide +kernel
theorem dX5_setBar_9 : decode cX5_setBar 9 = .ok (.invokestatic 59, 3) := by decide +kernel
theorem dX5_setBar_12 : decode cX5_setBar 12 = .ok (.ifCond .eq 18, 3) := by decide +kernel
theorem dX5_setBar_15 : decode cX5_setBar 15 = .ok (.iload_n 2, 1) := by decide +kernel
theorem dX5_setBar_16 : decode cX5_setBar 16 = .ok (.iconst 0, 1) := by decide +kernel
theorem dX5_setBar_17 : decode cX5_setBar 17 = .ok (.aload_n 0, 1) := by decide +kernel
theorem dX5_setBar_18 : decode cX5_setBar 18 = .ok (.getfield 29, 3) := by decide +kernel
theorem dX5_setBar_21 : decode cX5_setBar 21 = .ok (.arraylength, 1) := by decide +kernel
theorem dX5_setBar_22 : decode cX5_setBar 22 = .ok (.iconst 1, 1) := by decide +kernel
theorem dX5_setBar_23 : decode cX5_setBar 23 = .ok (.isub, 1) := by decide +kernel
theorem dX5_setBar_24 : decode cX5_setBar 24 = .ok (.invokestatic 59, 3) := by decide +kernel
theorem dX5_setBar_27 : decode cX5_setBar 27 = .ok (.ifCond .ne 6, 3) := by decide +kernel
theorem dX5_setBar_30 : decode cX5_setBar 30 = .ok (.bipush (-2), 2) := by decide +kernel
theorem dX5_setBar_32 : decode cX5_setBar 32 = .ok (.ireturn, 1) := by decide +kernel
theorem dX5_setBar_33 : decode cX5_setBar 33 = .ok (.aload_n 0, 1) := by decide +kernel
theorem dX5_setBar_34 : decode cX5_setBar 34 = .ok (.iload_n 1, 1) := by decide +kernel
theorem dX5_setBar_35 : decode cX5_setBar 35 = .ok (.iload_n 2, 1) := by decide +kernel
theorem dX5_setBar_36 : decode cX5_setBar 36 = .ok (.invokevirtual 83, 3) := by decide +kernel
theorem dX5_setBar_39 : decode cX5_setBar 39 = .ok (.iload_n 3, 1) := by decide +kernel
theorem dX5_setBar_40 : decode cX5_setBar 40 = .ok (.if_icmp .ne 6, 3) := by decide +kernel
theorem dX5_setBar_43 : decode cX5_setBar 43 = .ok (.bipush (-5), 2) := by decide +kernel
theorem dX5_setBar_45 : decode cX5_setBar 45 = .ok (.ireturn, 1) := by decide +kernel
theorem dX5_setBar_46 : decode cX5_setBar 46 = .ok (.aload_n 0, 1) := by decide +kernel
theorem dX5_setBar_47 : decode cX5_setBar 47 = .ok (.getfield 29, 3) := by decide +kernel
theorem dX5_setBar_50 : decode cX5_setBar 50 = .ok (.iload_n 1, 1) := by decide +kernel
theorem dX5_setBar_51 : decode cX5_setBar 51 = .ok (.dup2, 1) := by decide +kernel
theorem dX5_setBar_52 : decode cX5_setBar 52 = .ok (.iaload, 1) := by decide +kernel
theorem dX5_setBar_53 : decode cX5_setBar 53 = .ok (.iconst 1, 1) := by decide +kernel
theorem dX5_setBar_54 : decode cX5_setBar 54 = .ok (.iload_n 2, 1) := by decide +kernel
theorem dX5_setBar_55 : decode cX5_setBar 55 = .ok (.ishl, 1) := by decide +kernel
theorem dX5_setBar_56 : decode cX5_setBar 56 = .ok (.ixor, 1) := by decide +kernel
theorem dX5_setBar_57 : decode cX5_setBar 57 = .ok (.iastore, 1) := by decide +kernel
theorem dX5_setBar_58 : decode cX5_setBar 58 = .ok (.iload_n 1, 1) := by decide +kernel
theorem dX5_setBar_59 : decode cX5_setBar 59 = .ok (.iload_n 2, 1) := by decide +kernel
theorem dX5_setBar_60 : decode cX5_setBar 60 = .ok (.if_icmp .eq 15, 3) := by decide +kernel
theorem dX5_setBar_63 : decode cX5_setBar 63 = .ok (.aload_n 0, 1) := by decide +kernel
theorem dX5_setBar_64 : decode cX5_setBar 64 = .ok (.getfield 29, 3) := by decide +kernel
theorem dX5_setBar_67 : decode cX5_setBar 67 = .ok (.iload_n 2, 1) := by decide +kernel
theorem dX5_setBar_68 : decode cX5_setBar 68 = .ok (.dup2, 1) := by decide +kernel
theorem dX5_setBar_69 : decode cX5_setBar 69 = .ok (.iaload, 1) := by decide +kernel
theorem dX5_setBar_70 : decode cX5_setBar 70 = .ok (.iconst 1, 1) := by decide +kernel
theorem dX5_setBar_71 : decode cX5_setBar 71 = .ok (.iload_n 1, 1) := by decide +kernel
theorem dX5_setBar_72 : decode cX5_setBar 72 = .ok (.ishl, 1) := by decide +kernel
theorem dX5_setBar_73 : decode cX5_setBar 73 = .ok (.ixor, 1) := by decide +kernel
theorem dX5_setBar_74 : decode cX5_setBar 74 = .ok (.iastore, 1) := by decide +kernel
theorem dX5_setBar_75 : decode cX5_setBar 75 = .ok (.aload_n 0, 1) := by decide +kernel
theorem dX5_setBar_76 : decode cX5_setBar 76 = .ok (.getfield 29, 3) := by decide +kernel
theorem dX5_setBar_79 : decode cX5_setBar 79 = .ok (.iload_n 1, 1) := by decide +kernel
theorem dX5_setBar_80 : decode cX5_setBar 80 = .ok (.iaload, 1) := by decide +kernel
theorem dX5_setBar_81 : decode cX5_setBar 81 = .ok (.invokestatic 77, 3) := by decide +kernel
theorem dX5_setBar_84 : decode cX5_setBar 84 = .ok (.ireturn, 1) := by decide +kernel
theorem dX5_newCrew_0 : decode cX5_newCrew 0 = .ok (.iload_n 1, 1) := by decide +kernel
theorem dX5_newCrew_1 : decode cX5_newCrew 1 = .ok (.iconst 1, 1) := by decide +kernel
theorem dX5_newCrew_2 : decode cX5_newCrew 2 = .ok (.bipush 6, 2) := by decide +kernel
theorem dX5_newCrew_4 : decode cX5_newCrew 4 = .ok (.invokestatic 59, 3) := by decide +kernel
theorem dX5_newCrew_7 : decode cX5_newCrew 7 = .ok (.ifCond .eq 13, 3) := by decide +kernel
theorem dX5_newCrew_10 : decode cX5_newCrew 10 = .ok (.iload_n 2, 1) := by decide +kernel
theorem dX5_newCrew_11 : decode cX5_newCrew 11 = .ok (.iconst 0, 1) := by decide +kernel
theorem dX5_newCrew_12 : decode cX5_newCrew 12 = .ok (.bipush 15, 2) := by decide +kernel
theorem dX5_newCrew_14 : decode cX5_newCrew 14 = .ok (.invokestatic 59, 3) := by decide +kernel
theorem dX5_newCrew_17 : decode cX5_newCrew 17 = .ok (.ifCond .ne 6, 3) := by decide +kernel
theorem dX5_newCrew_20 : decode cX5_newCrew 20 = .ok (.bipush (-2), 2) := by decide +kernel
theorem dX5_newCrew_22 : decode cX5_newCrew 22 = .ok (.ireturn, 1) := by decide +kernel
theorem dX5_newCrew_23 : decode cX5_newCrew 23 = .ok (.aload_n 0, 1) := by decide +kernel
theorem dX5_newCrew_24 : decode cX5_newCrew 24 = .ok (.getfield 37, 3) := by decide +kernel
theorem dX5_newCrew_27 : decode cX5_newCrew 27 = .ok (.aload_n 0, 1) := by decide +kernel
theorem dX5_newCrew_28 : decode cX5_newCrew 28 = .ok (.getfield 19, 3) := by decide +kernel
theorem dX5_newCrew_31 : decode cX5_newCrew 31 = .ok (.arraylength, 1) := by decide +kernel
theorem dX5_newCrew_32 : decode cX5_newCrew 32 = .ok (.if_icmp .lt 6, 3) := by decide +kernel
theorem dX5_newCrew_35 : decode cX5_newCrew 35 = .ok (.bipush (-3), 2) := by decide +kernel
theorem dX5_newCrew_37 : decode cX5_newCrew 37 = .ok (.ireturn, 1) := by decide +kernel
theorem dX5_newCrew_38 : decode cX5_newCrew 38 = .ok (.aload_n 0, 1) := by decide +kernel
theorem dX5_newCrew_39 : decode cX5_newCrew 39 = .ok (.getfield 19, 3) := by decide +kernel
theorem dX5_newCrew_42 : decode cX5_newCrew 42 = .ok (.aload_n 0, 1) := by decide +kernel
theorem dX5_newCrew_43 : decode cX5_newCrew 43 = .ok (.getfield 37, 3) := by decide +kernel
theorem dX5_newCrew_46 : decode cX5_newCrew 46 = .ok (.aaload, 1) := by decide +kernel
theorem dX5_newCrew_47 : decode cX5_newCrew 47 = .ok (.iload_n 1, 1) := by decide +kernel
theorem dX5_newCrew_48 : decode cX5_newCrew 48 = .ok (.iload_n 2, 1) := by decide +kernel
theorem dX5_newCrew_49 : decode cX5_newCrew 49 = .ok (.invokevirtual 87, 3) := by decide +kernel
theorem dX5_newCrew_52 : decode cX5_newCrew 52 = .ok (.aload_n 0, 1) := by decide +kernel
theorem dX5_newCrew_53 : decode cX5_newCrew 53 = .ok (.dup, 1) := by decide +kernel
theorem dX5_newCrew_54 : decode cX5_newCrew 54 = .ok (.getfield 37, 3) := by decide +kernel
theorem dX5_newCrew_57 : decode cX5_newCrew 57 = .ok (.iconst 1, 1) := by decide +kernel
theorem dX5_newCrew_58 : decode cX5_newCrew 58 = .ok (.iadd, 1) := by decide +kernel
theorem dX5_newCrew_59 : decode cX5_newCrew 59 = .ok (.putfield 37, 3) := by decide +kernel
theorem dX5_newCrew_62 : decode cX5_newCrew 62 = .ok (.aload_n 0, 1) := by decide +kernel
theorem dX5_newCrew_63 : decode cX5_newCrew 63 = .ok (.getfield 37, 3) := by decide +kernel
theorem dX5_newCrew_66 : decode cX5_newCrew 66 = .ok (.iconst 1, 1) := by decide +kernel
theorem dX5_newCrew_67 : decode cX5_newCrew 67 = .ok (.isub, 1) := by decide +kernel
theorem dX5_newCrew_68 : decode cX5_newCrew 68 = .ok (.ireturn, 1) := by decide +kernel
theorem dX5_newTask_0 : decode cX5_newTask 0 = .ok (.aload_n 0, 1) := by decide +kernel
theorem dX5_newTask_1 : decode cX5_newTask 1 = .ok (.iload_n 1, 1) := by decide +kernel
theorem dX5_newTask_2 : decode cX5_newTask 2 = .ok (.invokevirtual 67, 3) := by decide +kernel
theorem dX5_newTask_5 : decode cX5_newTask 5 = .ok (.ifCond .ne 5, 3) := by decide +kernel
theorem dX5_newTask_8 : decode cX5_newTask 8 = .ok (.iconst (-1), 1) := by decide +kernel
theorem dX5_newTask_9 : decode cX5_newTask 9 = .ok (.ireturn, 1) := by decide +kernel
theorem dX5_newTask_10 : decode cX5_newTask 10 = .ok (.iload_n 2, 1) := by decide +kernel
theorem dX5_newTask_11 : decode cX5_newTask 11 = .ok (.iconst 0, 1) := by decide +kernel
theorem dX5_newTask_12 : decode cX5_newTask 12 = .ok (.iconst 3, 1) := by decide +kernel
theorem dX5_newTask_13 : decode cX5_newTask 13 = .ok (.invokestatic 59, 3) := by decide +kernel
theorem dX5_newTask_16 : decode cX5_newTask 16 = .ok (.ifCond .eq 49, 3) := by decide +kernel
theorem dX5_newTask_19 : decode cX5_newTask 19 = .ok (.iload_n 3, 1) := by decide +kernel
theorem dX5_newTask_20 : decode cX5_newTask 20 = .ok (.iconst 1, 1) := by decide +kernel
theorem dX5_newTask_21 : decode cX5_newTask 21 = .ok (.bipush 6, 2) := by decide +kernel
theorem dX5_newTask_23 : decode cX5_newTask 23 = .ok (.invokestatic 59, 3) := by decide +kernel
theorem dX5_newTask_26 : decode cX5_newTask 26 = .ok (.ifCond .eq 39, 3) := by decide +kernel
theorem dX5_newTask_29 : decode cX5_newTask 29 = .ok (.iload 4, 2) := by decide +kernel
theorem dX5_newTask_31 : decode cX5_newTask 31 = .ok (.iconst 0, 1) := by decide +kernel
theorem dX5_newTask_32 : decode cX5_newTask 32 = .ok (.iconst 4, 1) := by decide +kernel
theorem dX5_newTask_33 : decode cX5_newTask 33 = .ok (.invokestatic 59, 3) := by decide +kernel
theorem dX5_newTask_36 : decode cX5_newTask 36 = .ok (.ifCond .eq 29, 3) := by decide +kernel
theorem dX5_newTask_39 : decode cX5_newTask 39 = .ok (.iload 5, 2) := by decide +kernel
theorem dX5_newTask_41 : decode cX5_newTask 41 = .ok (.iconst 1, 1) := by decide +kernel
theorem dX5_newTask_42 : decode cX5_newTask 42 = .ok (.bipush 48, 2) := by decide +kernel
theorem dX5_newTask_44 : decode cX5_newTask 44 = .ok (.invokestatic 59, 3) := by decide +kernel
theorem dX5_newTask_47 : decode cX5_newTask 47 = .ok (.ifCond .eq 18, 3) := by decide +kernel
theorem dX5_newTask_50 : decode cX5_newTask 50 = .ok (.iload 6, 2) := by decide +kernel
theorem dX5_newTask_52 : decode cX5_newTask 52 = .ok (.aload_n 0, 1) := by decide +kernel
theorem dX5_newTask_53 : decode cX5_newTask 53 = .ok (.getfield 43, 3) := by decide +kernel
theorem dX5_newTask_56 : decode cX5_newTask 56 = .ok (.sipush 2000, 3) := by decide +kernel
theorem dX5_newTask_59 : decode cX5_newTask 59 = .ok (.invokestatic 59, 3) := by decide +kernel
theorem dX5_newTask_62 : decode cX5_newTask 62 = .ok (.ifCond .ne 6, 3) := by decide +kernel
theorem dX5_newTask_65 : decode cX5_newTask 65 = .ok (.bipush (-2), 2) := by decide +kernel
theorem dX5_newTask_67 : decode cX5_newTask 67 = .ok (.ireturn, 1) := by decide +kernel
theorem dX5_newTask_68 : decode cX5_newTask 68 = .ok (.aload_n 0, 1) := by decide +kernel
theorem dX5_newTask_69 : decode cX5_newTask 69 = .ok (.getfield 40, 3) := by decide +kernel
theorem dX5_newTask_72 : decode cX5_newTask 72 = .ok (.aload_n 0, 1) := by decide +kernel
theorem dX5_newTask_73 : decode cX5_newTask 73 = .ok (.getfield 25, 3) := by decide +kernel
theorem dX5_newTask_76 : decode cX5_newTask 76 = .ok (.arraylength, 1) := by decide +kernel
theorem dX5_newTask_77 : decode cX5_newTask 77 = .ok (.if_icmp .lt 6, 3) := by decide +kernel
theorem dX5_newTask_80 : decode cX5_newTask 80 = .ok (.bipush (-3), 2) := by decide +kernel
theorem dX5_newTask_82 : decode cX5_newTask 82 = .ok (.ireturn, 1) := by decide +kernel
theorem dX5_newTask_83 : decode cX5_newTask 83 = .ok (.aload_n 0, 1) := by decide +kernel
theorem dX5_newTask_84 : decode cX5_newTask 84 = .ok (.getfield 25, 3) := by decide +kernel
theorem dX5_newTask_87 : decode cX5_newTask 87 = .ok (.aload_n 0, 1) := by decide +kernel
theorem dX5_newTask_88 : decode cX5_newTask 88 = .ok (.getfield 40, 3) := by decide +kernel
theorem dX5_newTask_91 : decode cX5_newTask 91 = .ok (.aaload, 1) := by decide +kernel
theorem dX5_newTask_92 : decode cX5_newTask 92 = .ok (.iload_n 1, 1) := by decide +kernel
theorem dX5_newTask_93 : decode cX5_newTask 93 = .ok (.iload_n 2, 1) := by decide +kernel
theorem dX5_newTask_94 : decode cX5_newTask 94 = .ok (.iload_n 3, 1) := by decide +kernel
theorem dX5_newTask_95 : decode cX5_newTask 95 = .ok (.iload 4, 2) := by decide +kernel
theorem dX5_newTask_97 : decode cX5_newTask 97 = .ok (.iload 5, 2) := by decide +kernel
theorem dX5_newTask_99 : decode cX5_newTask 99 = .ok (.iload 6, 2) := by decide +kernel
theorem dX5_newTask_101 : decode cX5_newTask 101 = .ok (.invokevirtual 88, 3) := by decide +kernel
theorem dX5_newTask_104 : decode cX5_newTask 104 = .ok (.aload_n 0, 1) := by decide +kernel
theorem dX5_newTask_105 : decode cX5_newTask 105 = .ok (.dup, 1) := by decide +kernel
theorem dX5_newTask_106 : decode cX5_newTask 106 = .ok (.getfield 40, 3) := by decide +kernel
theorem dX5_newTask_109 : decode cX5_newTask 109 = .ok (.iconst 1, 1) := by decide +kernel
theorem dX5_newTask_110 : decode cX5_newTask 110 = .ok (.iadd, 1) := by decide +kernel
theorem dX5_newTask_111 : decode cX5_newTask 111 = .ok (.putfield 40, 3) := by decide +kernel
theorem dX5_newTask_114 : decode cX5_newTask 114 = .ok (.aload_n 0, 1) := by decide +kernel
theorem dX5_newTask_115 : decode cX5_newTask 115 = .ok (.getfield 40, 3) := by decide +kernel
theorem dX5_newTask_118 : decode cX5_newTask 118 = .ok (.iconst 1, 1) := by decide +kernel
theorem dX5_newTask_119 : decode cX5_newTask 119 = .ok (.isub, 1) := by decide +kernel
theorem dX5_newTask_120 : decode cX5_newTask 120 = .ok (.ireturn, 1) := by decide +kernel
theorem dX5_startAsset_0 : decode cX5_startAsset 0 = .ok (.aload_n 0, 1) := by decide +kernel
theorem dX5_startAsset_1 : decode cX5_startAsset 1 = .ok (.iload_n 1, 1) := by decide +kernel
theorem dX5_startAsset_2 : decode cX5_startAsset 2 = .ok (.invokevirtual 67, 3) := by decide +kernel
theorem dX5_startAsset_5 : decode cX5_startAsset 5 = .ok (.ifCond .ne 5, 3) := by decide +kernel
theorem dX5_startAsset_8 : decode cX5_startAsset 8 = .ok (.iconst (-1), 1) := by decide +kernel
theorem dX5_startAsset_9 : decode cX5_startAsset 9 = .ok (.ireturn, 1) := by decide +kernel
theorem dX5_startAsset_10 : decode cX5_startAsset 10 = .ok (.aload_n 0, 1) := by decide +kernel
theorem dX5_startAsset_11 : decode cX5_startAsset 11 = .ok (.iload_n 1, 1) := by decide +kernel
theorem dX5_startAsset_12 : decode cX5_startAsset 12 = .ok (.invokevirtual 91, 3) := by decide +kernel
theorem dX5_startAsset_15 : decode cX5_startAsset 15 = .ok (.ifCond .le 6, 3) := by decide +kernel
theorem dX5_startAsset_18 : decode cX5_startAsset 18 = .ok (.bipush (-4), 2) := by decide +kernel
theorem dX5_startAsset_20 : decode cX5_startAsset 20 = .ok (.ireturn, 1) := by decide +kernel
theorem dX5_startAsset_21 : decode cX5_startAsset 21 = .ok (.aload_n 0, 1) := by decide +kernel
theorem dX5_startAsset_22 : decode cX5_startAsset 22 = .ok (.getfield 11, 3) := by decide +kernel
theorem dX5_startAsset_25 : decode cX5_startAsset 25 = .ok (.iload_n 1, 1) := by decide +kernel
theorem dX5_startAsset_26 : decode cX5_startAsset 26 = .ok (.aaload, 1) := by decide +kernel
theorem dX5_startAsset_27 : decode cX5_startAsset 27 = .ok (.getfield 94, 3) := by decide +kernel
theorem dX5_startAsset_30 : decode cX5_startAsset 30 = .ok (.ifCond .eq 6, 3) := by decide +kernel
theorem dX5_startAsset_33 : decode cX5_startAsset 33 = .ok (.bipush (-5), 2) := by decide +kernel
theorem dX5_startAsset_35 : decode cX5_startAsset 35 = .ok (.ireturn, 1) := by decide +kernel
theorem dX5_startAsset_36 : decode cX5_startAsset 36 = .ok (.aload_n 0, 1) := by decide +kernel
theorem dX5_startAsset_37 : decode cX5_startAsset 37 = .ok (.getfield 11, 3) := by decide +kernel
theorem dX5_startAsset_40 : decode cX5_startAsset 40 = .ok (.iload_n 1, 1) := by decide +kernel
theorem dX5_startAsset_41 : decode cX5_startAsset 41 = .ok (.aaload, 1) := by decide +kernel
theorem dX5_startAsset_42 : decode cX5_startAsset 42 = .ok (.iconst 1, 1) := by decide +kernel
theorem dX5_startAsset_43 : decode cX5_startAsset 43 = .ok (.putfield 94, 3) := by decide +kernel
theorem dX5_startAsset_46 : decode cX5_startAsset 46 = .ok (.aload_n 0, 1) := by decide +kernel
theorem dX5_startAsset_47 : decode cX5_startAsset 47 = .ok (.invokevirtual 98, 3) := by decide +kernel
theorem dX5_startAsset_50 : decode cX5_startAsset 50 = .ok (.ireturn, 1) := by decide +kernel
theorem dX5_stopAsset_0 : decode cX5_stopAsset 0 = .ok (.aload_n 0, 1) := by decide +kernel
theorem dX5_stopAsset_1 : decode cX5_stopAsset 1 = .ok (.iload_n 1, 1) := by decide +kernel
theorem dX5_stopAsset_2 : decode cX5_stopAsset 2 = .ok (.invokevirtual 67, 3) := by decide +kernel
theorem dX5_stopAsset_5 : decode cX5_stopAsset 5 = .ok (.ifCond .ne 5, 3) := by decide +kernel
theorem dX5_stopAsset_8 : decode cX5_stopAsset 8 = .ok (.iconst (-1), 1) := by decide +kernel
theorem dX5_stopAsset_9 : decode cX5_stopAsset 9 = .ok (.ireturn, 1) := by decide +kernel
theorem dX5_stopAsset_10 : decode cX5_stopAsset 10 = .ok (.aload_n 0, 1) := by decide +kernel
theorem dX5_stopAsset_11 : decode cX5_stopAsset 11 = .ok (.getfield 11, 3) := by decide +kernel
theorem dX5_stopAsset_14 : decode cX5_stopAsset 14 = .ok (.iload_n 1, 1) := by decide +kernel
theorem dX5_stopAsset_15 : decode cX5_stopAsset 15 = .ok (.aaload, 1) := by decide +kernel
theorem dX5_stopAsset_16 : decode cX5_stopAsset 16 = .ok (.getfield 94, 3) := by decide +kernel
theorem dX5_stopAsset_19 : decode cX5_stopAsset 19 = .ok (.ifCond .ne 6, 3) := by decide +kernel
theorem dX5_stopAsset_22 : decode cX5_stopAsset 22 = .ok (.bipush (-5), 2) := by decide +kernel
theorem dX5_stopAsset_24 : decode cX5_stopAsset 24 = .ok (.ireturn, 1) := by decide +kernel
theorem dX5_stopAsset_25 : decode cX5_stopAsset 25 = .ok (.aload_n 0, 1) := by decide +kernel
theorem dX5_stopAsset_26 : decode cX5_stopAsset 26 = .ok (.getfield 11, 3) := by decide +kernel
theorem dX5_stopAsset_29 : decode cX5_stopAsset 29 = .ok (.iload_n 1, 1) := by decide +kernel
theorem dX5_stopAsset_30 : decode cX5_stopAsset 30 = .ok (.aaload, 1) := by decide +kernel
theorem dX5_stopAsset_31 : decode cX5_stopAsset 31 = .ok (.iconst 0, 1) := by decide +kernel
theorem dX5_stopAsset_32 : decode cX5_stopAsset 32 = .ok (.putfield 94, 3) := by decide +kernel
theorem dX5_stopAsset_35 : decode cX5_stopAsset 35 = .ok (.aload_n 0, 1) := by decide +kernel
theorem dX5_stopAsset_36 : decode cX5_stopAsset 36 = .ok (.invokevirtual 98, 3) := by decide +kernel
theorem dX5_stopAsset_39 : decode cX5_stopAsset 39 = .ok (.ireturn, 1) := by decide +kernel
theorem dX5_hangTag_0 : decode cX5_hangTag 0 = .ok (.aload_n 0, 1) := by decide +kernel
theorem dX5_hangTag_1 : decode cX5_hangTag 1 = .ok (.iload_n 1, 1) := by decide +kernel
theorem dX5_hangTag_2 : decode cX5_hangTag 2 = .ok (.invokevirtual 102, 3) := by decide +kernel
theorem dX5_hangTag_5 : decode cX5_hangTag 5 = .ok (.ifCond .eq 11, 3) := by decide +kernel
theorem dX5_hangTag_8 : decode cX5_hangTag 8 = .ok (.aload_n 0, 1) := by decide +kernel
theorem dX5_hangTag_9 : decode cX5_hangTag 9 = .ok (.iload_n 2, 1) := by decide +kernel
theorem dX5_hangTag_10 : decode cX5_hangTag 10 = .ok (.invokevirtual 105, 3) := by decide +kernel
theorem dX5_hangTag_13 : decode cX5_hangTag 13 = .ok (.ifCond .ne 5, 3) := by decide +kernel
theorem dX5_hangTag_16 : decode cX5_hangTag 16 = .ok (.iconst (-1), 1) := by decide +kernel
theorem dX5_hangTag_17 : decode cX5_hangTag 17 = .ok (.ireturn, 1) := by decide +kernel
theorem dX5_hangTag_18 : decode cX5_hangTag 18 = .ok (.aload_n 0, 1) := by decide +kernel
theorem dX5_hangTag_19 : decode cX5_hangTag 19 = .ok (.getfield 25, 3) := by decide +kernel
theorem dX5_hangTag_22 : decode cX5_hangTag 22 = .ok (.iload_n 1, 1) := by decide +kernel
theorem dX5_hangTag_23 : decode cX5_hangTag 23 = .ok (.aaload, 1) := by decide +kernel
theorem dX5_hangTag_24 : decode cX5_hangTag 24 = .ok (.astore_n 3, 1) := by decide +kernel
theorem dX5_hangTag_25 : decode cX5_hangTag 25 = .ok (.aload_n 3, 1) := by decide +kernel
theorem dX5_hangTag_26 : decode cX5_hangTag 26 = .ok (.getfield 108, 3) := by decide +kernel
theorem dX5_hangTag_29 : decode cX5_hangTag 29 = .ok (.ifCond .ne 23, 3) := by decide +kernel
theorem dX5_hangTag_32 : decode cX5_hangTag 32 = .ok (.aload_n 0, 1) := by decide +kernel
theorem dX5_hangTag_33 : decode cX5_hangTag 33 = .ok (.aload_n 3, 1) := by decide +kernel
theorem dX5_hangTag_34 : decode cX5_hangTag 34 = .ok (.getfield 111, 3) := by decide +kernel
theorem dX5_hangTag_37 : decode cX5_hangTag 37 = .ok (.invokevirtual 114, 3) := by decide +kernel
theorem dX5_hangTag_40 : decode cX5_hangTag 40 = .ok (.ifCond .ne 12, 3) := by decide +kernel
theorem dX5_hangTag_43 : decode cX5_hangTag 43 = .ok (.aload_n 0, 1) := by decide +kernel
theorem dX5_hangTag_44 : decode cX5_hangTag 44 = .ok (.iload_n 2, 1) := by decide +kernel
theorem dX5_hangTag_45 : decode cX5_hangTag 45 = .ok (.aload_n 3, 1) := by decide +kernel
theorem dX5_hangTag_46 : decode cX5_hangTag 46 = .ok (.invokevirtual 117, 3) := by decide +kernel
theorem dX5_hangTag_49 : decode cX5_hangTag 49 = .ok (.ifCond .ne 6, 3) := by decide +kernel
theorem dX5_hangTag_52 : decode cX5_hangTag 52 = .ok (.bipush (-4), 2) := by decide +kernel
theorem dX5_hangTag_54 : decode cX5_hangTag 54 = .ok (.ireturn, 1) := by decide +kernel
theorem dX5_hangTag_55 : decode cX5_hangTag 55 = .ok (.aload_n 3, 1) := by decide +kernel
theorem dX5_hangTag_56 : decode cX5_hangTag 56 = .ok (.aload_n 0, 1) := by decide +kernel
theorem dX5_hangTag_57 : decode cX5_hangTag 57 = .ok (.aload_n 3, 1) := by decide +kernel
theorem dX5_hangTag_58 : decode cX5_hangTag 58 = .ok (.getfield 111, 3) := by decide +kernel
theorem dX5_hangTag_61 : decode cX5_hangTag 61 = .ok (.invokevirtual 91, 3) := by decide +kernel
theorem dX5_hangTag_64 : decode cX5_hangTag 64 = .ok (.putfield 121, 3) := by decide +kernel
theorem dX5_hangTag_67 : decode cX5_hangTag 67 = .ok (.aload_n 3, 1) := by decide +kernel
theorem dX5_hangTag_68 : decode cX5_hangTag 68 = .ok (.iconst 1, 1) := by decide +kernel
theorem dX5_hangTag_69 : decode cX5_hangTag 69 = .ok (.putfield 108, 3) := by decide +kernel
theorem dX5_hangTag_72 : decode cX5_hangTag 72 = .ok (.aload_n 3, 1) := by decide +kernel
theorem dX5_hangTag_73 : decode cX5_hangTag 73 = .ok (.iload_n 2, 1) := by decide +kernel
theorem dX5_hangTag_74 : decode cX5_hangTag 74 = .ok (.putfield 124, 3) := by decide +kernel
theorem dX5_hangTag_77 : decode cX5_hangTag 77 = .ok (.aload_n 3, 1) := by decide +kernel
theorem dX5_hangTag_78 : decode cX5_hangTag 78 = .ok (.getfield 121, 3) := by decide +kernel
theorem dX5_hangTag_81 : decode cX5_hangTag 81 = .ok (.iconst 1, 1) := by decide +kernel
theorem dX5_hangTag_82 : decode cX5_hangTag 82 = .ok (.iadd, 1) := by decide +kernel
theorem dX5_hangTag_83 : decode cX5_hangTag 83 = .ok (.ireturn, 1) := by decide +kernel
theorem dX5_beginTask_0 : decode cX5_beginTask 0 = .ok (.aload_n 0, 1) := by decide +kernel
theorem dX5_beginTask_1 : decode cX5_beginTask 1 = .ok (.iload_n 1, 1) := by decide +kernel
theorem dX5_beginTask_2 : decode cX5_beginTask 2 = .ok (.invokevirtual 102, 3) := by decide +kernel
theorem dX5_beginTask_5 : decode cX5_beginTask 5 = .ok (.ifCond .ne 5, 3) := by decide +kernel
theorem dX5_beginTask_8 : decode cX5_beginTask 8 = .ok (.iconst (-1), 1) := by decide +kernel
theorem dX5_beginTask_9 : decode cX5_beginTask 9 = .ok (.ireturn, 1) := by decide +kernel
theorem dX5_beginTask_10 : decode cX5_beginTask 10 = .ok (.aload_n 0, 1) := by decide +kernel
theorem dX5_beginTask_11 : decode cX5_beginTask 11 = .ok (.iload_n 1, 1) := by decide +kernel
theorem dX5_beginTask_12 : decode cX5_beginTask 12 = .ok (.invokevirtual 127, 3) := by decide +kernel
theorem dX5_beginTask_15 : decode cX5_beginTask 15 = .ok (.ifCond .eq 6, 3) := by decide +kernel
theorem dX5_beginTask_18 : decode cX5_beginTask 18 = .ok (.bipush (-4), 2) := by decide +kernel
theorem dX5_beginTask_20 : decode cX5_beginTask 20 = .ok (.ireturn, 1) := by decide +kernel
theorem dX5_beginTask_21 : decode cX5_beginTask 21 = .ok (.aload_n 0, 1) := by decide +kernel
theorem dX5_beginTask_22 : decode cX5_beginTask 22 = .ok (.getfield 25, 3) := by decide +kernel
theorem dX5_beginTask_25 : decode cX5_beginTask 25 = .ok (.iload_n 1, 1) := by decide +kernel
theorem dX5_beginTask_26 : decode cX5_beginTask 26 = .ok (.aaload, 1) := by decide +kernel
theorem dX5_beginTask_27 : decode cX5_beginTask 27 = .ok (.astore_n 2, 1) := by decide +kernel
theorem dX5_beginTask_28 : decode cX5_beginTask 28 = .ok (.aload_n 2, 1) := by decide +kernel
theorem dX5_beginTask_29 : decode cX5_beginTask 29 = .ok (.iconst 2, 1) := by decide +kernel
theorem dX5_beginTask_30 : decode cX5_beginTask 30 = .ok (.putfield 108, 3) := by decide +kernel
theorem dX5_beginTask_33 : decode cX5_beginTask 33 = .ok (.aload_n 2, 1) := by decide +kernel
theorem dX5_beginTask_34 : decode cX5_beginTask 34 = .ok (.aload_n 2, 1) := by decide +kernel
theorem dX5_beginTask_35 : decode cX5_beginTask 35 = .ok (.getfield 130, 3) := by decide +kernel
theorem dX5_beginTask_38 : decode cX5_beginTask 38 = .ok (.putfield 133, 3) := by decide +kernel
theorem dX5_beginTask_41 : decode cX5_beginTask 41 = .ok (.aload_n 0, 1) := by decide +kernel
theorem dX5_beginTask_42 : decode cX5_beginTask 42 = .ok (.getfield 43, 3) := by decide +kernel
theorem dX5_beginTask_45 : decode cX5_beginTask 45 = .ok (.aload_n 2, 1) := by decide +kernel
theorem dX5_beginTask_46 : decode cX5_beginTask 46 = .ok (.getfield 130, 3) := by decide +kernel
theorem dX5_beginTask_49 : decode cX5_beginTask 49 = .ok (.iadd, 1) := by decide +kernel
theorem dX5_beginTask_50 : decode cX5_beginTask 50 = .ok (.ireturn, 1) := by decide +kernel
theorem dX5_liftTag_0 : decode cX5_liftTag 0 = .ok (.aload_n 0, 1) := by decide +kernel
theorem dX5_liftTag_1 : decode cX5_liftTag 1 = .ok (.iload_n 1, 1) := by decide +kernel
theorem dX5_liftTag_2 : decode cX5_liftTag 2 = .ok (.invokevirtual 102, 3) := by decide +kernel
theorem dX5_liftTag_5 : decode cX5_liftTag 5 = .ok (.ifCond .eq 11, 3) := by decide +kernel
theorem dX5_liftTag_8 : decode cX5_liftTag 8 = .ok (.aload_n 0, 1) := by decide +kernel
theorem dX5_liftTag_9 : decode cX5_liftTag 9 = .ok (.iload_n 2, 1) := by decide +kernel
theorem dX5_liftTag_10 : decode cX5_liftTag 10 = .ok (.invokevirtual 105, 3) := by decide +kernel
theorem dX5_liftTag_13 : decode cX5_liftTag 13 = .ok (.ifCond .ne 5, 3) := by decide +kernel
theorem dX5_liftTag_16 : decode cX5_liftTag 16 = .ok (.iconst (-1), 1) := by decide +kernel
theorem dX5_liftTag_17 : decode cX5_liftTag 17 = .ok (.ireturn, 1) := by decide +kernel
theorem dX5_liftTag_18 : decode cX5_liftTag 18 = .ok (.aload_n 0, 1) := by decide +kernel
theorem dX5_liftTag_19 : decode cX5_liftTag 19 = .ok (.getfield 25, 3) := by decide +kernel
theorem dX5_liftTag_22 : decode cX5_liftTag 22 = .ok (.iload_n 1, 1) := by decide +kernel
theorem dX5_liftTag_23 : decode cX5_liftTag 23 = .ok (.aaload, 1) := by decide +kernel
theorem dX5_liftTag_24 : decode cX5_liftTag 24 = .ok (.astore_n 3, 1) := by decide +kernel
theorem dX5_liftTag_25 : decode cX5_liftTag 25 = .ok (.aload_n 3, 1) := by decide +kernel
theorem dX5_liftTag_26 : decode cX5_liftTag 26 = .ok (.getfield 108, 3) := by decide +kernel
theorem dX5_liftTag_29 : decode cX5_liftTag 29 = .ok (.iconst 1, 1) := by decide +kernel
theorem dX5_liftTag_30 : decode cX5_liftTag 30 = .ok (.if_icmp .eq 14, 3) := by decide +kernel
theorem dX5_liftTag_33 : decode cX5_liftTag 33 = .ok (.aload_n 3, 1) := by decide +kernel
theorem dX5_liftTag_34 : decode cX5_liftTag 34 = .ok (.getfield 108, 3) := by decide +kernel
theorem dX5_liftTag_37 : decode cX5_liftTag 37 = .ok (.iconst 3, 1) := by decide +kernel
theorem dX5_liftTag_38 : decode cX5_liftTag 38 = .ok (.if_icmp .eq 6, 3) := by decide +kernel
theorem dX5_liftTag_41 : decode cX5_liftTag 41 = .ok (.bipush (-4), 2) := by decide +kernel
theorem dX5_liftTag_43 : decode cX5_liftTag 43 = .ok (.ireturn, 1) := by decide +kernel
theorem dX5_liftTag_44 : decode cX5_liftTag 44 = .ok (.aload_n 3, 1) := by decide +kernel
theorem dX5_liftTag_45 : decode cX5_liftTag 45 = .ok (.getfield 124, 3) := by decide +kernel
theorem dX5_liftTag_48 : decode cX5_liftTag 48 = .ok (.iload_n 2, 1) := by decide +kernel
theorem dX5_liftTag_49 : decode cX5_liftTag 49 = .ok (.if_icmp .ne 16, 3) := by decide +kernel
theorem dX5_liftTag_52 : decode cX5_liftTag 52 = .ok (.aload_n 0, 1) := by decide +kernel
theorem dX5_liftTag_53 : decode cX5_liftTag 53 = .ok (.aload_n 3, 1) := by decide +kernel
theorem dX5_liftTag_54 : decode cX5_liftTag 54 = .ok (.getfield 111, 3) := by decide +kernel
theorem dX5_liftTag_57 : decode cX5_liftTag 57 = .ok (.iconst 0, 1) := by decide +kernel
theorem dX5_liftTag_58 : decode cX5_liftTag 58 = .ok (.invokevirtual 136, 3) := by decide +kernel
theorem dX5_liftTag_61 : decode cX5_liftTag 61 = .ok (.iload_n 1, 1) := by decide +kernel
theorem dX5_liftTag_62 : decode cX5_liftTag 62 = .ok (.if_icmp .eq 6, 3) := by decide +kernel
theorem dX5_liftTag_65 : decode cX5_liftTag 65 = .ok (.bipush (-4), 2) := by decide +kernel
theorem dX5_liftTag_67 : decode cX5_liftTag 67 = .ok (.ireturn, 1) := by decide +kernel
theorem dX5_liftTag_68 : decode cX5_liftTag 68 = .ok (.aload_n 3, 1) := by decide +kernel
theorem dX5_liftTag_69 : decode cX5_liftTag 69 = .ok (.getfield 108, 3) := by decide +kernel
theorem dX5_liftTag_72 : decode cX5_liftTag 72 = .ok (.iconst 3, 1) := by decide +kernel
theorem dX5_liftTag_73 : decode cX5_liftTag 73 = .ok (.if_icmp .ne 11, 3) := by decide +kernel
theorem dX5_liftTag_76 : decode cX5_liftTag 76 = .ok (.aload_n 3, 1) := by decide +kernel
theorem dX5_liftTag_77 : decode cX5_liftTag 77 = .ok (.iconst 4, 1) := by decide +kernel
theorem dX5_liftTag_78 : decode cX5_liftTag 78 = .ok (.putfield 108, 3) := by decide +kernel
theorem dX5_liftTag_81 : decode cX5_liftTag 81 = .ok (.goto 14, 3) := by decide +kernel
theorem dX5_liftTag_84 : decode cX5_liftTag 84 = .ok (.aload_n 3, 1) := by decide +kernel
theorem dX5_liftTag_85 : decode cX5_liftTag 85 = .ok (.iconst 0, 1) := by decide +kernel
theorem dX5_liftTag_86 : decode cX5_liftTag 86 = .ok (.putfield 108, 3) := by decide +kernel
theorem dX5_liftTag_89 : decode cX5_liftTag 89 = .ok (.aload_n 3, 1) := by decide +kernel
theorem dX5_liftTag_90 : decode cX5_liftTag 90 = .ok (.bipush (-5), 2) := by decide +kernel
theorem dX5_liftTag_92 : decode cX5_liftTag 92 = .ok (.putfield 124, 3) := by decide +kernel
theorem dX5_liftTag_95 : decode cX5_liftTag 95 = .ok (.aload_n 0, 1) := by decide +kernel
theorem dX5_liftTag_96 : decode cX5_liftTag 96 = .ok (.aload_n 3, 1) := by decide +kernel
theorem dX5_liftTag_97 : decode cX5_liftTag 97 = .ok (.getfield 111, 3) := by decide +kernel
theorem dX5_liftTag_100 : decode cX5_liftTag 100 = .ok (.invokevirtual 91, 3) := by decide +kernel
theorem dX5_liftTag_103 : decode cX5_liftTag 103 = .ok (.ireturn, 1) := by decide +kernel
theorem dX5_cancelTask_0 : decode cX5_cancelTask 0 = .ok (.aload_n 0, 1) := by decide +kernel
theorem dX5_cancelTask_1 : decode cX5_cancelTask 1 = .ok (.iload_n 1, 1) := by decide +kernel
theorem dX5_cancelTask_2 : decode cX5_cancelTask 2 = .ok (.invokevirtual 102, 3) := by decide +kernel
theorem dX5_cancelTask_5 : decode cX5_cancelTask 5 = .ok (.ifCond .ne 5, 3) := by decide +kernel
theorem dX5_cancelTask_8 : decode cX5_cancelTask 8 = .ok (.iconst (-1), 1) := by decide +kernel
theorem dX5_cancelTask_9 : decode cX5_cancelTask 9 = .ok (.ireturn, 1) := by decide +kernel
theorem dX5_cancelTask_10 : decode cX5_cancelTask 10 = .ok (.aload_n 0, 1) := by decide +kernel
theorem dX5_cancelTask_11 : decode cX5_cancelTask 11 = .ok (.getfield 25, 3) := by decide +kernel
theorem dX5_cancelTask_14 : decode cX5_cancelTask 14 = .ok (.iload_n 1, 1) := by decide +kernel
theorem dX5_cancelTask_15 : decode cX5_cancelTask 15 = .ok (.aaload, 1) := by decide +kernel
theorem dX5_cancelTask_16 : decode cX5_cancelTask 16 = .ok (.getfield 108, 3) := by decide +kernel
theorem dX5_cancelTask_19 : decode cX5_cancelTask 19 = .ok (.ifCond .eq 6, 3) := by decide +kernel
theorem dX5_cancelTask_22 : decode cX5_cancelTask 22 = .ok (.bipush (-4), 2) := by decide +kernel
theorem dX5_cancelTask_24 : decode cX5_cancelTask 24 = .ok (.ireturn, 1) := by decide +kernel
theorem dX5_cancelTask_25 : decode cX5_cancelTask 25 = .ok (.aload_n 0, 1) := by decide +kernel
theorem dX5_cancelTask_26 : decode cX5_cancelTask 26 = .ok (.getfield 25, 3) := by decide +kernel
theorem dX5_cancelTask_29 : decode cX5_cancelTask 29 = .ok (.iload_n 1, 1) := by decide +kernel
theorem dX5_cancelTask_30 : decode cX5_cancelTask 30 = .ok (.aaload, 1) := by decide +kernel
theorem dX5_cancelTask_31 : decode cX5_cancelTask 31 = .ok (.bipush 6, 2) := by decide +kernel
theorem dX5_cancelTask_33 : decode cX5_cancelTask 33 = .ok (.putfield 108, 3) := by decide +kernel
theorem dX5_cancelTask_36 : decode cX5_cancelTask 36 = .ok (.aload_n 0, 1) := by decide +kernel
theorem dX5_cancelTask_37 : decode cX5_cancelTask 37 = .ok (.getfield 25, 3) := by decide +kernel
theorem dX5_cancelTask_40 : decode cX5_cancelTask 40 = .ok (.iload_n 1, 1) := by decide +kernel
theorem dX5_cancelTask_41 : decode cX5_cancelTask 41 = .ok (.aaload, 1) := by decide +kernel
theorem dX5_cancelTask_42 : decode cX5_cancelTask 42 = .ok (.getfield 140, 3) := by decide +kernel
theorem dX5_cancelTask_45 : decode cX5_cancelTask 45 = .ok (.ireturn, 1) := by decide +kernel
theorem dX5_passHours_0 : decode cX5_passHours 0 = .ok (.iload_n 1, 1) := by decide +kernel
theorem dX5_passHours_1 : decode cX5_passHours 1 = .ok (.iconst 1, 1) := by decide +kernel
theorem dX5_passHours_2 : decode cX5_passHours 2 = .ok (.bipush 48, 2) := by decide +kernel
theorem dX5_passHours_4 : decode cX5_passHours 4 = .ok (.invokestatic 59, 3) := by decide +kernel
theorem dX5_passHours_7 : decode cX5_passHours 7 = .ok (.ifCond .ne 6, 3) := by decide +kernel
theorem dX5_passHours_10 : decode cX5_passHours 10 = .ok (.bipush (-2), 2) := by decide +kernel
theorem dX5_passHours_12 : decode cX5_passHours 12 = .ok (.ireturn, 1) := by decide +kernel
theorem dX5_passHours_13 : decode cX5_passHours 13 = .ok (.aload_n 0, 1) := by decide +kernel
theorem dX5_passHours_14 : decode cX5_passHours 14 = .ok (.getfield 43, 3) := by decide +kernel
theorem dX5_passHours_17 : decode cX5_passHours 17 = .ok (.iload_n 1, 1) := by decide +kernel
theorem dX5_passHours_18 : decode cX5_passHours 18 = .ok (.iadd, 1) := by decide +kernel
theorem dX5_passHours_19 : decode cX5_passHours 19 = .ok (.sipush 2000, 3) := by decide +kernel
theorem dX5_passHours_22 : decode cX5_passHours 22 = .ok (.if_icmp .le 6, 3) := by decide +kernel
theorem dX5_passHours_25 : decode cX5_passHours 25 = .ok (.bipush (-4), 2) := by decide +kernel
theorem dX5_passHours_27 : decode cX5_passHours 27 = .ok (.ireturn, 1) := by decide +kernel
theorem dX5_passHours_28 : decode cX5_passHours 28 = .ok (.iconst 0, 1) := by decide +kernel
theorem dX5_passHours_29 : decode cX5_passHours 29 = .ok (.istore_n 2, 1) := by decide +kernel
theorem dX5_passHours_30 : decode cX5_passHours 30 = .ok (.iconst 0, 1) := by decide +kernel
theorem dX5_passHours_31 : decode cX5_passHours 31 = .ok (.istore_n 3, 1) := by decide +kernel
theorem dX5_passHours_32 : decode cX5_passHours 32 = .ok (.iload_n 3, 1) := by decide +kernel
theorem dX5_passHours_33 : decode cX5_passHours 33 = .ok (.iload_n 1, 1) := by decide +kernel
theorem dX5_passHours_34 : decode cX5_passHours 34 = .ok (.if_icmp .ge 34, 3) := by decide +kernel
theorem dX5_passHours_37 : decode cX5_passHours 37 = .ok (.aload_n 0, 1) := by decide +kernel
theorem dX5_passHours_38 : decode cX5_passHours 38 = .ok (.invokevirtual 143, 3) := by decide +kernel
theorem dX5_passHours_41 : decode cX5_passHours 41 = .ok (.iload_n 2, 1) := by decide +kernel
theorem dX5_passHours_42 : decode cX5_passHours 42 = .ok (.aload_n 0, 1) := by decide +kernel
theorem dX5_passHours_43 : decode cX5_passHours 43 = .ok (.invokevirtual 146, 3) := by decide +kernel
theorem dX5_passHours_46 : decode cX5_passHours 46 = .ok (.iadd, 1) := by decide +kernel
theorem dX5_passHours_47 : decode cX5_passHours 47 = .ok (.istore_n 2, 1) := by decide +kernel
theorem dX5_passHours_48 : decode cX5_passHours 48 = .ok (.aload_n 0, 1) := by decide +kernel
theorem dX5_passHours_49 : decode cX5_passHours 49 = .ok (.dup, 1) := by decide +kernel
theorem dX5_passHours_50 : decode cX5_passHours 50 = .ok (.getfield 43, 3) := by decide +kernel
theorem dX5_passHours_53 : decode cX5_passHours 53 = .ok (.iconst 1, 1) := by decide +kernel
theorem dX5_passHours_54 : decode cX5_passHours 54 = .ok (.iadd, 1) := by decide +kernel
theorem dX5_passHours_55 : decode cX5_passHours 55 = .ok (.putfield 43, 3) := by decide +kernel
theorem dX5_passHours_58 : decode cX5_passHours 58 = .ok (.aload_n 0, 1) := by decide +kernel
theorem dX5_passHours_59 : decode cX5_passHours 59 = .ok (.invokevirtual 149, 3) := by decide +kernel
theorem dX5_passHours_62 : decode cX5_passHours 62 = .ok (.iinc 3 1, 3) := by decide +kernel
theorem dX5_passHours_65 : decode cX5_passHours 65 = .ok (.goto (-33), 3) := by decide +kernel
theorem dX5_passHours_68 : decode cX5_passHours 68 = .ok (.iload_n 2, 1) := by decide +kernel
theorem dX5_passHours_69 : decode cX5_passHours 69 = .ok (.ireturn, 1) := by decide +kernel
theorem dX5_runAssets_0 : decode cX5_runAssets 0 = .ok (.iconst 0, 1) := by decide +kernel
theorem dX5_runAssets_1 : decode cX5_runAssets 1 = .ok (.istore_n 1, 1) := by decide +kernel
theorem dX5_runAssets_2 : decode cX5_runAssets 2 = .ok (.iload_n 1, 1) := by decide +kernel
theorem dX5_runAssets_3 : decode cX5_runAssets 3 = .ok (.aload_n 0, 1) := by decide +kernel
theorem dX5_runAssets_4 : decode cX5_runAssets 4 = .ok (.getfield 33, 3) := by decide +kernel
theorem dX5_runAssets_7 : decode cX5_runAssets 7 = .ok (.if_icmp .ge 30, 3) := by decide +kernel
theorem dX5_runAssets_10 : decode cX5_runAssets 10 = .ok (.aload_n 0, 1) := by decide +kernel
theorem dX5_runAssets_11 : decode cX5_runAssets 11 = .ok (.getfield 11, 3) := by decide +kernel
theorem dX5_runAssets_14 : decode cX5_runAssets 14 = .ok (.iload_n 1, 1) := by decide +kernel
theorem dX5_runAssets_15 : decode cX5_runAssets 15 = .ok (.aaload, 1) := by decide +kernel
theorem dX5_runAssets_16 : decode cX5_runAssets 16 = .ok (.getfield 94, 3) := by decide +kernel
theorem dX5_runAssets_19 : decode cX5_runAssets 19 = .ok (.ifCond .eq 12, 3) := by decide +kernel
theorem dX5_runAssets_22 : decode cX5_runAssets 22 = .ok (.aload_n 0, 1) := by decide +kernel
theorem dX5_runAssets_23 : decode cX5_runAssets 23 = .ok (.getfield 11, 3) := by decide +kernel
theorem dX5_runAssets_26 : decode cX5_runAssets 26 = .ok (.iload_n 1, 1) := by decide +kernel
theorem dX5_runAssets_27 : decode cX5_runAssets 27 = .ok (.aaload, 1) := by decide +kernel
theorem dX5_runAssets_28 : decode cX5_runAssets 28 = .ok (.invokevirtual 152, 3) := by decide +kernel
theorem dX5_runAssets_31 : decode cX5_runAssets 31 = .ok (.iinc 1 1, 3) := by decide +kernel
theorem dX5_runAssets_34 : decode cX5_runAssets 34 = .ok (.goto (-32), 3) := by decide +kernel
theorem dX5_runAssets_37 : decode cX5_runAssets 37 = .ok (.return_, 1) := by decide +kernel
theorem dX5_workOnTasks_0 : decode cX5_workOnTasks 0 = .ok (.iconst 0, 1) := by decide +kernel
theorem dX5_workOnTasks_1 : decode cX5_workOnTasks 1 = .ok (.istore_n 1, 1) := by decide +kernel
theorem dX5_workOnTasks_2 : decode cX5_workOnTasks 2 = .ok (.iconst 0, 1) := by decide +kernel
theorem dX5_workOnTasks_3 : decode cX5_workOnTasks 3 = .ok (.istore_n 2, 1) := by decide +kernel
theorem dX5_workOnTasks_4 : decode cX5_workOnTasks 4 = .ok (.iload_n 2, 1) := by decide +kernel
theorem dX5_workOnTasks_5 : decode cX5_workOnTasks 5 = .ok (.aload_n 0, 1) := by decide +kernel
theorem dX5_workOnTasks_6 : decode cX5_workOnTasks 6 = .ok (.getfield 40, 3) := by decide +kernel
theorem dX5_workOnTasks_9 : decode cX5_workOnTasks 9 = .ok (.if_icmp .ge 57, 3) := by decide +kernel
theorem dX5_workOnTasks_12 : decode cX5_workOnTasks 12 = .ok (.aload_n 0, 1) := by decide +kernel
theorem dX5_workOnTasks_13 : decode cX5_workOnTasks 13 = .ok (.getfield 25, 3) := by decide +kernel
theorem dX5_workOnTasks_16 : decode cX5_workOnTasks 16 = .ok (.iload_n 2, 1) := by decide +kernel
theorem dX5_workOnTasks_17 : decode cX5_workOnTasks 17 = .ok (.aaload, 1) := by decide +kernel
theorem dX5_workOnTasks_18 : decode cX5_workOnTasks 18 = .ok (.astore_n 3, 1) := by decide +kernel
theorem dX5_workOnTasks_19 : decode cX5_workOnTasks 19 = .ok (.aload_n 3, 1) := by decide +kernel
theorem dX5_workOnTasks_20 : decode cX5_workOnTasks 20 = .ok (.getfield 108, 3) := by decide +kernel
theorem dX5_workOnTasks_23 : decode cX5_workOnTasks 23 = .ok (.iconst 2, 1) := by decide +kernel
theorem dX5_workOnTasks_24 : decode cX5_workOnTasks 24 = .ok (.if_icmp .ne 36, 3) := by decide +kernel
theorem dX5_workOnTasks_27 : decode cX5_workOnTasks 27 = .ok (.aload_n 3, 1) := by decide +kernel
theorem dX5_workOnTasks_28 : decode cX5_workOnTasks 28 = .ok (.dup, 1) := by decide +kernel
theorem dX5_workOnTasks_29 : decode cX5_workOnTasks 29 = .ok (.getfield 133, 3) := by decide +kernel
theorem dX5_workOnTasks_32 : decode cX5_workOnTasks 32 = .ok (.iconst 1, 1) := by decide +kernel
theorem dX5_workOnTasks_33 : decode cX5_workOnTasks 33 = .ok (.isub, 1) := by decide +kernel
theorem dX5_workOnTasks_34 : decode cX5_workOnTasks 34 = .ok (.putfield 133, 3) := by decide +kernel
theorem dX5_workOnTasks_37 : decode cX5_workOnTasks 37 = .ok (.aload_n 3, 1) := by decide +kernel
theorem dX5_workOnTasks_38 : decode cX5_workOnTasks 38 = .ok (.getfield 133, 3) := by decide +kernel
theorem dX5_workOnTasks_41 : decode cX5_workOnTasks 41 = .ok (.ifCond .gt 19, 3) := by decide +kernel
theorem dX5_workOnTasks_44 : decode cX5_workOnTasks 44 = .ok (.aload_n 3, 1) := by decide +kernel
theorem dX5_workOnTasks_45 : decode cX5_workOnTasks 45 = .ok (.iconst 3, 1) := by decide +kernel
theorem dX5_workOnTasks_46 : decode cX5_workOnTasks 46 = .ok (.putfield 108, 3) := by decide +kernel
theorem dX5_workOnTasks_49 : decode cX5_workOnTasks 49 = .ok (.iinc 1 1, 3) := by decide +kernel
theorem dX5_workOnTasks_52 : decode cX5_workOnTasks 52 = .ok (.aload_n 0, 1) := by decide +kernel
theorem dX5_workOnTasks_53 : decode cX5_workOnTasks 53 = .ok (.aload_n 3, 1) := by decide +kernel
theorem dX5_workOnTasks_54 : decode cX5_workOnTasks 54 = .ok (.getfield 111, 3) := by decide +kernel
theorem dX5_workOnTasks_57 : decode cX5_workOnTasks 57 = .ok (.invokevirtual 155, 3) := by decide +kernel
theorem dX5_workOnTasks_60 : decode cX5_workOnTasks 60 = .ok (.iinc 2 1, 3) := by decide +kernel
theorem dX5_workOnTasks_63 : decode cX5_workOnTasks 63 = .ok (.goto (-59), 3) := by decide +kernel
theorem dX5_workOnTasks_66 : decode cX5_workOnTasks 66 = .ok (.iload_n 1, 1) := by decide +kernel
theorem dX5_workOnTasks_67 : decode cX5_workOnTasks 67 = .ok (.ireturn, 1) := by decide +kernel
theorem dX5_mendAsset_0 : decode cX5_mendAsset 0 = .ok (.aload_n 0, 1) := by decide +kernel
theorem dX5_mendAsset_1 : decode cX5_mendAsset 1 = .ok (.iload_n 1, 1) := by decide +kernel
theorem dX5_mendAsset_2 : decode cX5_mendAsset 2 = .ok (.invokevirtual 67, 3) := by decide +kernel
theorem dX5_mendAsset_5 : decode cX5_mendAsset 5 = .ok (.ifCond .eq 12, 3) := by decide +kernel
theorem dX5_mendAsset_8 : decode cX5_mendAsset 8 = .ok (.aload_n 0, 1) := by decide +kernel
theorem dX5_mendAsset_9 : decode cX5_mendAsset 9 = .ok (.getfield 11, 3) := by decide +kernel
theorem dX5_mendAsset_12 : decode cX5_mendAsset 12 = .ok (.iload_n 1, 1) := by decide +kernel
theorem dX5_mendAsset_13 : decode cX5_mendAsset 13 = .ok (.aaload, 1) := by decide +kernel
theorem dX5_mendAsset_14 : decode cX5_mendAsset 14 = .ok (.invokevirtual 159, 3) := by decide +kernel
theorem dX5_mendAsset_17 : decode cX5_mendAsset 17 = .ok (.return_, 1) := by decide +kernel
theorem dX5_slipTasks_0 : decode cX5_slipTasks 0 = .ok (.iconst 0, 1) := by decide +kernel
theorem dX5_slipTasks_1 : decode cX5_slipTasks 1 = .ok (.istore_n 1, 1) := by decide +kernel
theorem dX5_slipTasks_2 : decode cX5_slipTasks 2 = .ok (.iload_n 1, 1) := by decide +kernel
theorem dX5_slipTasks_3 : decode cX5_slipTasks 3 = .ok (.aload_n 0, 1) := by decide +kernel
theorem dX5_slipTasks_4 : decode cX5_slipTasks 4 = .ok (.getfield 40, 3) := by decide +kernel
theorem dX5_slipTasks_7 : decode cX5_slipTasks 7 = .ok (.if_icmp .ge 40, 3) := by decide +kernel
theorem dX5_slipTasks_10 : decode cX5_slipTasks 10 = .ok (.aload_n 0, 1) := by decide +kernel
theorem dX5_slipTasks_11 : decode cX5_slipTasks 11 = .ok (.getfield 25, 3) := by decide +kernel
theorem dX5_slipTasks_14 : decode cX5_slipTasks 14 = .ok (.iload_n 1, 1) := by decide +kernel
theorem dX5_slipTasks_15 : decode cX5_slipTasks 15 = .ok (.aaload, 1) := by decide +kernel
theorem dX5_slipTasks_16 : decode cX5_slipTasks 16 = .ok (.astore_n 2, 1) := by decide +kernel
theorem dX5_slipTasks_17 : decode cX5_slipTasks 17 = .ok (.aload_n 2, 1) := by decide +kernel
theorem dX5_slipTasks_18 : decode cX5_slipTasks 18 = .ok (.iconst 0, 1) := by decide +kernel
theorem dX5_slipTasks_19 : decode cX5_slipTasks 19 = .ok (.iconst 1, 1) := by decide +kernel
theorem dX5_slipTasks_20 : decode cX5_slipTasks 20 = .ok (.invokevirtual 162, 3) := by decide +kernel
theorem dX5_slipTasks_23 : decode cX5_slipTasks 23 = .ok (.ifCond .eq 18, 3) := by decide +kernel
theorem dX5_slipTasks_26 : decode cX5_slipTasks 26 = .ok (.aload_n 2, 1) := by decide +kernel
theorem dX5_slipTasks_27 : decode cX5_slipTasks 27 = .ok (.aload_n 0, 1) := by decide +kernel
theorem dX5_slipTasks_28 : decode cX5_slipTasks 28 = .ok (.getfield 43, 3) := by decide +kernel
theorem dX5_slipTasks_31 : decode cX5_slipTasks 31 = .ok (.invokevirtual 165, 3) := by decide +kernel
theorem dX5_slipTasks_34 : decode cX5_slipTasks 34 = .ok (.ifCond .eq 7, 3) := by decide +kernel
theorem dX5_slipTasks_37 : decode cX5_slipTasks 37 = .ok (.aload_n 2, 1) := by decide +kernel
theorem dX5_slipTasks_38 : decode cX5_slipTasks 38 = .ok (.invokevirtual 168, 3) := by decide +kernel
theorem dX5_slipTasks_41 : decode cX5_slipTasks 41 = .ok (.iinc 1 1, 3) := by decide +kernel
theorem dX5_slipTasks_44 : decode cX5_slipTasks 44 = .ok (.goto (-42), 3) := by decide +kernel
theorem dX5_slipTasks_47 : decode cX5_slipTasks 47 = .ok (.return_, 1) := by decide +kernel
theorem dX5_reasonAgainst_0 : decode cX5_reasonAgainst 0 = .ok (.aload_n 0, 1) := by decide +kernel
theorem dX5_reasonAgainst_1 : decode cX5_reasonAgainst 1 = .ok (.iload_n 1, 1) := by decide +kernel
theorem dX5_reasonAgainst_2 : decode cX5_reasonAgainst 2 = .ok (.invokevirtual 102, 3) := by decide +kernel
theorem dX5_reasonAgainst_5 : decode cX5_reasonAgainst 5 = .ok (.ifCond .ne 5, 3) := by decide +kernel
theorem dX5_reasonAgainst_8 : decode cX5_reasonAgainst 8 = .ok (.iconst 0, 1) := by decide +kernel
theorem dX5_reasonAgainst_9 : decode cX5_reasonAgainst 9 = .ok (.ireturn, 1) := by decide +kernel
theorem dX5_reasonAgainst_10 : decode cX5_reasonAgainst 10 = .ok (.aload_n 0, 1) := by decide +kernel
theorem dX5_reasonAgainst_11 : decode cX5_reasonAgainst 11 = .ok (.getfield 25, 3) := by decide +kernel
theorem dX5_reasonAgainst_14 : decode cX5_reasonAgainst 14 = .ok (.iload_n 1, 1) := by decide +kernel
theorem dX5_reasonAgainst_15 : decode cX5_reasonAgainst 15 = .ok (.aaload, 1) := by decide +kernel
theorem dX5_reasonAgainst_16 : decode cX5_reasonAgainst 16 = .ok (.astore_n 2, 1) := by decide +kernel
theorem dX5_reasonAgainst_17 : decode cX5_reasonAgainst 17 = .ok (.aload_n 2, 1) := by decide +kernel
theorem dX5_reasonAgainst_18 : decode cX5_reasonAgainst 18 = .ok (.getfield 108, 3) := by decide +kernel
theorem dX5_reasonAgainst_21 : decode cX5_reasonAgainst 21 = .ok (.iconst 1, 1) := by decide +kernel
theorem dX5_reasonAgainst_22 : decode cX5_reasonAgainst 22 = .ok (.if_icmp .eq 5, 3) := by decide +kernel
theorem dX5_reasonAgainst_25 : decode cX5_reasonAgainst 25 = .ok (.iconst 1, 1) := by decide +kernel
theorem dX5_reasonAgainst_26 : decode cX5_reasonAgainst 26 = .ok (.ireturn, 1) := by decide +kernel
theorem dX5_reasonAgainst_27 : decode cX5_reasonAgainst 27 = .ok (.aload_n 0, 1) := by decide +kernel
theorem dX5_reasonAgainst_28 : decode cX5_reasonAgainst 28 = .ok (.getfield 43, 3) := by decide +kernel
theorem dX5_reasonAgainst_31 : decode cX5_reasonAgainst 31 = .ok (.aload_n 2, 1) := by decide +kernel
theorem dX5_reasonAgainst_32 : decode cX5_reasonAgainst 32 = .ok (.getfield 171, 3) := by decide +kernel
theorem dX5_reasonAgainst_35 : decode cX5_reasonAgainst 35 = .ok (.if_icmp .ge 5, 3) := by decide +kernel
theorem dX5_reasonAgainst_38 : decode cX5_reasonAgainst 38 = .ok (.iconst 2, 1) := by decide +kernel
theorem dX5_reasonAgainst_39 : decode cX5_reasonAgainst 39 = .ok (.ireturn, 1) := by decide +kernel
theorem dX5_reasonAgainst_40 : decode cX5_reasonAgainst 40 = .ok (.aload_n 2, 1) := by decide +kernel
theorem dX5_reasonAgainst_41 : decode cX5_reasonAgainst 41 = .ok (.aload_n 0, 1) := by decide +kernel
theorem dX5_reasonAgainst_42 : decode cX5_reasonAgainst 42 = .ok (.getfield 43, 3) := by decide +kernel
theorem dX5_reasonAgainst_45 : decode cX5_reasonAgainst 45 = .ok (.invokevirtual 165, 3) := by decide +kernel
theorem dX5_reasonAgainst_48 : decode cX5_reasonAgainst 48 = .ok (.ifCond .eq 5, 3) := by decide +kernel
theorem dX5_reasonAgainst_51 : decode cX5_reasonAgainst 51 = .ok (.iconst 3, 1) := by decide +kernel
theorem dX5_reasonAgainst_52 : decode cX5_reasonAgainst 52 = .ok (.ireturn, 1) := by decide +kernel
theorem dX5_reasonAgainst_53 : decode cX5_reasonAgainst 53 = .ok (.aload_n 0, 1) := by decide +kernel
theorem dX5_reasonAgainst_54 : decode cX5_reasonAgainst 54 = .ok (.iload_n 1, 1) := by decide +kernel
theorem dX5_reasonAgainst_55 : decode cX5_reasonAgainst 55 = .ok (.invokevirtual 174, 3) := by decide +kernel
theorem dX5_reasonAgainst_58 : decode cX5_reasonAgainst 58 = .ok (.bipush (-5), 2) := by decide +kernel
theorem dX5_reasonAgainst_60 : decode cX5_reasonAgainst 60 = .ok (.if_icmp .eq 7, 3) := by decide +kernel
theorem dX5_reasonAgainst_63 : decode cX5_reasonAgainst 63 = .ok (.iconst 4, 1) := by decide +kernel
theorem dX5_reasonAgainst_64 : decode cX5_reasonAgainst 64 = .ok (.goto 4, 3) := by decide +kernel
theorem dX5_reasonAgainst_67 : decode cX5_reasonAgainst 67 = .ok (.iconst 0, 1) := by decide +kernel
theorem dX5_reasonAgainst_68 : decode cX5_reasonAgainst 68 = .ok (.ireturn, 1) := by decide +kernel
theorem dX5_barrierOf_0 : decode cX5_barrierOf 0 = .ok (.aload_n 0, 1) := by decide +kernel
theorem dX5_barrierOf_1 : decode cX5_barrierOf 1 = .ok (.iload_n 1, 1) := by decide +kernel
theorem dX5_barrierOf_2 : decode cX5_barrierOf 2 = .ok (.invokevirtual 102, 3) := by decide +kernel
theorem dX5_barrierOf_5 : decode cX5_barrierOf 5 = .ok (.ifCond .eq 16, 3) := by decide +kernel
theorem dX5_barrierOf_8 : decode cX5_barrierOf 8 = .ok (.aload_n 0, 1) := by decide +kernel
theorem dX5_barrierOf_9 : decode cX5_barrierOf 9 = .ok (.getfield 25, 3) := by decide +kernel
theorem dX5_barrierOf_12 : decode cX5_barrierOf 12 = .ok (.iload_n 1, 1) := by decide +kernel
theorem dX5_barrierOf_13 : decode cX5_barrierOf 13 = .ok (.aaload, 1) := by decide +kernel
theorem dX5_barrierOf_14 : decode cX5_barrierOf 14 = .ok (.getfield 108, 3) := by decide +kernel
theorem dX5_barrierOf_17 : decode cX5_barrierOf 17 = .ok (.iconst 2, 1) := by decide +kernel
theorem dX5_barrierOf_18 : decode cX5_barrierOf 18 = .ok (.if_icmp .ne 6, 3) := by decide +kernel
theorem dX5_barrierOf_21 : decode cX5_barrierOf 21 = .ok (.bipush (-5), 2) := by decide +kernel
theorem dX5_barrierOf_23 : decode cX5_barrierOf 23 = .ok (.ireturn, 1) := by decide +kernel
theorem dX5_barrierOf_24 : decode cX5_barrierOf 24 = .ok (.aload_n 0, 1) := by decide +kernel
theorem dX5_barrierOf_25 : decode cX5_barrierOf 25 = .ok (.getfield 25, 3) := by decide +kernel
theorem dX5_barrierOf_28 : decode cX5_barrierOf 28 = .ok (.iload_n 1, 1) := by decide +kernel
theorem dX5_barrierOf_29 : decode cX5_barrierOf 29 = .ok (.aaload, 1) := by decide +kernel
theorem dX5_barrierOf_30 : decode cX5_barrierOf 30 = .ok (.astore_n 2, 1) := by decide +kernel
theorem dX5_barrierOf_31 : decode cX5_barrierOf 31 = .ok (.iconst 0, 1) := by decide +kernel
theorem dX5_barrierOf_32 : decode cX5_barrierOf 32 = .ok (.istore_n 3, 1) := by decide +kernel
theorem dX5_barrierOf_33 : decode cX5_barrierOf 33 = .ok (.iload_n 3, 1) := by decide +kernel
theorem dX5_barrierOf_34 : decode cX5_barrierOf 34 = .ok (.aload_n 0, 1) := by decide +kernel
theorem dX5_barrierOf_35 : decode cX5_barrierOf 35 = .ok (.getfield 40, 3) := by decide +kernel
theorem dX5_barrierOf_38 : decode cX5_barrierOf 38 = .ok (.if_icmp .ge 60, 3) := by decide +kernel
theorem dX5_barrierOf_41 : decode cX5_barrierOf 41 = .ok (.aload_n 0, 1) := by decide +kernel
theorem dX5_barrierOf_42 : decode cX5_barrierOf 42 = .ok (.getfield 25, 3) := by decide +kernel
theorem dX5_barrierOf_45 : decode cX5_barrierOf 45 = .ok (.iload_n 3, 1) := by decide +kernel
theorem dX5_barrierOf_46 : decode cX5_barrierOf 46 = .ok (.aaload, 1) := by decide +kernel
theorem dX5_barrierOf_47 : decode cX5_barrierOf 47 = .ok (.astore 4, 2) := by decide +kernel
theorem dX5_barrierOf_49 : decode cX5_barrierOf 49 = .ok (.aload 4, 2) := by decide +kernel
theorem dX5_barrierOf_51 : decode cX5_barrierOf 51 = .ok (.getfield 108, 3) := by decide +kernel
theorem dX5_barrierOf_54 : decode cX5_barrierOf 54 = .ok (.iconst 2, 1) := by decide +kernel
theorem dX5_barrierOf_55 : decode cX5_barrierOf 55 = .ok (.if_icmp .ne 37, 3) := by decide +kernel
theorem dX5_barrierOf_58 : decode cX5_barrierOf 58 = .ok (.aload_n 0, 1) := by decide +kernel
theorem dX5_barrierOf_59 : decode cX5_barrierOf 59 = .ok (.aload_n 2, 1) := by decide +kernel
theorem dX5_barrierOf_60 : decode cX5_barrierOf 60 = .ok (.getfield 177, 3) := by decide +kernel
theorem dX5_barrierOf_63 : decode cX5_barrierOf 63 = .ok (.aload 4, 2) := by decide +kernel
theorem dX5_barrierOf_65 : decode cX5_barrierOf 65 = .ok (.getfield 177, 3) := by decide +kernel
theorem dX5_barrierOf_68 : decode cX5_barrierOf 68 = .ok (.invokevirtual 83, 3) := by decide +kernel
theorem dX5_barrierOf_71 : decode cX5_barrierOf 71 = .ok (.ifCond .eq 21, 3) := by decide +kernel
theorem dX5_barrierOf_74 : decode cX5_barrierOf 74 = .ok (.aload_n 0, 1) := by decide +kernel
theorem dX5_barrierOf_75 : decode cX5_barrierOf 75 = .ok (.aload_n 2, 1) := by decide +kernel
theorem dX5_barrierOf_76 : decode cX5_barrierOf 76 = .ok (.getfield 111, 3) := by decide +kernel
theorem dX5_barrierOf_79 : decode cX5_barrierOf 79 = .ok (.aload 4, 2) := by decide +kernel
theorem dX5_barrierOf_81 : decode cX5_barrierOf 81 = .ok (.getfield 111, 3) := by decide +kernel
theorem dX5_barrierOf_84 : decode cX5_barrierOf 84 = .ok (.invokevirtual 180, 3) := by decide +kernel
theorem dX5_barrierOf_87 : decode cX5_barrierOf 87 = .ok (.ifCond .eq 5, 3) := by decide +kernel
theorem dX5_barrierOf_90 : decode cX5_barrierOf 90 = .ok (.iload_n 3, 1) := by decide +kernel
theorem dX5_barrierOf_91 : decode cX5_barrierOf 91 = .ok (.ireturn, 1) := by decide +kernel
theorem dX5_barrierOf_92 : decode cX5_barrierOf 92 = .ok (.iinc 3 1, 3) := by decide +kernel
theorem dX5_barrierOf_95 : decode cX5_barrierOf 95 = .ok (.goto (-62), 3) := by decide +kernel
theorem dX5_barrierOf_98 : decode cX5_barrierOf 98 = .ok (.bipush (-5), 2) := by decide +kernel
theorem dX5_barrierOf_100 : decode cX5_barrierOf 100 = .ok (.ireturn, 1) := by decide +kernel
theorem dX5_doBar_0 : decode cX5_doBar 0 = .ok (.iload_n 1, 1) := by decide +kernel
theorem dX5_doBar_1 : decode cX5_doBar 1 = .ok (.ifCond .lt 30, 3) := by decide +kernel
theorem dX5_doBar_4 : decode cX5_doBar 4 = .ok (.iload_n 1, 1) := by decide +kernel
theorem dX5_doBar_5 : decode cX5_doBar 5 = .ok (.aload_n 0, 1) := by decide +kernel
theorem dX5_doBar_6 : decode cX5_doBar 6 = .ok (.getfield 29, 3) := by decide +kernel
theorem dX5_doBar_9 : decode cX5_doBar 9 = .ok (.arraylength, 1) := by decide +kernel
theorem dX5_doBar_10 : decode cX5_doBar 10 = .ok (.if_icmp .ge 21, 3) := by decide +kernel
theorem dX5_doBar_13 : decode cX5_doBar 13 = .ok (.aload_n 0, 1) := by decide +kernel
theorem dX5_doBar_14 : decode cX5_doBar 14 = .ok (.getfield 29, 3) := by decide +kernel
theorem dX5_doBar_17 : decode cX5_doBar 17 = .ok (.iload_n 1, 1) := by decide +kernel
theorem dX5_doBar_18 : decode cX5_doBar 18 = .ok (.iaload, 1) := by decide +kernel
theorem dX5_doBar_19 : decode cX5_doBar 19 = .ok (.iload_n 2, 1) := by decide +kernel
theorem dX5_doBar_20 : decode cX5_doBar 20 = .ok (.ishr, 1) := by decide +kernel
theorem dX5_doBar_21 : decode cX5_doBar 21 = .ok (.iconst 1, 1) := by decide +kernel
theorem dX5_doBar_22 : decode cX5_doBar 22 = .ok (.iand, 1) := by decide +kernel
theorem dX5_doBar_23 : decode cX5_doBar 23 = .ok (.iconst 1, 1) := by decide +kernel
theorem dX5_doBar_24 : decode cX5_doBar 24 = .ok (.if_icmp .ne 7, 3) := by decide +kernel
theorem dX5_doBar_27 : decode cX5_doBar 27 = .ok (.iconst 1, 1) := by decide +kernel
theorem dX5_doBar_28 : decode cX5_doBar 28 = .ok (.goto 4, 3) := by decide +kernel
theorem dX5_doBar_31 : decode cX5_doBar 31 = .ok (.iconst 0, 1) := by decide +kernel
theorem dX5_doBar_32 : decode cX5_doBar 32 = .ok (.ireturn, 1) := by decide +kernel
theorem dX5_areNear_0 : decode cX5_areNear 0 = .ok (.iload_n 1, 1) := by decide +kernel
theorem dX5_areNear_1 : decode cX5_areNear 1 = .ok (.iload_n 2, 1) := by decide +kernel
theorem dX5_areNear_2 : decode cX5_areNear 2 = .ok (.if_icmp .eq 28, 3) := by decide +kernel
theorem dX5_areNear_5 : decode cX5_areNear 5 = .ok (.iload_n 1, 1) := by decide +kernel
theorem dX5_areNear_6 : decode cX5_areNear 6 = .ok (.ifCond .lt 28, 3) := by decide +kernel
theorem dX5_areNear_9 : decode cX5_areNear 9 = .ok (.iload_n 1, 1) := by decide +kernel
theorem dX5_areNear_10 : decode cX5_areNear 10 = .ok (.aload_n 0, 1) := by decide +kernel
theorem dX5_areNear_11 : decode cX5_areNear 11 = .ok (.getfield 33, 3) := by decide +kernel
theorem dX5_areNear_14 : decode cX5_areNear 14 = .ok (.if_icmp .ge 20, 3) := by decide +kernel
theorem dX5_areNear_17 : decode cX5_areNear 17 = .ok (.aload_n 0, 1) := by decide +kernel
theorem dX5_areNear_18 : decode cX5_areNear 18 = .ok (.getfield 11, 3) := by decide +kernel
theorem dX5_areNear_21 : decode cX5_areNear 21 = .ok (.iload_n 1, 1) := by decide +kernel
theorem dX5_areNear_22 : decode cX5_areNear 22 = .ok (.aaload, 1) := by decide +kernel
theorem dX5_areNear_23 : decode cX5_areNear 23 = .ok (.iload_n 2, 1) := by decide +kernel
theorem dX5_areNear_24 : decode cX5_areNear 24 = .ok (.invokevirtual 71, 3) := by decide +kernel
theorem dX5_areNear_27 : decode cX5_areNear 27 = .ok (.ifCond .eq 7, 3) := by decide +kernel
theorem dX5_areNear_30 : decode cX5_areNear 30 = .ok (.iconst 1, 1) := by decide +kernel
theorem dX5_areNear_31 : decode cX5_areNear 31 = .ok (.goto 4, 3) := by decide +kernel
theorem dX5_areNear_34 : decode cX5_areNear 34 = .ok (.iconst 0, 1) := by decide +kernel
theorem dX5_areNear_35 : decode cX5_areNear 35 = .ok (.ireturn, 1) := by decide +kernel
theorem dX5_isRunning_0 : decode cX5_isRunning 0 = .ok (.aload_n 0, 1) := by decide +kernel
theorem dX5_isRunning_1 : decode cX5_isRunning 1 = .ok (.iload_n 1, 1) := by decide +kernel
theorem dX5_isRunning_2 : decode cX5_isRunning 2 = .ok (.invokevirtual 67, 3) := by decide +kernel
theorem dX5_isRunning_5 : decode cX5_isRunning 5 = .ok (.ifCond .eq 19, 3) := by decide +kernel
theorem dX5_isRunning_8 : decode cX5_isRunning 8 = .ok (.aload_n 0, 1) := by decide +kernel
theorem dX5_isRunning_9 : decode cX5_isRunning 9 = .ok (.getfield 11, 3) := by decide +kernel
theorem dX5_isRunning_12 : decode cX5_isRunning 12 = .ok (.iload_n 1, 1) := by decide +kernel
theorem dX5_isRunning_13 : decode cX5_isRunning 13 = .ok (.aaload, 1) := by decide +kernel
theorem dX5_isRunning_14 : decode cX5_isRunning 14 = .ok (.getfield 94, 3) := by decide +kernel
theorem dX5_isRunning_17 : decode cX5_isRunning 17 = .ok (.ifCond .eq 7, 3) := by decide +kernel
theorem dX5_isRunning_20 : decode cX5_isRunning 20 = .ok (.iconst 1, 1) := by decide +kernel
theorem dX5_isRunning_21 : decode cX5_isRunning 21 = .ok (.goto 4, 3) := by decide +kernel
theorem dX5_isRunning_24 : decode cX5_isRunning 24 = .ok (.iconst 0, 1) := by decide +kernel
theorem dX5_isRunning_25 : decode cX5_isRunning 25 = .ok (.ireturn, 1) := by decide +kernel
theorem dX5_canServe_0 : decode cX5_canServe 0 = .ok (.aload_n 0, 1) := by decide +kernel
theorem dX5_canServe_1 : decode cX5_canServe 1 = .ok (.getfield 19, 3) := by decide +kernel
theorem dX5_canServe_4 : decode cX5_canServe 4 = .ok (.iload_n 1, 1) := by decide +kernel
theorem dX5_canServe_5 : decode cX5_canServe 5 = .ok (.aaload, 1) := by decide +kernel
theorem dX5_canServe_6 : decode cX5_canServe 6 = .ok (.aload_n 2, 1) := by decide +kernel
theorem dX5_canServe_7 : decode cX5_canServe 7 = .ok (.getfield 183, 3) := by decide +kernel
theorem dX5_canServe_10 : decode cX5_canServe 10 = .ok (.invokevirtual 186, 3) := by decide +kernel
theorem dX5_canServe_13 : decode cX5_canServe 13 = .ok (.ifCond .eq 29, 3) := by decide +kernel
theorem dX5_canServe_16 : decode cX5_canServe 16 = .ok (.aload_n 0, 1) := by decide +kernel
theorem dX5_canServe_17 : decode cX5_canServe 17 = .ok (.getfield 19, 3) := by decide +kernel
theorem dX5_canServe_20 : decode cX5_canServe 20 = .ok (.iload_n 1, 1) := by decide +kernel
theorem dX5_canServe_21 : decode cX5_canServe 21 = .ok (.aaload, 1) := by decide +kernel
theorem dX5_canServe_22 : decode cX5_canServe 22 = .ok (.getfield 189, 3) := by decide +kernel
theorem dX5_canServe_25 : decode cX5_canServe 25 = .ok (.aload_n 0, 1) := by decide +kernel
theorem dX5_canServe_26 : decode cX5_canServe 26 = .ok (.iload_n 1, 1) := by decide +kernel
theorem dX5_canServe_27 : decode cX5_canServe 27 = .ok (.invokevirtual 192, 3) := by decide +kernel
theorem dX5_canServe_30 : decode cX5_canServe 30 = .ok (.isub, 1) := by decide +kernel
theorem dX5_canServe_31 : decode cX5_canServe 31 = .ok (.aload_n 2, 1) := by decide +kernel
theorem dX5_canServe_32 : decode cX5_canServe 32 = .ok (.getfield 195, 3) := by decide +kernel
theorem dX5_canServe_35 : decode cX5_canServe 35 = .ok (.if_icmp .lt 7, 3) := by decide +kernel
theorem dX5_canServe_38 : decode cX5_canServe 38 = .ok (.iconst 1, 1) := by decide +kernel
theorem dX5_canServe_39 : decode cX5_canServe 39 = .ok (.goto 4, 3) := by decide +kernel
theorem dX5_canServe_42 : decode cX5_canServe 42 = .ok (.iconst 0, 1) := by decide +kernel
theorem dX5_canServe_43 : decode cX5_canServe 43 = .ok (.ireturn, 1) := by decide +kernel
theorem dX5_firstCrewFor_0 : decode cX5_firstCrewFor 0 = .ok (.aload_n 0, 1) := by decide +kernel
theorem dX5_firstCrewFor_1 : decode cX5_firstCrewFor 1 = .ok (.iload_n 1, 1) := by decide +kernel
theorem dX5_firstCrewFor_2 : decode cX5_firstCrewFor 2 = .ok (.invokevirtual 102, 3) := by decide +kernel
theorem dX5_firstCrewFor_5 : decode cX5_firstCrewFor 5 = .ok (.ifCond .eq 15, 3) := by decide +kernel
theorem dX5_firstCrewFor_8 : decode cX5_firstCrewFor 8 = .ok (.aload_n 0, 1) := by decide +kernel
theorem dX5_firstCrewFor_9 : decode cX5_firstCrewFor 9 = .ok (.getfield 25, 3) := by decide +kernel
theorem dX5_firstCrewFor_12 : decode cX5_firstCrewFor 12 = .ok (.iload_n 1, 1) := by decide +kernel
theorem dX5_firstCrewFor_13 : decode cX5_firstCrewFor 13 = .ok (.aaload, 1) := by decide +kernel
theorem dX5_firstCrewFor_14 : decode cX5_firstCrewFor 14 = .ok (.getfield 108, 3) := by decide +kernel
theorem dX5_firstCrewFor_17 : decode cX5_firstCrewFor 17 = .ok (.ifCond .eq 6, 3) := by decide +kernel
theorem dX5_firstCrewFor_20 : decode cX5_firstCrewFor 20 = .ok (.bipush (-5), 2) := by decide +kernel
theorem dX5_firstCrewFor_22 : decode cX5_firstCrewFor 22 = .ok (.ireturn, 1) := by decide +kernel
theorem dX5_firstCrewFor_23 : decode cX5_firstCrewFor 23 = .ok (.iconst 0, 1) := by decide +kernel
theorem dX5_firstCrewFor_24 : decode cX5_firstCrewFor 24 = .ok (.istore_n 2, 1) := by decide +kernel
theorem dX5_firstCrewFor_25 : decode cX5_firstCrewFor 25 = .ok (.iload_n 2, 1) := by decide +kernel
theorem dX5_firstCrewFor_26 : decode cX5_firstCrewFor 26 = .ok (.aload_n 0, 1) := by decide +kernel
theorem dX5_firstCrewFor_27 : decode cX5_firstCrewFor 27 = .ok (.getfield 37, 3) := by decide +kernel
theorem dX5_firstCrewFor_30 : decode cX5_firstCrewFor 30 = .ok (.if_icmp .ge 25, 3) := by decide +kernel
theorem dX5_firstCrewFor_33 : decode cX5_firstCrewFor 33 = .ok (.aload_n 0, 1) := by decide +kernel
theorem dX5_firstCrewFor_34 : decode cX5_firstCrewFor 34 = .ok (.iload_n 2, 1) := by decide +kernel
theorem dX5_firstCrewFor_35 : decode cX5_firstCrewFor 35 = .ok (.aload_n 0, 1) := by decide +kernel
theorem dX5_firstCrewFor_36 : decode cX5_firstCrewFor 36 = .ok (.getfield 25, 3) := by decide +kernel
theorem dX5_firstCrewFor_39 : decode cX5_firstCrewFor 39 = .ok (.iload_n 1, 1) := by decide +kernel
theorem dX5_firstCrewFor_40 : decode cX5_firstCrewFor 40 = .ok (.aaload, 1) := by decide +kernel
theorem dX5_firstCrewFor_41 : decode cX5_firstCrewFor 41 = .ok (.invokevirtual 117, 3) := by decide +kernel
theorem dX5_firstCrewFor_44 : decode cX5_firstCrewFor 44 = .ok (.ifCond .eq 5, 3) := by decide +kernel
theorem dX5_firstCrewFor_47 : decode cX5_firstCrewFor 47 = .ok (.iload_n 2, 1) := by decide +kernel
theorem dX5_firstCrewFor_48 : decode cX5_firstCrewFor 48 = .ok (.ireturn, 1) := by decide +kernel
theorem dX5_firstCrewFor_49 : decode cX5_firstCrewFor 49 = .ok (.iinc 2 1, 3) := by decide +kernel
theorem dX5_firstCrewFor_52 : decode cX5_firstCrewFor 52 = .ok (.goto (-27), 3) := by decide +kernel
theorem dX5_firstCrewFor_55 : decode cX5_firstCrewFor 55 = .ok (.bipush (-5), 2) := by decide +kernel
theorem dX5_firstCrewFor_57 : decode cX5_firstCrewFor 57 = .ok (.ireturn, 1) := by decide +kernel
theorem dX5_tagsHanging_0 : decode cX5_tagsHanging 0 = .ok (.aload_n 0, 1) := by decide +kernel
theorem dX5_tagsHanging_1 : decode cX5_tagsHanging 1 = .ok (.iload_n 1, 1) := by decide +kernel
theorem dX5_tagsHanging_2 : decode cX5_tagsHanging 2 = .ok (.iconst 1, 1) := by decide +kernel
theorem dX5_tagsHanging_3 : decode cX5_tagsHanging 3 = .ok (.iconst 3, 1) := by decide +kernel
theorem dX5_tagsHanging_4 : decode cX5_tagsHanging 4 = .ok (.invokevirtual 196, 3) := by decide +kernel
theorem dX5_tagsHanging_7 : decode cX5_tagsHanging 7 = .ok (.ireturn, 1) := by decide +kernel
theorem dX5_taskOfTag_0 : decode cX5_taskOfTag 0 = .ok (.aload_n 0, 1) := by decide +kernel
theorem dX5_taskOfTag_1 : decode cX5_taskOfTag 1 = .ok (.iload_n 1, 1) := by decide +kernel
theorem dX5_taskOfTag_2 : decode cX5_taskOfTag 2 = .ok (.invokevirtual 91, 3) := by decide +kernel
theorem dX5_taskOfTag_5 : decode cX5_taskOfTag 5 = .ok (.iconst 1, 1) := by decide +kernel
theorem dX5_taskOfTag_6 : decode cX5_taskOfTag 6 = .ok (.isub, 1) := by decide +kernel
theorem dX5_taskOfTag_7 : decode cX5_taskOfTag 7 = .ok (.iload_n 2, 1) := by decide +kernel
theorem dX5_taskOfTag_8 : decode cX5_taskOfTag 8 = .ok (.isub, 1) := by decide +kernel
theorem dX5_taskOfTag_9 : decode cX5_taskOfTag 9 = .ok (.istore_n 3, 1) := by decide +kernel
theorem dX5_taskOfTag_10 : decode cX5_taskOfTag 10 = .ok (.iconst 0, 1) := by decide +kernel
theorem dX5_taskOfTag_11 : decode cX5_taskOfTag 11 = .ok (.istore 4, 2) := by decide +kernel
theorem dX5_taskOfTag_13 : decode cX5_taskOfTag 13 = .ok (.iload 4, 2) := by decide +kernel
theorem dX5_taskOfTag_15 : decode cX5_taskOfTag 15 = .ok (.aload_n 0, 1) := by decide +kernel
theorem dX5_taskOfTag_16 : decode cX5_taskOfTag 16 = .ok (.getfield 40, 3) := by decide +kernel
theorem dX5_taskOfTag_19 : decode cX5_taskOfTag 19 = .ok (.if_icmp .ge 47, 3) := by decide +kernel
theorem dX5_taskOfTag_22 : decode cX5_taskOfTag 22 = .ok (.aload_n 0, 1) := by decide +kernel
theorem dX5_taskOfTag_23 : decode cX5_taskOfTag 23 = .ok (.getfield 25, 3) := by decide +kernel
theorem dX5_taskOfTag_26 : decode cX5_taskOfTag 26 = .ok (.iload 4, 2) := by decide +kernel
theorem dX5_taskOfTag_28 : decode cX5_taskOfTag 28 = .ok (.aaload, 1) := by decide +kernel
theorem dX5_taskOfTag_29 : decode cX5_taskOfTag 29 = .ok (.astore 5, 2) := by decide +kernel
theorem dX5_taskOfTag_31 : decode cX5_taskOfTag 31 = .ok (.aload 5, 2) := by decide +kernel
theorem dX5_taskOfTag_33 : decode cX5_taskOfTag 33 = .ok (.getfield 111, 3) := by decide +kernel
theorem dX5_taskOfTag_36 : decode cX5_taskOfTag 36 = .ok (.iload_n 1, 1) := by decide +kernel
theorem dX5_taskOfTag_37 : decode cX5_taskOfTag 37 = .ok (.if_icmp .ne 23, 3) := by decide +kernel
theorem dX5_taskOfTag_40 : decode cX5_taskOfTag 40 = .ok (.aload 5, 2) := by decide +kernel
theorem dX5_taskOfTag_42 : decode cX5_taskOfTag 42 = .ok (.invokevirtual 200, 3) := by decide +kernel
theorem dX5_taskOfTag_45 : decode cX5_taskOfTag 45 = .ok (.ifCond .eq 15, 3) := by decide +kernel
theorem dX5_taskOfTag_48 : decode cX5_taskOfTag 48 = .ok (.aload 5, 2) := by decide +kernel
theorem dX5_taskOfTag_50 : decode cX5_taskOfTag 50 = .ok (.getfield 121, 3) := by decide +kernel
theorem dX5_taskOfTag_53 : decode cX5_taskOfTag 53 = .ok (.iload_n 3, 1) := by decide +kernel
theorem dX5_taskOfTag_54 : decode cX5_taskOfTag 54 = .ok (.if_icmp .ne 6, 3) := by decide +kernel
theorem dX5_taskOfTag_57 : decode cX5_taskOfTag 57 = .ok (.iload 4, 2) := by decide +kernel
theorem dX5_taskOfTag_59 : decode cX5_taskOfTag 59 = .ok (.ireturn, 1) := by decide +kernel
theorem dX5_taskOfTag_60 : decode cX5_taskOfTag 60 = .ok (.iinc 4 1, 3) := by decide +kernel
theorem dX5_taskOfTag_63 : decode cX5_taskOfTag 63 = .ok (.goto (-50), 3) := by decide +kernel
theorem dX5_taskOfTag_66 : decode cX5_taskOfTag 66 = .ok (.bipush (-5), 2) := by decide +kernel
theorem dX5_taskOfTag_68 : decode cX5_taskOfTag 68 = .ok (.ireturn, 1) := by decide +kernel
theorem dX5_tasksOfAsset_0 : decode cX5_tasksOfAsset 0 = .ok (.iconst 0, 1) := by decide +kernel
theorem dX5_tasksOfAsset_1 : decode cX5_tasksOfAsset 1 = .ok (.istore 4, 2) := by decide +kernel
theorem dX5_tasksOfAsset_3 : decode cX5_tasksOfAsset 3 = .ok (.iconst 0, 1) := by decide +kernel
theorem dX5_tasksOfAsset_4 : decode cX5_tasksOfAsset 4 = .ok (.istore 5, 2) := by decide +kernel
theorem dX5_tasksOfAsset_6 : decode cX5_tasksOfAsset 6 = .ok (.iload 5, 2) := by decide +kernel
theorem dX5_tasksOfAsset_8 : decode cX5_tasksOfAsset 8 = .ok (.aload_n 0, 1) := by decide +kernel
theorem dX5_tasksOfAsset_9 : decode cX5_tasksOfAsset 9 = .ok (.getfield 40, 3) := by decide +kernel
theorem dX5_tasksOfAsset_12 : decode cX5_tasksOfAsset 12 = .ok (.if_icmp .ge 41, 3) := by decide +kernel
theorem dX5_tasksOfAsset_15 : decode cX5_tasksOfAsset 15 = .ok (.aload_n 0, 1) := by decide +kernel
theorem dX5_tasksOfAsset_16 : decode cX5_tasksOfAsset 16 = .ok (.getfield 25, 3) := by decide +kernel
theorem dX5_tasksOfAsset_19 : decode cX5_tasksOfAsset 19 = .ok (.iload 5, 2) := by decide +kernel
theorem dX5_tasksOfAsset_21 : decode cX5_tasksOfAsset 21 = .ok (.aaload, 1) := by decide +kernel
theorem dX5_tasksOfAsset_22 : decode cX5_tasksOfAsset 22 = .ok (.getfield 111, 3) := by decide +kernel
theorem dX5_tasksOfAsset_25 : decode cX5_tasksOfAsset 25 = .ok (.iload_n 1, 1) := by decide +kernel
theorem dX5_tasksOfAsset_26 : decode cX5_tasksOfAsset 26 = .ok (.if_icmp .ne 21, 3) := by decide +kernel
theorem dX5_tasksOfAsset_29 : decode cX5_tasksOfAsset 29 = .ok (.aload_n 0, 1) := by decide +kernel
theorem dX5_tasksOfAsset_30 : decode cX5_tasksOfAsset 30 = .ok (.getfield 25, 3) := by decide +kernel
theorem dX5_tasksOfAsset_33 : decode cX5_tasksOfAsset 33 = .ok (.iload 5, 2) := by decide +kernel
theorem dX5_tasksOfAsset_35 : decode cX5_tasksOfAsset 35 = .ok (.aaload, 1) := by decide +kernel
theorem dX5_tasksOfAsset_36 : decode cX5_tasksOfAsset 36 = .ok (.iload_n 2, 1) := by decide +kernel
theorem dX5_tasksOfAsset_37 : decode cX5_tasksOfAsset 37 = .ok (.iload_n 3, 1) := by decide +kernel
theorem dX5_tasksOfAsset_38 : decode cX5_tasksOfAsset 38 = .ok (.invokevirtual 162, 3) := by decide +kernel
theorem dX5_tasksOfAsset_41 : decode cX5_tasksOfAsset 41 = .ok (.ifCond .eq 6, 3) := by decide +kernel
theorem dX5_tasksOfAsset_44 : decode cX5_tasksOfAsset 44 = .ok (.iinc 4 1, 3) := by decide +kernel
theorem dX5_tasksOfAsset_47 : decode cX5_tasksOfAsset 47 = .ok (.iinc 5 1, 3) := by decide +kernel
theorem dX5_tasksOfAsset_50 : decode cX5_tasksOfAsset 50 = .ok (.goto (-44), 3) := by decide +kernel
theorem dX5_tasksOfAsset_53 : decode cX5_tasksOfAsset 53 = .ok (.iload 4, 2) := by decide +kernel
theorem dX5_tasksOfAsset_55 : decode cX5_tasksOfAsset 55 = .ok (.ireturn, 1) := by decide +kernel
theorem dX5_tasksOfCrew_0 : decode cX5_tasksOfCrew 0 = .ok (.iconst 0, 1) := by decide +kernel
theorem dX5_tasksOfCrew_1 : decode cX5_tasksOfCrew 1 = .ok (.istore 4, 2) := by decide +kernel
theorem dX5_tasksOfCrew_3 : decode cX5_tasksOfCrew 3 = .ok (.iconst 0, 1) := by decide +kernel
theorem dX5_tasksOfCrew_4 : decode cX5_tasksOfCrew 4 = .ok (.istore 5, 2) := by decide +kernel
theorem dX5_tasksOfCrew_6 : decode cX5_tasksOfCrew 6 = .ok (.iload 5, 2) := by decide +kernel
theorem dX5_tasksOfCrew_8 : decode cX5_tasksOfCrew 8 = .ok (.aload_n 0, 1) := by decide +kernel
theorem dX5_tasksOfCrew_9 : decode cX5_tasksOfCrew 9 = .ok (.getfield 40, 3) := by decide +kernel
theorem dX5_tasksOfCrew_12 : decode cX5_tasksOfCrew 12 = .ok (.if_icmp .ge 41, 3) := by decide +kernel
theorem dX5_tasksOfCrew_15 : decode cX5_tasksOfCrew 15 = .ok (.aload_n 0, 1) := by decide +kernel
theorem dX5_tasksOfCrew_16 : decode cX5_tasksOfCrew 16 = .ok (.getfield 25, 3) := by decide +kernel
theorem dX5_tasksOfCrew_19 : decode cX5_tasksOfCrew 19 = .ok (.iload 5, 2) := by decide +kernel
theorem dX5_tasksOfCrew_21 : decode cX5_tasksOfCrew 21 = .ok (.aaload, 1) := by decide +kernel
theorem dX5_tasksOfCrew_22 : decode cX5_tasksOfCrew 22 = .ok (.getfield 124, 3) := by decide +kernel
theorem dX5_tasksOfCrew_25 : decode cX5_tasksOfCrew 25 = .ok (.iload_n 1, 1) := by decide +kernel
theorem dX5_tasksOfCrew_26 : decode cX5_tasksOfCrew 26 = .ok (.if_icmp .ne 21, 3) := by decide +kernel
theorem dX5_tasksOfCrew_29 : decode cX5_tasksOfCrew 29 = .ok (.aload_n 0, 1) := by decide +kernel
theorem dX5_tasksOfCrew_30 : decode cX5_tasksOfCrew 30 = .ok (.getfield 25, 3) := by decide +kernel
theorem dX5_tasksOfCrew_33 : decode cX5_tasksOfCrew 33 = .ok (.iload 5, 2) := by decide +kernel
theorem dX5_tasksOfCrew_35 : decode cX5_tasksOfCrew 35 = .ok (.aaload, 1) := by decide +kernel
theorem dX5_tasksOfCrew_36 : decode cX5_tasksOfCrew 36 = .ok (.iload_n 2, 1) := by decide +kernel
theorem dX5_tasksOfCrew_37 : decode cX5_tasksOfCrew 37 = .ok (.iload_n 3, 1) := by decide +kernel
theorem dX5_tasksOfCrew_38 : decode cX5_tasksOfCrew 38 = .ok (.invokevirtual 162, 3) := by decide +kernel
theorem dX5_tasksOfCrew_41 : decode cX5_tasksOfCrew 41 = .ok (.ifCond .eq 6, 3) := by decide +kernel
theorem dX5_tasksOfCrew_44 : decode cX5_tasksOfCrew 44 = .ok (.iinc 4 1, 3) := by decide +kernel
theorem dX5_tasksOfCrew_47 : decode cX5_tasksOfCrew 47 = .ok (.iinc 5 1, 3) := by decide +kernel
theorem dX5_tasksOfCrew_50 : decode cX5_tasksOfCrew 50 = .ok (.goto (-44), 3) := by decide +kernel
theorem dX5_tasksOfCrew_53 : decode cX5_tasksOfCrew 53 = .ok (.iload 4, 2) := by decide +kernel
theorem dX5_tasksOfCrew_55 : decode cX5_tasksOfCrew 55 = .ok (.ireturn, 1) := by decide +kernel
theorem dX5_tasksIn_0 : decode cX5_tasksIn 0 = .ok (.iconst 0, 1) := by decide +kernel
theorem dX5_tasksIn_1 : decode cX5_tasksIn 1 = .ok (.istore_n 3, 1) := by decide +kernel
theorem dX5_tasksIn_2 : decode cX5_tasksIn 2 = .ok (.iconst 0, 1) := by decide +kernel
theorem dX5_tasksIn_3 : decode cX5_tasksIn 3 = .ok (.istore 4, 2) := by decide +kernel
theorem dX5_tasksIn_5 : decode cX5_tasksIn 5 = .ok (.iload 4, 2) := by decide +kernel
theorem dX5_tasksIn_7 : decode cX5_tasksIn 7 = .ok (.aload_n 0, 1) := by decide +kernel
theorem dX5_tasksIn_8 : decode cX5_tasksIn 8 = .ok (.getfield 40, 3) := by decide +kernel
theorem dX5_tasksIn_11 : decode cX5_tasksIn 11 = .ok (.if_icmp .ge 27, 3) := by decide +kernel
theorem dX5_tasksIn_14 : decode cX5_tasksIn 14 = .ok (.aload_n 0, 1) := by decide +kernel
theorem dX5_tasksIn_15 : decode cX5_tasksIn 15 = .ok (.getfield 25, 3) := by decide +kernel
theorem dX5_tasksIn_18 : decode cX5_tasksIn 18 = .ok (.iload 4, 2) := by decide +kernel
theorem dX5_tasksIn_20 : decode cX5_tasksIn 20 = .ok (.aaload, 1) := by decide +kernel
theorem dX5_tasksIn_21 : decode cX5_tasksIn 21 = .ok (.iload_n 1, 1) := by decide +kernel
theorem dX5_tasksIn_22 : decode cX5_tasksIn 22 = .ok (.iload_n 2, 1) := by decide +kernel
theorem dX5_tasksIn_23 : decode cX5_tasksIn 23 = .ok (.invokevirtual 162, 3) := by decide +kernel
theorem dX5_tasksIn_26 : decode cX5_tasksIn 26 = .ok (.ifCond .eq 6, 3) := by decide +kernel
theorem dX5_tasksIn_29 : decode cX5_tasksIn 29 = .ok (.iinc 3 1, 3) := by decide +kernel
theorem dX5_tasksIn_32 : decode cX5_tasksIn 32 = .ok (.iinc 4 1, 3) := by decide +kernel
theorem dX5_tasksIn_35 : decode cX5_tasksIn 35 = .ok (.goto (-30), 3) := by decide +kernel
theorem dX5_tasksIn_38 : decode cX5_tasksIn 38 = .ok (.iload_n 3, 1) := by decide +kernel
theorem dX5_tasksIn_39 : decode cX5_tasksIn 39 = .ok (.ireturn, 1) := by decide +kernel
theorem dX5_busyPeople_0 : decode cX5_busyPeople 0 = .ok (.iconst 0, 1) := by decide +kernel
theorem dX5_busyPeople_1 : decode cX5_busyPeople 1 = .ok (.istore_n 2, 1) := by decide +kernel
theorem dX5_busyPeople_2 : decode cX5_busyPeople 2 = .ok (.iconst 0, 1) := by decide +kernel
theorem dX5_busyPeople_3 : decode cX5_busyPeople 3 = .ok (.istore_n 3, 1) := by decide +kernel
theorem dX5_busyPeople_4 : decode cX5_busyPeople 4 = .ok (.iload_n 3, 1) := by decide +kernel
theorem dX5_busyPeople_5 : decode cX5_busyPeople 5 = .ok (.aload_n 0, 1) := by decide +kernel
theorem dX5_busyPeople_6 : decode cX5_busyPeople 6 = .ok (.getfield 40, 3) := by decide +kernel
theorem dX5_busyPeople_9 : decode cX5_busyPeople 9 = .ok (.if_icmp .ge 46, 3) := by decide +kernel
theorem dX5_busyPeople_12 : decode cX5_busyPeople 12 = .ok (.aload_n 0, 1) := by decide +kernel
theorem dX5_busyPeople_13 : decode cX5_busyPeople 13 = .ok (.getfield 25, 3) := by decide +kernel
theorem dX5_busyPeople_16 : decode cX5_busyPeople 16 = .ok (.iload_n 3, 1) := by decide +kernel
theorem dX5_busyPeople_17 : decode cX5_busyPeople 17 = .ok (.aaload, 1) := by decide +kernel
theorem dX5_busyPeople_18 : decode cX5_busyPeople 18 = .ok (.getfield 124, 3) := by decide +kernel
theorem dX5_busyPeople_21 : decode cX5_busyPeople 21 = .ok (.iload_n 1, 1) := by decide +kernel
theorem dX5_busyPeople_22 : decode cX5_busyPeople 22 = .ok (.if_icmp .ne 27, 3) := by decide +kernel
theorem dX5_busyPeople_25 : decode cX5_busyPeople 25 = .ok (.aload_n 0, 1) := by decide +kernel
theorem dX5_busyPeople_26 : decode cX5_busyPeople 26 = .ok (.getfield 25, 3) := by decide +kernel
theorem dX5_busyPeople_29 : decode cX5_busyPeople 29 = .ok (.iload_n 3, 1) := by decide +kernel
theorem dX5_busyPeople_30 : decode cX5_busyPeople 30 = .ok (.aaload, 1) := by decide +kernel
theorem dX5_busyPeople_31 : decode cX5_busyPeople 31 = .ok (.invokevirtual 200, 3) := by decide +kernel
theorem dX5_busyPeople_34 : decode cX5_busyPeople 34 = .ok (.ifCond .eq 15, 3) := by decide +kernel
theorem dX5_busyPeople_37 : decode cX5_busyPeople 37 = .ok (.iload_n 2, 1) := by decide +kernel
theorem dX5_busyPeople_38 : decode cX5_busyPeople 38 = .ok (.aload_n 0, 1) := by decide +kernel
theorem dX5_busyPeople_39 : decode cX5_busyPeople 39 = .ok (.getfield 25, 3) := by decide +kernel
theorem dX5_busyPeople_42 : decode cX5_busyPeople 42 = .ok (.iload_n 3, 1) := by decide +kernel
theorem dX5_busyPeople_43 : decode cX5_busyPeople 43 = .ok (.aaload, 1) := by decide +kernel
theorem dX5_busyPeople_44 : decode cX5_busyPeople 44 = .ok (.getfield 195, 3) := by decide +kernel
theorem dX5_busyPeople_47 : decode cX5_busyPeople 47 = .ok (.iadd, 1) := by decide +kernel
theorem dX5_busyPeople_48 : decode cX5_busyPeople 48 = .ok (.istore_n 2, 1) := by decide +kernel
theorem dX5_busyPeople_49 : decode cX5_busyPeople 49 = .ok (.iinc 3 1, 3) := by decide +kernel
theorem dX5_busyPeople_52 : decode cX5_busyPeople 52 = .ok (.goto (-48), 3) := by decide +kernel
theorem dX5_busyPeople_55 : decode cX5_busyPeople 55 = .ok (.iload_n 2, 1) := by decide +kernel
theorem dX5_busyPeople_56 : decode cX5_busyPeople 56 = .ok (.ireturn, 1) := by decide +kernel
theorem dX5_allBusyPeople_0 : decode cX5_allBusyPeople 0 = .ok (.iconst 0, 1) := by decide +kernel
theorem dX5_allBusyPeople_1 : decode cX5_allBusyPeople 1 = .ok (.istore_n 1, 1) := by decide +kernel
theorem dX5_allBusyPeople_2 : decode cX5_allBusyPeople 2 = .ok (.iconst 0, 1) := by decide +kernel
theorem dX5_allBusyPeople_3 : decode cX5_allBusyPeople 3 = .ok (.istore_n 2, 1) := by decide +kernel
theorem dX5_allBusyPeople_4 : decode cX5_allBusyPeople 4 = .ok (.iload_n 2, 1) := by decide +kernel
theorem dX5_allBusyPeople_5 : decode cX5_allBusyPeople 5 = .ok (.aload_n 0, 1) := by decide +kernel
theorem dX5_allBusyPeople_6 : decode cX5_allBusyPeople 6 = .ok (.getfield 40, 3) := by decide +kernel
theorem dX5_allBusyPeople_9 : decode cX5_allBusyPeople 9 = .ok (.if_icmp .ge 33, 3) := by decide +kernel
theorem dX5_allBusyPeople_12 : decode cX5_allBusyPeople 12 = .ok (.aload_n 0, 1) := by decide +kernel
theorem dX5_allBusyPeople_13 : decode cX5_allBusyPeople 13 = .ok (.getfield 25, 3) := by decide +kernel
theorem dX5_allBusyPeople_16 : decode cX5_allBusyPeople 16 = .ok (.iload_n 2, 1) := by decide +kernel
theorem dX5_allBusyPeople_17 : decode cX5_allBusyPeople 17 = .ok (.aaload, 1) := by decide +kernel
theorem dX5_allBusyPeople_18 : decode cX5_allBusyPeople 18 = .ok (.invokevirtual 200, 3) := by decide +kernel
theorem dX5_allBusyPeople_21 : decode cX5_allBusyPeople 21 = .ok (.ifCond .eq 15, 3) := by decide +kernel
theorem dX5_allBusyPeople_24 : decode cX5_allBusyPeople 24 = .ok (.iload_n 1, 1) := by decide +kernel
theorem dX5_allBusyPeople_25 : decode cX5_allBusyPeople 25 = .ok (.aload_n 0, 1) := by decide +kernel
theorem dX5_allBusyPeople_26 : decode cX5_allBusyPeople 26 = .ok (.getfield 25, 3) := by decide +kernel
theorem dX5_allBusyPeople_29 : decode cX5_allBusyPeople 29 = .ok (.iload_n 2, 1) := by decide +kernel
theorem dX5_allBusyPeople_30 : decode cX5_allBusyPeople 30 = .ok (.aaload, 1) := by decide +kernel
theorem dX5_allBusyPeople_31 : decode cX5_allBusyPeople 31 = .ok (.getfield 195, 3) := by decide +kernel
theorem dX5_allBusyPeople_34 : decode cX5_allBusyPeople 34 = .ok (.iadd, 1) := by decide +kernel
theorem dX5_allBusyPeople_35 : decode cX5_allBusyPeople 35 = .ok (.istore_n 1, 1) := by decide +kernel
theorem dX5_allBusyPeople_36 : decode cX5_allBusyPeople 36 = .ok (.iinc 2 1, 3) := by decide +kernel
theorem dX5_allBusyPeople_39 : decode cX5_allBusyPeople 39 = .ok (.goto (-35), 3) := by decide +kernel
theorem dX5_allBusyPeople_42 : decode cX5_allBusyPeople 42 = .ok (.iload_n 1, 1) := by decide +kernel
theorem dX5_allBusyPeople_43 : decode cX5_allBusyPeople 43 = .ok (.ireturn, 1) := by decide +kernel
theorem dX5_assetsRunning_0 : decode cX5_assetsRunning 0 = .ok (.iconst 0, 1) := by decide +kernel
theorem dX5_assetsRunning_1 : decode cX5_assetsRunning 1 = .ok (.istore_n 1, 1) := by decide +kernel
theorem dX5_assetsRunning_2 : decode cX5_assetsRunning 2 = .ok (.iconst 0, 1) := by decide +kernel
theorem dX5_assetsRunning_3 : decode cX5_assetsRunning 3 = .ok (.istore_n 2, 1) := by decide +kernel
theorem dX5_assetsRunning_4 : decode cX5_assetsRunning 4 = .ok (.iload_n 2, 1) := by decide +kernel
theorem dX5_assetsRunning_5 : decode cX5_assetsRunning 5 = .ok (.aload_n 0, 1) := by decide +kernel
theorem dX5_assetsRunning_6 : decode cX5_assetsRunning 6 = .ok (.getfield 33, 3) := by decide +kernel
theorem dX5_assetsRunning_9 : decode cX5_assetsRunning 9 = .ok (.if_icmp .ge 24, 3) := by decide +kernel
theorem dX5_assetsRunning_12 : decode cX5_assetsRunning 12 = .ok (.aload_n 0, 1) := by decide +kernel
theorem dX5_assetsRunning_13 : decode cX5_assetsRunning 13 = .ok (.getfield 11, 3) := by decide +kernel
theorem dX5_assetsRunning_16 : decode cX5_assetsRunning 16 = .ok (.iload_n 2, 1) := by decide +kernel
theorem dX5_assetsRunning_17 : decode cX5_assetsRunning 17 = .ok (.aaload, 1) := by decide +kernel
theorem dX5_assetsRunning_18 : decode cX5_assetsRunning 18 = .ok (.getfield 94, 3) := by decide +kernel
theorem dX5_assetsRunning_21 : decode cX5_assetsRunning 21 = .ok (.ifCond .eq 6, 3) := by decide +kernel
theorem dX5_assetsRunning_24 : decode cX5_assetsRunning 24 = .ok (.iinc 1 1, 3) := by decide +kernel
theorem dX5_assetsRunning_27 : decode cX5_assetsRunning 27 = .ok (.iinc 2 1, 3) := by decide +kernel
theorem dX5_assetsRunning_30 : decode cX5_assetsRunning 30 = .ok (.goto (-26), 3) := by decide +kernel
theorem dX5_assetsRunning_33 : decode cX5_assetsRunning 33 = .ok (.iload_n 1, 1) := by decide +kernel
theorem dX5_assetsRunning_34 : decode cX5_assetsRunning 34 = .ok (.ireturn, 1) := by decide +kernel
theorem dX5_slipsSoFar_0 : decode cX5_slipsSoFar 0 = .ok (.iconst 0, 1) := by decide +kernel
theorem dX5_slipsSoFar_1 : decode cX5_slipsSoFar 1 = .ok (.istore_n 1, 1) := by decide +kernel
theorem dX5_slipsSoFar_2 : decode cX5_slipsSoFar 2 = .ok (.iconst 0, 1) := by decide +kernel
theorem dX5_slipsSoFar_3 : decode cX5_slipsSoFar 3 = .ok (.istore_n 2, 1) := by decide +kernel
theorem dX5_slipsSoFar_4 : decode cX5_slipsSoFar 4 = .ok (.iload_n 2, 1) := by decide +kernel
theorem dX5_slipsSoFar_5 : decode cX5_slipsSoFar 5 = .ok (.aload_n 0, 1) := by decide +kernel
theorem dX5_slipsSoFar_6 : decode cX5_slipsSoFar 6 = .ok (.getfield 40, 3) := by decide +kernel
theorem dX5_slipsSoFar_9 : decode cX5_slipsSoFar 9 = .ok (.if_icmp .ge 21, 3) := by decide +kernel
theorem dX5_slipsSoFar_12 : decode cX5_slipsSoFar 12 = .ok (.iload_n 1, 1) := by decide +kernel
theorem dX5_slipsSoFar_13 : decode cX5_slipsSoFar 13 = .ok (.aload_n 0, 1) := by decide +kernel
theorem dX5_slipsSoFar_14 : decode cX5_slipsSoFar 14 = .ok (.getfield 25, 3) := by decide +kernel
theorem dX5_slipsSoFar_17 : decode cX5_slipsSoFar 17 = .ok (.iload_n 2, 1) := by decide +kernel
theorem dX5_slipsSoFar_18 : decode cX5_slipsSoFar 18 = .ok (.aaload, 1) := by decide +kernel
theorem dX5_slipsSoFar_19 : decode cX5_slipsSoFar 19 = .ok (.getfield 140, 3) := by decide +kernel
theorem dX5_slipsSoFar_22 : decode cX5_slipsSoFar 22 = .ok (.iadd, 1) := by decide +kernel
theorem dX5_slipsSoFar_23 : decode cX5_slipsSoFar 23 = .ok (.istore_n 1, 1) := by decide +kernel
theorem dX5_slipsSoFar_24 : decode cX5_slipsSoFar 24 = .ok (.iinc 2 1, 3) := by decide +kernel
theorem dX5_slipsSoFar_27 : decode cX5_slipsSoFar 27 = .ok (.goto (-23), 3) := by decide +kernel
theorem dX5_slipsSoFar_30 : decode cX5_slipsSoFar 30 = .ok (.iload_n 1, 1) := by decide +kernel
theorem dX5_slipsSoFar_31 : decode cX5_slipsSoFar 31 = .ok (.ireturn, 1) := by decide +kernel
theorem dX6_init_0 : decode cX6_init 0 = .ok (.aload_n 0, 1) := by decide +kernel
theorem dX6_init_1 : decode cX6_init 1 = .ok (.invokespecial 3, 3) := by decide +kernel
theorem dX6_init_4 : decode cX6_init 4 = .ok (.aload_n 0, 1) := by decide +kernel
theorem dX6_init_5 : decode cX6_init 5 = .ok (.iconst 0, 1) := by decide +kernel
theorem dX6_init_6 : decode cX6_init 6 = .ok (.putfield 9, 3) := by decide +kernel
theorem dX6_init_9 : decode cX6_init 9 = .ok (.aload_n 0, 1) := by decide +kernel
theorem dX6_init_10 : decode cX6_init 10 = .ok (.iconst 0, 1) := by decide +kernel
theorem dX6_init_11 : decode cX6_init 11 = .ok (.putfield 15, 3) := by decide +kernel
theorem dX6_init_14 : decode cX6_init 14 = .ok (.aload_n 0, 1) := by decide +kernel
theorem dX6_init_15 : decode cX6_init 15 = .ok (.iconst 0, 1) := by decide +kernel
theorem dX6_init_16 : decode cX6_init 16 = .ok (.putfield 18, 3) := by decide +kernel
theorem dX6_init_19 : decode cX6_init 19 = .ok (.aload_n 0, 1) := by decide +kernel
theorem dX6_init_20 : decode cX6_init 20 = .ok (.iconst 0, 1) := by decide +kernel
theorem dX6_init_21 : decode cX6_init 21 = .ok (.putfield 21, 3) := by decide +kernel
theorem dX6_init_24 : decode cX6_init 24 = .ok (.aload_n 0, 1) := by decide +kernel
theorem dX6_init_25 : decode cX6_init 25 = .ok (.iconst 0, 1) := by decide +kernel
theorem dX6_init_26 : decode cX6_init 26 = .ok (.putfield 24, 3) := by decide +kernel
theorem dX6_init_29 : decode cX6_init 29 = .ok (.aload_n 0, 1) := by decide +kernel
theorem dX6_init_30 : decode cX6_init 30 = .ok (.iconst 0, 1) := by decide +kernel
theorem dX6_init_31 : decode cX6_init 31 = .ok (.putfield 27, 3) := by decide +kernel
theorem dX6_init_34 : decode cX6_init 34 = .ok (.aload_n 0, 1) := by decide +kernel
theorem dX6_init_35 : decode cX6_init 35 = .ok (.iconst 0, 1) := by decide +kernel
theorem dX6_init_36 : decode cX6_init 36 = .ok (.putfield 30, 3) := by decide +kernel
theorem dX6_init_39 : decode cX6_init 39 = .ok (.aload_n 0, 1) := by decide +kernel
theorem dX6_init_40 : decode cX6_init 40 = .ok (.iconst 0, 1) := by decide +kernel
theorem dX6_init_41 : decode cX6_init 41 = .ok (.putfield 33, 3) := by decide +kernel
theorem dX6_init_44 : decode cX6_init 44 = .ok (.aload_n 0, 1) := by decide +kernel
theorem dX6_init_45 : decode cX6_init 45 = .ok (.bipush (-5), 2) := by decide +kernel
theorem dX6_init_47 : decode cX6_init 47 = .ok (.putfield 36, 3) := by decide +kernel
theorem dX6_init_50 : decode cX6_init 50 = .ok (.aload_n 0, 1) := by decide +kernel
theorem dX6_init_51 : decode cX6_init 51 = .ok (.iconst 0, 1) := by decide +kernel
theorem dX6_init_52 : decode cX6_init 52 = .ok (.putfield 39, 3) := by decide +kernel
theorem dX6_init_55 : decode cX6_init 55 = .ok (.aload_n 0, 1) := by decide +kernel
theorem dX6_init_56 : decode cX6_init 56 = .ok (.iconst 0, 1) := by decide +kernel
theorem dX6_init_57 : decode cX6_init 57 = .ok (.putfield 42, 3) := by decide +kernel
theorem dX6_init_60 : decode cX6_init 60 = .ok (.aload_n 0, 1) := by decide +kernel
theorem dX6_init_61 : decode cX6_init 61 = .ok (.iconst 0, 1) := by decide +kernel
theorem dX6_init_62 : decode cX6_init 62 = .ok (.putfield 45, 3) := by decide +kernel
theorem dX6_init_65 : decode cX6_init 65 = .ok (.return_, 1) := by decide +kernel
theorem dX6_setUp_0 : decode cX6_setUp 0 = .ok (.aload_n 0, 1) := by decide +kernel
theorem dX6_setUp_1 : decode cX6_setUp 1 = .ok (.iload_n 1, 1) := by decide +kernel
theorem dX6_setUp_2 : decode cX6_setUp 2 = .ok (.putfield 9, 3) := by decide +kernel
theorem dX6_setUp_5 : decode cX6_setUp 5 = .ok (.aload_n 0, 1) := by decide +kernel
theorem dX6_setUp_6 : decode cX6_setUp 6 = .ok (.iload_n 2, 1) := by decide +kernel
theorem dX6_setUp_7 : decode cX6_setUp 7 = .ok (.putfield 15, 3) := by decide +kernel
theorem dX6_setUp_10 : decode cX6_setUp 10 = .ok (.aload_n 0, 1) := by decide +kernel
theorem dX6_setUp_11 : decode cX6_setUp 11 = .ok (.iload_n 3, 1) := by decide +kernel
theorem dX6_setUp_12 : decode cX6_setUp 12 = .ok (.putfield 18, 3) := by decide +kernel
theorem dX6_setUp_15 : decode cX6_setUp 15 = .ok (.aload_n 0, 1) := by decide +kernel
theorem dX6_setUp_16 : decode cX6_setUp 16 = .ok (.iload 4, 2) := by decide +kernel
theorem dX6_setUp_18 : decode cX6_setUp 18 = .ok (.putfield 21, 3) := by decide +kernel
theorem dX6_setUp_21 : decode cX6_setUp 21 = .ok (.aload_n 0, 1) := by decide +kernel
theorem dX6_setUp_22 : decode cX6_setUp 22 = .ok (.iload 5, 2) := by decide +kernel
theorem dX6_setUp_24 : decode cX6_setUp 24 = .ok (.putfield 24, 3) := by decide +kernel
theorem dX6_setUp_27 : decode cX6_setUp 27 = .ok (.aload_n 0, 1) := by decide +kernel
theorem dX6_setUp_28 : decode cX6_setUp 28 = .ok (.iload 6, 2) := by decide +kernel
theorem dX6_setUp_30 : decode cX6_setUp 30 = .ok (.putfield 27, 3) := by decide +kernel
theorem dX6_setUp_33 : decode cX6_setUp 33 = .ok (.aload_n 0, 1) := by decide +kernel
theorem dX6_setUp_34 : decode cX6_setUp 34 = .ok (.iload 6, 2) := by decide +kernel
theorem dX6_setUp_36 : decode cX6_setUp 36 = .ok (.iconst 2, 1) := by decide +kernel
theorem dX6_setUp_37 : decode cX6_setUp 37 = .ok (.iload 5, 2) := by decide +kernel
theorem dX6_setUp_39 : decode cX6_setUp 39 = .ok (.imul, 1) := by decide +kernel
theorem dX6_setUp_40 : decode cX6_setUp 40 = .ok (.iadd, 1) := by decide +kernel
theorem dX6_setUp_41 : decode cX6_setUp 41 = .ok (.bipush 6, 2) := by decide +kernel
theorem dX6_setUp_43 : decode cX6_setUp 43 = .ok (.iadd, 1) := by decide +kernel
theorem dX6_setUp_44 : decode cX6_setUp 44 = .ok (.putfield 30, 3) := by decide +kernel
theorem dX6_setUp_47 : decode cX6_setUp 47 = .ok (.aload_n 0, 1) := by decide +kernel
theorem dX6_setUp_48 : decode cX6_setUp 48 = .ok (.iconst 0, 1) := by decide +kernel
theorem dX6_setUp_49 : decode cX6_setUp 49 = .ok (.putfield 33, 3) := by decide +kernel
theorem dX6_setUp_52 : decode cX6_setUp 52 = .ok (.aload_n 0, 1) := by decide +kernel
theorem dX6_setUp_53 : decode cX6_setUp 53 = .ok (.bipush (-5), 2) := by decide +kernel
theorem dX6_setUp_55 : decode cX6_setUp 55 = .ok (.putfield 36, 3) := by decide +kernel
theorem dX6_setUp_58 : decode cX6_setUp 58 = .ok (.aload_n 0, 1) := by decide +kernel
theorem dX6_setUp_59 : decode cX6_setUp 59 = .ok (.iconst 0, 1) := by decide +kernel
theorem dX6_setUp_60 : decode cX6_setUp 60 = .ok (.putfield 39, 3) := by decide +kernel
theorem dX6_setUp_63 : decode cX6_setUp 63 = .ok (.aload_n 0, 1) := by decide +kernel
theorem dX6_setUp_64 : decode cX6_setUp 64 = .ok (.iconst 0, 1) := by decide +kernel
theorem dX6_setUp_65 : decode cX6_setUp 65 = .ok (.putfield 42, 3) := by decide +kernel
theorem dX6_setUp_68 : decode cX6_setUp 68 = .ok (.aload_n 0, 1) := by decide +kernel
theorem dX6_setUp_69 : decode cX6_setUp 69 = .ok (.iconst 0, 1) := by decide +kernel
theorem dX6_setUp_70 : decode cX6_setUp 70 = .ok (.putfield 45, 3) := by decide +kernel
theorem dX6_setUp_73 : decode cX6_setUp 73 = .ok (.return_, 1) := by decide +kernel
theorem dX6_copyFrom_0 : decode cX6_copyFrom 0 = .ok (.aload_n 0, 1) := by decide +kernel
theorem dX6_copyFrom_1 : decode cX6_copyFrom 1 = .ok (.aload_n 1, 1) := by decide +kernel
theorem dX6_copyFrom_2 : decode cX6_copyFrom 2 = .ok (.getfield 9, 3) := by decide +kernel
theorem dX6_copyFrom_5 : decode cX6_copyFrom 5 = .ok (.putfield 9, 3) := by decide +kernel
theorem dX6_copyFrom_8 : decode cX6_copyFrom 8 = .ok (.aload_n 0, 1) := by decide +kernel
theorem dX6_copyFrom_9 : decode cX6_copyFrom 9 = .ok (.aload_n 1, 1) := by decide +kernel
theorem dX6_copyFrom_10 : decode cX6_copyFrom 10 = .ok (.getfield 15, 3) := by decide +kernel
theorem dX6_copyFrom_13 : decode cX6_copyFrom 13 = .ok (.putfield 15, 3) := by decide +kernel
theorem dX6_copyFrom_16 : decode cX6_copyFrom 16 = .ok (.aload_n 0, 1) := by decide +kernel
theorem dX6_copyFrom_17 : decode cX6_copyFrom 17 = .ok (.aload_n 1, 1) := by decide +kernel
theorem dX6_copyFrom_18 : decode cX6_copyFrom 18 = .ok (.getfield 18, 3) := by decide +kernel
theorem dX6_copyFrom_21 : decode cX6_copyFrom 21 = .ok (.putfield 18, 3) := by decide +kernel
theorem dX6_copyFrom_24 : decode cX6_copyFrom 24 = .ok (.aload_n 0, 1) := by decide +kernel
theorem dX6_copyFrom_25 : decode cX6_copyFrom 25 = .ok (.aload_n 1, 1) := by decide +kernel
theorem dX6_copyFrom_26 : decode cX6_copyFrom 26 = .ok (.getfield 21, 3) := by decide +kernel
theorem dX6_copyFrom_29 : decode cX6_copyFrom 29 = .ok (.putfield 21, 3) := by decide +kernel
theorem dX6_copyFrom_32 : decode cX6_copyFrom 32 = .ok (.aload_n 0, 1) := by decide +kernel
theorem dX6_copyFrom_33 : decode cX6_copyFrom 33 = .ok (.aload_n 1, 1) := by decide +kernel
theorem dX6_copyFrom_34 : decode cX6_copyFrom 34 = .ok (.getfield 24, 3) := by decide +kernel
theorem dX6_copyFrom_37 : decode cX6_copyFrom 37 = .ok (.putfield 24, 3) := by decide +kernel
theorem dX6_copyFrom_40 : decode cX6_copyFrom 40 = .ok (.aload_n 0, 1) := by decide +kernel
theorem dX6_copyFrom_41 : decode cX6_copyFrom 41 = .ok (.aload_n 1, 1) := by decide +kernel
theorem dX6_copyFrom_42 : decode cX6_copyFrom 42 = .ok (.getfield 27, 3) := by decide +kernel
theorem dX6_copyFrom_45 : decode cX6_copyFrom 45 = .ok (.putfield 27, 3) := by decide +kernel
theorem dX6_copyFrom_48 : decode cX6_copyFrom 48 = .ok (.aload_n 0, 1) := by decide +kernel
theorem dX6_copyFrom_49 : decode cX6_copyFrom 49 = .ok (.aload_n 1, 1) := by decide +kernel
theorem dX6_copyFrom_50 : decode cX6_copyFrom 50 = .ok (.getfield 30, 3) := by decide +kernel
theorem dX6_copyFrom_53 : decode cX6_copyFrom 53 = .ok (.putfield 30, 3) := by decide +kernel
theorem dX6_copyFrom_56 : decode cX6_copyFrom 56 = .ok (.aload_n 0, 1) := by decide +kernel
theorem dX6_copyFrom_57 : decode cX6_copyFrom 57 = .ok (.aload_n 1, 1) := by decide +kernel
theorem dX6_copyFrom_58 : decode cX6_copyFrom 58 = .ok (.getfield 33, 3) := by decide +kernel
theorem dX6_copyFrom_61 : decode cX6_copyFrom 61 = .ok (.putfield 33, 3) := by decide +kernel
theorem dX6_copyFrom_64 : decode cX6_copyFrom 64 = .ok (.aload_n 0, 1) := by decide +kernel
theorem dX6_copyFrom_65 : decode cX6_copyFrom 65 = .ok (.aload_n 1, 1) := by decide +kernel
theorem dX6_copyFrom_66 : decode cX6_copyFrom 66 = .ok (.getfield 36, 3) := by decide +kernel
theorem dX6_copyFrom_69 : decode cX6_copyFrom 69 = .ok (.putfield 36, 3) := by decide +kernel
theorem dX6_copyFrom_72 : decode cX6_copyFrom 72 = .ok (.aload_n 0, 1) := by decide +kernel
theorem dX6_copyFrom_73 : decode cX6_copyFrom 73 = .ok (.aload_n 1, 1) := by decide +kernel
theorem dX6_copyFrom_74 : decode cX6_copyFrom 74 = .ok (.getfield 39, 3) := by decide +kernel
theorem dX6_copyFrom_77 : decode cX6_copyFrom 77 = .ok (.putfield 39, 3) := by decide +kernel
theorem dX6_copyFrom_80 : decode cX6_copyFrom 80 = .ok (.aload_n 0, 1) := by decide +kernel
theorem dX6_copyFrom_81 : decode cX6_copyFrom 81 = .ok (.aload_n 1, 1) := by decide +kernel
theorem dX6_copyFrom_82 : decode cX6_copyFrom 82 = .ok (.getfield 42, 3) := by decide +kernel
theorem dX6_copyFrom_85 : decode cX6_copyFrom 85 = .ok (.putfield 42, 3) := by decide +kernel
theorem dX6_copyFrom_88 : decode cX6_copyFrom 88 = .ok (.aload_n 0, 1) := by decide +kernel
theorem dX6_copyFrom_89 : decode cX6_copyFrom 89 = .ok (.aload_n 1, 1) := by decide +kernel
theorem dX6_copyFrom_90 : decode cX6_copyFrom 90 = .ok (.getfield 45, 3) := by decide +kernel
theorem dX6_copyFrom_93 : decode cX6_copyFrom 93 = .ok (.putfield 45, 3) := by decide +kernel
theorem dX6_copyFrom_96 : decode cX6_copyFrom 96 = .ok (.return_, 1) := by decide +kernel
theorem dX6_isIn_0 : decode cX6_isIn 0 = .ok (.aload_n 0, 1) := by decide +kernel
theorem dX6_isIn_1 : decode cX6_isIn 1 = .ok (.getfield 33, 3) := by decide +kernel
theorem dX6_isIn_4 : decode cX6_isIn 4 = .ok (.iload_n 1, 1) := by decide +kernel
theorem dX6_isIn_5 : decode cX6_isIn 5 = .ok (.if_icmp .lt 15, 3) := by decide +kernel
theorem dX6_isIn_8 : decode cX6_isIn 8 = .ok (.aload_n 0, 1) := by decide +kernel
theorem dX6_isIn_9 : decode cX6_isIn 9 = .ok (.getfield 33, 3) := by decide +kernel
theorem dX6_isIn_12 : decode cX6_isIn 12 = .ok (.iload_n 2, 1) := by decide +kernel
theorem dX6_isIn_13 : decode cX6_isIn 13 = .ok (.if_icmp .gt 7, 3) := by decide +kernel
theorem dX6_isIn_16 : decode cX6_isIn 16 = .ok (.iconst 1, 1) := by decide +kernel
theorem dX6_isIn_17 : decode cX6_isIn 17 = .ok (.goto 4, 3) := by decide +kernel
theorem dX6_isIn_20 : decode cX6_isIn 20 = .ok (.iconst 0, 1) := by decide +kernel
theorem dX6_isIn_21 : decode cX6_isIn 21 = .ok (.ireturn, 1) := by decide +kernel
theorem dX6_tagHangs_0 : decode cX6_tagHangs 0 = .ok (.aload_n 0, 1) := by decide +kernel
theorem dX6_tagHangs_1 : decode cX6_tagHangs 1 = .ok (.iconst 1, 1) := by decide +kernel
theorem dX6_tagHangs_2 : decode cX6_tagHangs 2 = .ok (.iconst 3, 1) := by decide +kernel
theorem dX6_tagHangs_3 : decode cX6_tagHangs 3 = .ok (.invokevirtual 48, 3) := by decide +kernel
theorem dX6_tagHangs_6 : decode cX6_tagHangs 6 = .ok (.ireturn, 1) := by decide +kernel
theorem dX6_isTooLateAt_0 : decode cX6_isTooLateAt 0 = .ok (.iload_n 1, 1) := by decide +kernel
theorem dX6_isTooLateAt_1 : decode cX6_isTooLateAt 1 = .ok (.aload_n 0, 1) := by decide +kernel
theorem dX6_isTooLateAt_2 : decode cX6_isTooLateAt 2 = .ok (.getfield 24, 3) := by decide +kernel
theorem dX6_isTooLateAt_5 : decode cX6_isTooLateAt 5 = .ok (.iadd, 1) := by decide +kernel
theorem dX6_isTooLateAt_6 : decode cX6_isTooLateAt 6 = .ok (.aload_n 0, 1) := by decide +kernel
theorem dX6_isTooLateAt_7 : decode cX6_isTooLateAt 7 = .ok (.getfield 30, 3) := by decide +kernel
theorem dX6_isTooLateAt_10 : decode cX6_isTooLateAt 10 = .ok (.if_icmp .le 7, 3) := by decide +kernel
theorem dX6_isTooLateAt_13 : decode cX6_isTooLateAt 13 = .ok (.iconst 1, 1) := by decide +kernel
theorem dX6_isTooLateAt_14 : decode cX6_isTooLateAt 14 = .ok (.goto 4, 3) := by decide +kernel
theorem dX6_isTooLateAt_17 : decode cX6_isTooLateAt 17 = .ok (.iconst 0, 1) := by decide +kernel
theorem dX6_isTooLateAt_18 : decode cX6_isTooLateAt 18 = .ok (.ireturn, 1) := by decide +kernel
theorem dX6_slip_0 : decode cX6_slip 0 = .ok (.aload_n 0, 1) := by decide +kernel
theorem dX6_slip_1 : decode cX6_slip 1 = .ok (.getfield 33, 3) := by decide +kernel
theorem dX6_slip_4 : decode cX6_slip 4 = .ok (.ifCond .ne 17, 3) := by decide +kernel
theorem dX6_slip_7 : decode cX6_slip 7 = .ok (.aload_n 0, 1) := by decide +kernel
theorem dX6_slip_8 : decode cX6_slip 8 = .ok (.getfield 42, 3) := by decide +kernel
theorem dX6_slip_11 : decode cX6_slip 11 = .ok (.iconst 3, 1) := by decide +kernel
theorem dX6_slip_12 : decode cX6_slip 12 = .ok (.if_icmp .lt 9, 3) := by decide +kernel
theorem dX6_slip_15 : decode cX6_slip 15 = .ok (.aload_n 0, 1) := by decide +kernel
theorem dX6_slip_16 : decode cX6_slip 16 = .ok (.iconst 5, 1) := by decide +kernel
theorem dX6_slip_17 : decode cX6_slip 17 = .ok (.putfield 33, 3) := by decide +kernel
theorem dX6_slip_20 : decode cX6_slip 20 = .ok (.return_, 1) := by decide +kernel
theorem dX6_slip_21 : decode cX6_slip 21 = .ok (.aload_n 0, 1) := by decide +kernel
theorem dX6_slip_22 : decode cX6_slip 22 = .ok (.dup, 1) := by decide +kernel
theorem dX6_slip_23 : decode cX6_slip 23 = .ok (.getfield 27, 3) := by decide +kernel
theorem dX6_slip_26 : decode cX6_slip 26 = .ok (.bipush 24, 2) := by decide +kernel
theorem dX6_slip_28 : decode cX6_slip 28 = .ok (.iadd, 1) := by decide +kernel
theorem dX6_slip_29 : decode cX6_slip 29 = .ok (.putfield 27, 3) := by decide +kernel
theorem dX6_slip_32 : decode cX6_slip 32 = .ok (.aload_n 0, 1) := by decide +kernel
theorem dX6_slip_33 : decode cX6_slip 33 = .ok (.dup, 1) := by decide +kernel
theorem dX6_slip_34 : decode cX6_slip 34 = .ok (.getfield 30, 3) := by decide +kernel
theorem dX6_slip_37 : decode cX6_slip 37 = .ok (.bipush 24, 2) := by decide +kernel
theorem dX6_slip_39 : decode cX6_slip 39 = .ok (.iadd, 1) := by decide +kernel
theorem dX6_slip_40 : decode cX6_slip 40 = .ok (.putfield 30, 3) := by decide +kernel
theorem dX6_slip_43 : decode cX6_slip 43 = .ok (.aload_n 0, 1) := by decide +kernel
theorem dX6_slip_44 : decode cX6_slip 44 = .ok (.dup, 1) := by decide +kernel
theorem dX6_slip_45 : decode cX6_slip 45 = .ok (.getfield 42, 3) := by decide +kernel
theorem dX6_slip_48 : decode cX6_slip 48 = .ok (.iconst 1, 1) := by decide +kernel
theorem dX6_slip_49 : decode cX6_slip 49 = .ok (.iadd, 1) := by decide +kernel
theorem dX6_slip_50 : decode cX6_slip 50 = .ok (.putfield 42, 3) := by decide +kernel
theorem dX6_slip_53 : decode cX6_slip 53 = .ok (.return_, 1) := by decide +kernel
theorem dX7_init_0 : decode cX7_init 0 = .ok (.aload_n 0, 1) := by decide +kernel
theorem dX7_init_1 : decode cX7_init 1 = .ok (.invokespecial 1, 3) := by decide +kernel
theorem dX7_init_4 : decode cX7_init 4 = .ok (.aload_n 0, 1) := by decide +kernel
theorem dX7_init_5 : decode cX7_init 5 = .ok (.new 7, 3) := by decide +kernel
theorem dX7_init_8 : decode cX7_init 8 = .ok (.dup, 1) := by decide +kernel
theorem dX7_init_9 : decode cX7_init 9 = .ok (.invokespecial 9, 3) := by decide +kernel
theorem dX7_init_12 : decode cX7_init 12 = .ok (.putfield 10, 3) := by decide +kernel
theorem dX7_init_15 : decode cX7_init 15 = .ok (.aload_n 0, 1) := by decide +kernel
theorem dX7_init_16 : decode cX7_init 16 = .ok (.new 7, 3) := by decide +kernel
theorem dX7_init_19 : decode cX7_init 19 = .ok (.dup, 1) := by decide +kernel
theorem dX7_init_20 : decode cX7_init 20 = .ok (.invokespecial 9, 3) := by decide +kernel
theorem dX7_init_23 : decode cX7_init 23 = .ok (.putfield 16, 3) := by decide +kernel
theorem dX7_init_26 : decode cX7_init 26 = .ok (.aload_n 0, 1) := by decide +kernel
theorem dX7_init_27 : decode cX7_init 27 = .ok (.new 7, 3) := by decide +kernel
theorem dX7_init_30 : decode cX7_init 30 = .ok (.dup, 1) := by decide +kernel
theorem dX7_init_31 : decode cX7_init 31 = .ok (.invokespecial 9, 3) := by decide +kernel
theorem dX7_init_34 : decode cX7_init 34 = .ok (.putfield 19, 3) := by decide +kernel
theorem dX7_init_37 : decode cX7_init 37 = .ok (.aload_n 0, 1) := by decide +kernel
theorem dX7_init_38 : decode cX7_init 38 = .ok (.iconst 0, 1) := by decide +kernel
theorem dX7_init_39 : decode cX7_init 39 = .ok (.putfield 22, 3) := by decide +kernel
theorem dX7_init_42 : decode cX7_init 42 = .ok (.aload_n 0, 1) := by decide +kernel
theorem dX7_init_43 : decode cX7_init 43 = .ok (.new 26, 3) := by decide +kernel
theorem dX7_init_46 : decode cX7_init 46 = .ok (.dup, 1) := by decide +kernel
theorem dX7_init_47 : decode cX7_init 47 = .ok (.invokespecial 28, 3) := by decide +kernel
theorem dX7_init_50 : decode cX7_init 50 = .ok (.putfield 29, 3) := by decide +kernel
theorem dX7_init_53 : decode cX7_init 53 = .ok (.aload_n 0, 1) := by decide +kernel
theorem dX7_init_54 : decode cX7_init 54 = .ok (.new 33, 3) := by decide +kernel
theorem dX7_init_57 : decode cX7_init 57 = .ok (.dup, 1) := by decide +kernel
theorem dX7_init_58 : decode cX7_init 58 = .ok (.invokespecial 35, 3) := by decide +kernel
theorem dX7_init_61 : decode cX7_init 61 = .ok (.putfield 36, 3) := by decide +kernel
theorem dX7_init_64 : decode cX7_init 64 = .ok (.return_, 1) := by decide +kernel
theorem dX7_addAsset_0 : decode cX7_addAsset 0 = .ok (.aload_n 0, 1) := by decide +kernel
theorem dX7_addAsset_1 : decode cX7_addAsset 1 = .ok (.getfield 16, 3) := by decide +kernel
theorem dX7_addAsset_4 : decode cX7_addAsset 4 = .ok (.aload_n 0, 1) := by decide +kernel
theorem dX7_addAsset_5 : decode cX7_addAsset 5 = .ok (.getfield 10, 3) := by decide +kernel
theorem dX7_addAsset_8 : decode cX7_addAsset 8 = .ok (.invokevirtual 40, 3) := by decide +kernel
theorem dX7_addAsset_11 : decode cX7_addAsset 11 = .ok (.aload_n 0, 1) := by decide +kernel
theorem dX7_addAsset_12 : decode cX7_addAsset 12 = .ok (.aload_n 0, 1) := by decide +kernel
theorem dX7_addAsset_13 : decode cX7_addAsset 13 = .ok (.getfield 10, 3) := by decide +kernel
theorem dX7_addAsset_16 : decode cX7_addAsset 16 = .ok (.iload_n 1, 1) := by decide +kernel
theorem dX7_addAsset_17 : decode cX7_addAsset 17 = .ok (.iload_n 2, 1) := by decide +kernel
theorem dX7_addAsset_18 : decode cX7_addAsset 18 = .ok (.invokevirtual 44, 3) := by decide +kernel
theorem dX7_addAsset_21 : decode cX7_addAsset 21 = .ok (.invokevirtual 48, 3) := by decide +kernel
theorem dX7_addAsset_24 : decode cX7_addAsset 24 = .ok (.ireturn, 1) := by decide +kernel
theorem dX7_link_0 : decode cX7_link 0 = .ok (.aload_n 0, 1) := by decide +kernel
theorem dX7_link_1 : decode cX7_link 1 = .ok (.getfield 16, 3) := by decide +kernel
theorem dX7_link_4 : decode cX7_link 4 = .ok (.aload_n 0, 1) := by decide +kernel
theorem dX7_link_5 : decode cX7_link 5 = .ok (.getfield 10, 3) := by decide +kernel
theorem dX7_link_8 : decode cX7_link 8 = .ok (.invokevirtual 40, 3) := by decide +kernel
theorem dX7_link_11 : decode cX7_link 11 = .ok (.aload_n 0, 1) := by decide +kernel
theorem dX7_link_12 : decode cX7_link 12 = .ok (.aload_n 0, 1) := by decide +kernel
theorem dX7_link_13 : decode cX7_link 13 = .ok (.getfield 10, 3) := by decide +kernel
theorem dX7_link_16 : decode cX7_link 16 = .ok (.iload_n 1, 1) := by decide +kernel
theorem dX7_link_17 : decode cX7_link 17 = .ok (.iload_n 2, 1) := by decide +kernel
theorem dX7_link_18 : decode cX7_link 18 = .ok (.iload_n 3, 1) := by decide +kernel
theorem dX7_link_19 : decode cX7_link 19 = .ok (.invokevirtual 52, 3) := by decide +kernel
theorem dX7_link_22 : decode cX7_link 22 = .ok (.invokevirtual 48, 3) := by decide +kernel
theorem dX7_link_25 : decode cX7_link 25 = .ok (.ireturn, 1) := by decide +kernel
theorem dX7_bar_0 : decode cX7_bar 0 = .ok (.aload_n 0, 1) := by decide +kernel
theorem dX7_bar_1 : decode cX7_bar 1 = .ok (.getfield 16, 3) := by decide +kernel
theorem dX7_bar_4 : decode cX7_bar 4 = .ok (.aload_n 0, 1) := by decide +kernel
theorem dX7_bar_5 : decode cX7_bar 5 = .ok (.getfield 10, 3) := by decide +kernel
theorem dX7_bar_8 : decode cX7_bar 8 = .ok (.invokevirtual 40, 3) := by decide +kernel
theorem dX7_bar_11 : decode cX7_bar 11 = .ok (.aload_n 0, 1) := by decide +kernel
theorem dX7_bar_12 : decode cX7_bar 12 = .ok (.aload_n 0, 1) := by decide +kernel
theorem dX7_bar_13 : decode cX7_bar 13 = .ok (.getfield 10, 3) := by decide +kernel
theorem dX7_bar_16 : decode cX7_bar 16 = .ok (.iload_n 1, 1) := by decide +kernel
theorem dX7_bar_17 : decode cX7_bar 17 = .ok (.iload_n 2, 1) := by decide +kernel
theorem dX7_bar_18 : decode cX7_bar 18 = .ok (.iload_n 3, 1) := by decide +kernel
theorem dX7_bar_19 : decode cX7_bar 19 = .ok (.invokevirtual 56, 3) := by decide +kernel
theorem dX7_bar_22 : decode cX7_bar 22 = .ok (.invokevirtual 48, 3) := by decide +kernel
theorem dX7_bar_25 : decode cX7_bar 25 = .ok (.ireturn, 1) := by decide +kernel
theorem dX7_addCrew_0 : decode cX7_addCrew 0 = .ok (.aload_n 0, 1) := by decide +kernel
theorem dX7_addCrew_1 : decode cX7_addCrew 1 = .ok (.getfield 16, 3) := by decide +kernel
theorem dX7_addCrew_4 : decode cX7_addCrew 4 = .ok (.aload_n 0, 1) := by decide +kernel
theorem dX7_addCrew_5 : decode cX7_addCrew 5 = .ok (.getfield 10, 3) := by decide +kernel
theorem dX7_addCrew_8 : decode cX7_addCrew 8 = .ok (.invokevirtual 40, 3) := by decide +kernel
theorem dX7_addCrew_11 : decode cX7_addCrew 11 = .ok (.aload_n 0, 1) := by decide +kernel
theorem dX7_addCrew_12 : decode cX7_addCrew 12 = .ok (.aload_n 0, 1) := by decide +kernel
theorem dX7_addCrew_13 : decode cX7_addCrew 13 = .ok (.getfield 10, 3) := by decide +kernel
theorem dX7_addCrew_16 : decode cX7_addCrew 16 = .ok (.iload_n 1, 1) := by decide +kernel
theorem dX7_addCrew_17 : decode cX7_addCrew 17 = .ok (.iload_n 2, 1) := by decide +kernel
theorem dX7_addCrew_18 : decode cX7_addCrew 18 = .ok (.invokevirtual 59, 3) := by decide +kernel
theorem dX7_addCrew_21 : decode cX7_addCrew 21 = .ok (.invokevirtual 48, 3) := by decide +kernel
theorem dX7_addCrew_24 : decode cX7_addCrew 24 = .ok (.ireturn, 1) := by decide +kernel
theorem dX7_addTask_0 : decode cX7_addTask 0 = .ok (.aload_n 0, 1) := by decide +kernel
theorem dX7_addTask_1 : decode cX7_addTask 1 = .ok (.getfield 16, 3) := by decide +kernel
theorem dX7_addTask_4 : decode cX7_addTask 4 = .ok (.aload_n 0, 1) := by decide +kernel
theorem dX7_addTask_5 : decode cX7_addTask 5 = .ok (.getfield 10, 3) := by decide +kernel
theorem dX7_addTask_8 : decode cX7_addTask 8 = .ok (.invokevirtual 40, 3) := by decide +kernel
theorem dX7_addTask_11 : decode cX7_addTask 11 = .ok (.aload_n 0, 1) := by decide +kernel
theorem dX7_addTask_12 : decode cX7_addTask 12 = .ok (.aload_n 0, 1) := by decide +kernel
theorem dX7_addTask_13 : decode cX7_addTask 13 = .ok (.getfield 10, 3) := by decide +kernel
theorem dX7_addTask_16 : decode cX7_addTask 16 = .ok (.iload_n 1, 1) := by decide +kernel
theorem dX7_addTask_17 : decode cX7_addTask 17 = .ok (.iload_n 2, 1) := by decide +kernel
theorem dX7_addTask_18 : decode cX7_addTask 18 = .ok (.iload_n 3, 1) := by decide +kernel
theorem dX7_addTask_19 : decode cX7_addTask 19 = .ok (.iload 4, 2) := by decide +kernel
theorem dX7_addTask_21 : decode cX7_addTask 21 = .ok (.iload 5, 2) := by decide +kernel
theorem dX7_addTask_23 : decode cX7_addTask 23 = .ok (.iload 6, 2) := by decide +kernel
theorem dX7_addTask_25 : decode cX7_addTask 25 = .ok (.invokevirtual 62, 3) := by decide +kernel
theorem dX7_addTask_28 : decode cX7_addTask 28 = .ok (.invokevirtual 48, 3) := by decide +kernel
theorem dX7_addTask_31 : decode cX7_addTask 31 = .ok (.ireturn, 1) := by decide +kernel
theorem dX7_run_0 : decode cX7_run 0 = .ok (.aload_n 0, 1) := by decide +kernel
theorem dX7_run_1 : decode cX7_run 1 = .ok (.getfield 16, 3) := by decide +kernel
theorem dX7_run_4 : decode cX7_run 4 = .ok (.aload_n 0, 1) := by decide +kernel
theorem dX7_run_5 : decode cX7_run 5 = .ok (.getfield 10, 3) := by decide +kernel
theorem dX7_run_8 : decode cX7_run 8 = .ok (.invokevirtual 40, 3) := by decide +kernel
theorem dX7_run_11 : decode cX7_run 11 = .ok (.aload_n 0, 1) := by decide +kernel
theorem dX7_run_12 : decode cX7_run 12 = .ok (.aload_n 0, 1) := by decide +kernel
theorem dX7_run_13 : decode cX7_run 13 = .ok (.getfield 10, 3) := by decide +kernel
theorem dX7_run_16 : decode cX7_run 16 = .ok (.iload_n 1, 1) := by decide +kernel
theorem dX7_run_17 : decode cX7_run 17 = .ok (.invokevirtual 66, 3) := by decide +kernel
theorem dX7_run_20 : decode cX7_run 20 = .ok (.invokevirtual 48, 3) := by decide +kernel
theorem dX7_run_23 : decode cX7_run 23 = .ok (.ireturn, 1) := by decide +kernel
theorem dX7_stop_0 : decode cX7_stop 0 = .ok (.aload_n 0, 1) := by decide +kernel
theorem dX7_stop_1 : decode cX7_stop 1 = .ok (.getfield 16, 3) := by decide +kernel
theorem dX7_stop_4 : decode cX7_stop 4 = .ok (.aload_n 0, 1) := by decide +kernel
theorem dX7_stop_5 : decode cX7_stop 5 = .ok (.getfield 10, 3) := by decide +kernel
theorem dX7_stop_8 : decode cX7_stop 8 = .ok (.invokevirtual 40, 3) := by decide +kernel
theorem dX7_stop_11 : decode cX7_stop 11 = .ok (.aload_n 0, 1) := by decide +kernel
theorem dX7_stop_12 : decode cX7_stop 12 = .ok (.aload_n 0, 1) := by decide +kernel
theorem dX7_stop_13 : decode cX7_stop 13 = .ok (.getfield 10, 3) := by decide +kernel
theorem dX7_stop_16 : decode cX7_stop 16 = .ok (.iload_n 1, 1) := by decide +kernel
theorem dX7_stop_17 : decode cX7_stop 17 = .ok (.invokevirtual 69, 3) := by decide +kernel
theorem dX7_stop_20 : decode cX7_stop 20 = .ok (.invokevirtual 48, 3) := by decide +kernel
theorem dX7_stop_23 : decode cX7_stop 23 = .ok (.ireturn, 1) := by decide +kernel
theorem dX7_hang_0 : decode cX7_hang 0 = .ok (.aload_n 0, 1) := by decide +kernel
theorem dX7_hang_1 : decode cX7_hang 1 = .ok (.getfield 16, 3) := by decide +kernel
theorem dX7_hang_4 : decode cX7_hang 4 = .ok (.aload_n 0, 1) := by decide +kernel
theorem dX7_hang_5 : decode cX7_hang 5 = .ok (.getfield 10, 3) := by decide +kernel
theorem dX7_hang_8 : decode cX7_hang 8 = .ok (.invokevirtual 40, 3) := by decide +kernel
theorem dX7_hang_11 : decode cX7_hang 11 = .ok (.aload_n 0, 1) := by decide +kernel
theorem dX7_hang_12 : decode cX7_hang 12 = .ok (.aload_n 0, 1) := by decide +kernel
theorem dX7_hang_13 : decode cX7_hang 13 = .ok (.getfield 10, 3) := by decide +kernel
theorem dX7_hang_16 : decode cX7_hang 16 = .ok (.iload_n 1, 1) := by decide +kernel
theorem dX7_hang_17 : decode cX7_hang 17 = .ok (.iload_n 2, 1) := by decide +kernel
theorem dX7_hang_18 : decode cX7_hang 18 = .ok (.invokevirtual 72, 3) := by decide +kernel
theorem dX7_hang_21 : decode cX7_hang 21 = .ok (.invokevirtual 48, 3) := by decide +kernel
theorem dX7_hang_24 : decode cX7_hang 24 = .ok (.ireturn, 1) := by decide +kernel
theorem dX7_begin_0 : decode cX7_begin 0 = .ok (.aload_n 0, 1) := by decide +kernel
theorem dX7_begin_1 : decode cX7_begin 1 = .ok (.getfield 16, 3) := by decide +kernel
theorem dX7_begin_4 : decode cX7_begin 4 = .ok (.aload_n 0, 1) := by decide +kernel
theorem dX7_begin_5 : decode cX7_begin 5 = .ok (.getfield 10, 3) := by decide +kernel
theorem dX7_begin_8 : decode cX7_begin 8 = .ok (.invokevirtual 40, 3) := by decide +kernel
theorem dX7_begin_11 : decode cX7_begin 11 = .ok (.aload_n 0, 1) := by decide +kernel
theorem dX7_begin_12 : decode cX7_begin 12 = .ok (.aload_n 0, 1) := by decide +kernel
theorem dX7_begin_13 : decode cX7_begin 13 = .ok (.getfield 10, 3) := by decide +kernel
theorem dX7_begin_16 : decode cX7_begin 16 = .ok (.iload_n 1, 1) := by decide +kernel
theorem dX7_begin_17 : decode cX7_begin 17 = .ok (.invokevirtual 75, 3) := by decide +kernel
theorem dX7_begin_20 : decode cX7_begin 20 = .ok (.invokevirtual 48, 3) := by decide +kernel
theorem dX7_begin_23 : decode cX7_begin 23 = .ok (.ireturn, 1) := by decide +kernel
theorem dX7_lift_0 : decode cX7_lift 0 = .ok (.aload_n 0, 1) := by decide +kernel
theorem dX7_lift_1 : decode cX7_lift 1 = .ok (.getfield 16, 3) := by decide +kernel
theorem dX7_lift_4 : decode cX7_lift 4 = .ok (.aload_n 0, 1) := by decide +kernel
theorem dX7_lift_5 : decode cX7_lift 5 = .ok (.getfield 10, 3) := by decide +kernel
theorem dX7_lift_8 : decode cX7_lift 8 = .ok (.invokevirtual 40, 3) := by decide +kernel
theorem dX7_lift_11 : decode cX7_lift 11 = .ok (.aload_n 0, 1) := by decide +kernel
theorem dX7_lift_12 : decode cX7_lift 12 = .ok (.aload_n 0, 1) := by decide +kernel
theorem dX7_lift_13 : decode cX7_lift 13 = .ok (.getfield 10, 3) := by decide +kernel
theorem dX7_lift_16 : decode cX7_lift 16 = .ok (.iload_n 1, 1) := by decide +kernel
theorem dX7_lift_17 : decode cX7_lift 17 = .ok (.iload_n 2, 1) := by decide +kernel
theorem dX7_lift_18 : decode cX7_lift 18 = .ok (.invokevirtual 78, 3) := by decide +kernel
theorem dX7_lift_21 : decode cX7_lift 21 = .ok (.invokevirtual 48, 3) := by decide +kernel
theorem dX7_lift_24 : decode cX7_lift 24 = .ok (.ireturn, 1) := by decide +kernel
theorem dX7_cancel_0 : decode cX7_cancel 0 = .ok (.aload_n 0, 1) := by decide +kernel
theorem dX7_cancel_1 : decode cX7_cancel 1 = .ok (.getfield 16, 3) := by decide +kernel
theorem dX7_cancel_4 : decode cX7_cancel 4 = .ok (.aload_n 0, 1) := by decide +kernel
theorem dX7_cancel_5 : decode cX7_cancel 5 = .ok (.getfield 10, 3) := by decide +kernel
theorem dX7_cancel_8 : decode cX7_cancel 8 = .ok (.invokevirtual 40, 3) := by decide +kernel
theorem dX7_cancel_11 : decode cX7_cancel 11 = .ok (.aload_n 0, 1) := by decide +kernel
theorem dX7_cancel_12 : decode cX7_cancel 12 = .ok (.aload_n 0, 1) := by decide +kernel
theorem dX7_cancel_13 : decode cX7_cancel 13 = .ok (.getfield 10, 3) := by decide +kernel
theorem dX7_cancel_16 : decode cX7_cancel 16 = .ok (.iload_n 1, 1) := by decide +kernel
theorem dX7_cancel_17 : decode cX7_cancel 17 = .ok (.invokevirtual 81, 3) := by decide +kernel
theorem dX7_cancel_20 : decode cX7_cancel 20 = .ok (.invokevirtual 48, 3) := by decide +kernel
theorem dX7_cancel_23 : decode cX7_cancel 23 = .ok (.ireturn, 1) := by decide +kernel
theorem dX7_pass_0 : decode cX7_pass 0 = .ok (.aload_n 0, 1) := by decide +kernel
theorem dX7_pass_1 : decode cX7_pass 1 = .ok (.getfield 16, 3) := by decide +kernel
theorem dX7_pass_4 : decode cX7_pass 4 = .ok (.aload_n 0, 1) := by decide +kernel
theorem dX7_pass_5 : decode cX7_pass 5 = .ok (.getfield 10, 3) := by decide +kernel
theorem dX7_pass_8 : decode cX7_pass 8 = .ok (.invokevirtual 40, 3) := by decide +kernel
theorem dX7_pass_11 : decode cX7_pass 11 = .ok (.aload_n 0, 1) := by decide +kernel
theorem dX7_pass_12 : decode cX7_pass 12 = .ok (.aload_n 0, 1) := by decide +kernel
theorem dX7_pass_13 : decode cX7_pass 13 = .ok (.getfield 10, 3) := by decide +kernel
theorem dX7_pass_16 : decode cX7_pass 16 = .ok (.iload_n 1, 1) := by decide +kernel
theorem dX7_pass_17 : decode cX7_pass 17 = .ok (.invokevirtual 84, 3) := by decide +kernel
theorem dX7_pass_20 : decode cX7_pass 20 = .ok (.invokevirtual 48, 3) := by decide +kernel
theorem dX7_pass_23 : decode cX7_pass 23 = .ok (.ireturn, 1) := by decide +kernel
theorem dX7_undo_0 : decode cX7_undo 0 = .ok (.aload_n 0, 1) := by decide +kernel
theorem dX7_undo_1 : decode cX7_undo 1 = .ok (.getfield 29, 3) := by decide +kernel
theorem dX7_undo_4 : decode cX7_undo 4 = .ok (.aload_n 0, 1) := by decide +kernel
theorem dX7_undo_5 : decode cX7_undo 5 = .ok (.getfield 10, 3) := by decide +kernel
theorem dX7_undo_8 : decode cX7_undo 8 = .ok (.invokevirtual 110, 3) := by decide +kernel
theorem dX7_undo_11 : decode cX7_undo 11 = .ok (.ireturn, 1) := by decide +kernel
theorem dX7_keep_0 : decode cX7_keep 0 = .ok (.aload_n 0, 1) := by decide +kernel
theorem dX7_keep_1 : decode cX7_keep 1 = .ok (.getfield 19, 3) := by decide +kernel
theorem dX7_keep_4 : decode cX7_keep 4 = .ok (.aload_n 0, 1) := by decide +kernel
theorem dX7_keep_5 : decode cX7_keep 5 = .ok (.getfield 10, 3) := by decide +kernel
theorem dX7_keep_8 : decode cX7_keep 8 = .ok (.invokevirtual 40, 3) := by decide +kernel
theorem dX7_keep_11 : decode cX7_keep 11 = .ok (.aload_n 0, 1) := by decide +kernel
theorem dX7_keep_12 : decode cX7_keep 12 = .ok (.iconst 1, 1) := by decide +kernel
theorem dX7_keep_13 : decode cX7_keep 13 = .ok (.putfield 22, 3) := by decide +kernel
theorem dX7_keep_16 : decode cX7_keep 16 = .ok (.aload_n 0, 1) := by decide +kernel
theorem dX7_keep_17 : decode cX7_keep 17 = .ok (.getfield 10, 3) := by decide +kernel
theorem dX7_keep_20 : decode cX7_keep 20 = .ok (.getfield 114, 3) := by decide +kernel
theorem dX7_keep_23 : decode cX7_keep 23 = .ok (.ireturn, 1) := by decide +kernel
theorem dX7_restore_0 : decode cX7_restore 0 = .ok (.aload_n 0, 1) := by decide +kernel
theorem dX7_restore_1 : decode cX7_restore 1 = .ok (.getfield 22, 3) := by decide +kernel
theorem dX7_restore_4 : decode cX7_restore 4 = .ok (.ifCond .ne 6, 3) := by decide +kernel
theorem dX7_restore_7 : decode cX7_restore 7 = .ok (.bipush (-5), 2) := by decide +kernel
theorem dX7_restore_9 : decode cX7_restore 9 = .ok (.ireturn, 1) := by decide +kernel
theorem dX7_restore_10 : decode cX7_restore 10 = .ok (.aload_n 0, 1) := by decide +kernel
theorem dX7_restore_11 : decode cX7_restore 11 = .ok (.getfield 16, 3) := by decide +kernel
theorem dX7_restore_14 : decode cX7_restore 14 = .ok (.aload_n 0, 1) := by decide +kernel
theorem dX7_restore_15 : decode cX7_restore 15 = .ok (.getfield 10, 3) := by decide +kernel
theorem dX7_restore_18 : decode cX7_restore 18 = .ok (.invokevirtual 40, 3) := by decide +kernel
theorem dX7_restore_21 : decode cX7_restore 21 = .ok (.aload_n 0, 1) := by decide +kernel
theorem dX7_restore_22 : decode cX7_restore 22 = .ok (.getfield 10, 3) := by decide +kernel
theorem dX7_restore_25 : decode cX7_restore 25 = .ok (.aload_n 0, 1) := by decide +kernel
theorem dX7_restore_26 : decode cX7_restore 26 = .ok (.getfield 19, 3) := by decide +kernel
theorem dX7_restore_29 : decode cX7_restore 29 = .ok (.invokevirtual 40, 3) := by decide +kernel
theorem dX7_restore_32 : decode cX7_restore 32 = .ok (.aload_n 0, 1) := by decide +kernel
theorem dX7_restore_33 : decode cX7_restore 33 = .ok (.aload_n 0, 1) := by decide +kernel
theorem dX7_restore_34 : decode cX7_restore 34 = .ok (.getfield 10, 3) := by decide +kernel
theorem dX7_restore_37 : decode cX7_restore 37 = .ok (.getfield 114, 3) := by decide +kernel
theorem dX7_restore_40 : decode cX7_restore 40 = .ok (.invokevirtual 48, 3) := by decide +kernel
theorem dX7_restore_43 : decode cX7_restore 43 = .ok (.ireturn, 1) := by decide +kernel
theorem dX7_real_0 : decode cX7_real 0 = .ok (.aload_n 0, 1) := by decide +kernel
theorem dX7_real_1 : decode cX7_real 1 = .ok (.getfield 10, 3) := by decide +kernel
theorem dX7_real_4 : decode cX7_real 4 = .ok (.iload_n 1, 1) := by decide +kernel
theorem dX7_real_5 : decode cX7_real 5 = .ok (.invokevirtual 117, 3) := by decide +kernel
theorem dX7_real_8 : decode cX7_real 8 = .ok (.ifCond .ne 6, 3) := by decide +kernel
theorem dX7_real_11 : decode cX7_real 11 = .ok (.ldc 121, 2) := by decide +kernel
theorem dX7_real_13 : decode cX7_real 13 = .ok (.freturn, 1) := by decide +kernel
theorem dX7_real_14 : decode cX7_real 14 = .ok (.aload_n 0, 1) := by decide +kernel
theorem dX7_real_15 : decode cX7_real 15 = .ok (.getfield 10, 3) := by decide +kernel
theorem dX7_real_18 : decode cX7_real 18 = .ok (.getfield 122, 3) := by decide +kernel
theorem dX7_real_21 : decode cX7_real 21 = .ok (.iload_n 1, 1) := by decide +kernel
theorem dX7_real_22 : decode cX7_real 22 = .ok (.aaload, 1) := by decide +kernel
theorem dX7_real_23 : decode cX7_real 23 = .ok (.astore_n 3, 1) := by decide +kernel
theorem dX7_real_24 : decode cX7_real 24 = .ok (.iload_n 2, 1) := by decide +kernel
theorem dX7_real_25 : decode cX7_real 25 = .ok (.tableswitch 42 0 2 #[27, 32, 37], 27) := by decide +kernel
theorem dX7_real_52 : decode cX7_real 52 = .ok (.aload_n 3, 1) := by decide +kernel
theorem dX7_real_53 : decode cX7_real 53 = .ok (.getfield 126, 3) := by decide +kernel
theorem dX7_real_56 : decode cX7_real 56 = .ok (.freturn, 1) := by decide +kernel
theorem dX7_real_57 : decode cX7_real 57 = .ok (.aload_n 3, 1) := by decide +kernel
theorem dX7_real_58 : decode cX7_real 58 = .ok (.getfield 132, 3) := by decide +kernel
theorem dX7_real_61 : decode cX7_real 61 = .ok (.freturn, 1) := by decide +kernel
theorem dX7_real_62 : decode cX7_real 62 = .ok (.aload_n 3, 1) := by decide +kernel
theorem dX7_real_63 : decode cX7_real 63 = .ok (.getfield 135, 3) := by decide +kernel
theorem dX7_real_66 : decode cX7_real 66 = .ok (.freturn, 1) := by decide +kernel
theorem dX7_real_67 : decode cX7_real 67 = .ok (.ldc 121, 2) := by decide +kernel
theorem dX7_real_69 : decode cX7_real 69 = .ok (.freturn, 1) := by decide +kernel
theorem dX7_hoursTo_0 : decode cX7_hoursTo 0 = .ok (.aload_n 0, 1) := by decide +kernel
theorem dX7_hoursTo_1 : decode cX7_hoursTo 1 = .ok (.getfield 10, 3) := by decide +kernel
theorem dX7_hoursTo_4 : decode cX7_hoursTo 4 = .ok (.iload_n 1, 1) := by decide +kernel
theorem dX7_hoursTo_5 : decode cX7_hoursTo 5 = .ok (.invokevirtual 117, 3) := by decide +kernel
theorem dX7_hoursTo_8 : decode cX7_hoursTo 8 = .ok (.ifCond .ne 5, 3) := by decide +kernel
theorem dX7_hoursTo_11 : decode cX7_hoursTo 11 = .ok (.iconst (-1), 1) := by decide +kernel
theorem dX7_hoursTo_12 : decode cX7_hoursTo 12 = .ok (.ireturn, 1) := by decide +kernel
theorem dX7_hoursTo_13 : decode cX7_hoursTo 13 = .ok (.iload_n 2, 1) := by decide +kernel
theorem dX7_hoursTo_14 : decode cX7_hoursTo 14 = .ok (.iconst 1, 1) := by decide +kernel
theorem dX7_hoursTo_15 : decode cX7_hoursTo 15 = .ok (.bipush 100, 2) := by decide +kernel
theorem dX7_hoursTo_17 : decode cX7_hoursTo 17 = .ok (.invokestatic 138, 3) := by decide +kernel
theorem dX7_hoursTo_20 : decode cX7_hoursTo 20 = .ok (.ifCond .ne 6, 3) := by decide +kernel
theorem dX7_hoursTo_23 : decode cX7_hoursTo 23 = .ok (.bipush (-2), 2) := by decide +kernel
theorem dX7_hoursTo_25 : decode cX7_hoursTo 25 = .ok (.ireturn, 1) := by decide +kernel
theorem dX7_hoursTo_26 : decode cX7_hoursTo 26 = .ok (.aload_n 0, 1) := by decide +kernel
theorem dX7_hoursTo_27 : decode cX7_hoursTo 27 = .ok (.getfield 10, 3) := by decide +kernel
theorem dX7_hoursTo_30 : decode cX7_hoursTo 30 = .ok (.getfield 122, 3) := by decide +kernel
theorem dX7_hoursTo_33 : decode cX7_hoursTo 33 = .ok (.iload_n 1, 1) := by decide +kernel
theorem dX7_hoursTo_34 : decode cX7_hoursTo 34 = .ok (.aaload, 1) := by decide +kernel
theorem dX7_hoursTo_35 : decode cX7_hoursTo 35 = .ok (.iload_n 2, 1) := by decide +kernel
theorem dX7_hoursTo_36 : decode cX7_hoursTo 36 = .ok (.i2f, 1) := by decide +kernel
theorem dX7_hoursTo_37 : decode cX7_hoursTo 37 = .ok (.ldc 146, 2) := by decide +kernel
theorem dX7_hoursTo_39 : decode cX7_hoursTo 39 = .ok (.fdiv, 1) := by decide +kernel
theorem dX7_hoursTo_40 : decode cX7_hoursTo 40 = .ok (.invokevirtual 147, 3) := by decide +kernel
theorem dX7_hoursTo_43 : decode cX7_hoursTo 43 = .ok (.ireturn, 1) := by decide +kernel
theorem dX7_asset_0 : decode cX7_asset 0 = .ok (.aload_n 0, 1) := by decide +kernel
theorem dX7_asset_1 : decode cX7_asset 1 = .ok (.getfield 10, 3) := by decide +kernel
theorem dX7_asset_4 : decode cX7_asset 4 = .ok (.iload_n 1, 1) := by decide +kernel
theorem dX7_asset_5 : decode cX7_asset 5 = .ok (.invokevirtual 117, 3) := by decide +kernel
theorem dX7_asset_8 : decode cX7_asset 8 = .ok (.ifCond .ne 5, 3) := by decide +kernel
theorem dX7_asset_11 : decode cX7_asset 11 = .ok (.iconst (-1), 1) := by decide +kernel
theorem dX7_asset_12 : decode cX7_asset 12 = .ok (.ireturn, 1) := by decide +kernel
theorem dX7_asset_13 : decode cX7_asset 13 = .ok (.aload_n 0, 1) := by decide +kernel
theorem dX7_asset_14 : decode cX7_asset 14 = .ok (.getfield 10, 3) := by decide +kernel
theorem dX7_asset_17 : decode cX7_asset 17 = .ok (.getfield 122, 3) := by decide +kernel
theorem dX7_asset_20 : decode cX7_asset 20 = .ok (.iload_n 1, 1) := by decide +kernel
theorem dX7_asset_21 : decode cX7_asset 21 = .ok (.aaload, 1) := by decide +kernel
theorem dX7_asset_22 : decode cX7_asset 22 = .ok (.astore_n 3, 1) := by decide +kernel
theorem dX7_asset_23 : decode cX7_asset 23 = .ok (.iload_n 2, 1) := by decide +kernel
theorem dX7_asset_24 : decode cX7_asset 24 = .ok (.tableswitch 122 0 7 #[48, 61, 70, 80, 85, 96, 107, 116], 48) := by decide +kernel
theorem dX7_asset_72 : decode cX7_asset 72 = .ok (.aload_n 3, 1) := by decide +kernel
theorem dX7_asset_73 : decode cX7_asset 73 = .ok (.getfield 151, 3) := by decide +kernel
theorem dX7_asset_76 : decode cX7_asset 76 = .ok (.ifCond .eq 7, 3) := by decide +kernel
theorem dX7_asset_79 : decode cX7_asset 79 = .ok (.iconst 1, 1) := by decide +kernel
theorem dX7_asset_80 : decode cX7_asset 80 = .ok (.goto 4, 3) := by decide +kernel
theorem dX7_asset_83 : decode cX7_asset 83 = .ok (.iconst 0, 1) := by decide +kernel
theorem dX7_asset_84 : decode cX7_asset 84 = .ok (.ireturn, 1) := by decide +kernel
theorem dX7_asset_85 : decode cX7_asset 85 = .ok (.aload_n 0, 1) := by decide +kernel
theorem dX7_asset_86 : decode cX7_asset 86 = .ok (.getfield 10, 3) := by decide +kernel
theorem dX7_asset_89 : decode cX7_asset 89 = .ok (.iload_n 1, 1) := by decide +kernel
theorem dX7_asset_90 : decode cX7_asset 90 = .ok (.invokevirtual 154, 3) := by decide +kernel
theorem dX7_asset_93 : decode cX7_asset 93 = .ok (.ireturn, 1) := by decide +kernel
theorem dX7_asset_94 : decode cX7_asset 94 = .ok (.aload_n 0, 1) := by decide +kernel
theorem dX7_asset_95 : decode cX7_asset 95 = .ok (.getfield 10, 3) := by decide +kernel
theorem dX7_asset_98 : decode cX7_asset 98 = .ok (.iload_n 1, 1) := by decide +kernel
theorem dX7_asset_99 : decode cX7_asset 99 = .ok (.iconst 0, 1) := by decide +kernel
theorem dX7_asset_100 : decode cX7_asset 100 = .ok (.invokevirtual 157, 3) := by decide +kernel
theorem dX7_asset_103 : decode cX7_asset 103 = .ok (.ireturn, 1) := by decide +kernel
theorem dX7_asset_104 : decode cX7_asset 104 = .ok (.aload_n 3, 1) := by decide +kernel
theorem dX7_asset_105 : decode cX7_asset 105 = .ok (.getfield 160, 3) := by decide +kernel
theorem dX7_asset_108 : decode cX7_asset 108 = .ok (.ireturn, 1) := by decide +kernel
theorem dX7_asset_109 : decode cX7_asset 109 = .ok (.aload_n 0, 1) := by decide +kernel
theorem dX7_asset_110 : decode cX7_asset 110 = .ok (.getfield 10, 3) := by decide +kernel
theorem dX7_asset_113 : decode cX7_asset 113 = .ok (.iload_n 1, 1) := by decide +kernel
theorem dX7_asset_114 : decode cX7_asset 114 = .ok (.iconst 0, 1) := by decide +kernel
theorem dX7_asset_115 : decode cX7_asset 115 = .ok (.iconst 3, 1) := by decide +kernel
theorem dX7_asset_116 : decode cX7_asset 116 = .ok (.invokevirtual 163, 3) := by decide +kernel
theorem dX7_asset_119 : decode cX7_asset 119 = .ok (.ireturn, 1) := by decide +kernel
theorem dX7_asset_120 : decode cX7_asset 120 = .ok (.aload_n 0, 1) := by decide +kernel
theorem dX7_asset_121 : decode cX7_asset 121 = .ok (.getfield 10, 3) := by decide +kernel
theorem dX7_asset_124 : decode cX7_asset 124 = .ok (.iload_n 1, 1) := by decide +kernel
theorem dX7_asset_125 : decode cX7_asset 125 = .ok (.iconst 4, 1) := by decide +kernel
theorem dX7_asset_126 : decode cX7_asset 126 = .ok (.iconst 4, 1) := by decide +kernel
theorem dX7_asset_127 : decode cX7_asset 127 = .ok (.invokevirtual 163, 3) := by decide +kernel
theorem dX7_asset_130 : decode cX7_asset 130 = .ok (.ireturn, 1) := by decide +kernel
theorem dX7_asset_131 : decode cX7_asset 131 = .ok (.aload_n 3, 1) := by decide +kernel
theorem dX7_asset_132 : decode cX7_asset 132 = .ok (.getfield 126, 3) := by decide +kernel
theorem dX7_asset_135 : decode cX7_asset 135 = .ok (.ldc 167, 2) := by decide +kernel
theorem dX7_asset_137 : decode cX7_asset 137 = .ok (.fmul, 1) := by decide +kernel
theorem dX7_asset_138 : decode cX7_asset 138 = .ok (.f2i, 1) := by decide +kernel
theorem dX7_asset_139 : decode cX7_asset 139 = .ok (.ireturn, 1) := by decide +kernel
theorem dX7_asset_140 : decode cX7_asset 140 = .ok (.aload_n 3, 1) := by decide +kernel
theorem dX7_asset_141 : decode cX7_asset 141 = .ok (.getfield 132, 3) := by decide +kernel
theorem dX7_asset_144 : decode cX7_asset 144 = .ok (.f2i, 1) := by decide +kernel
theorem dX7_asset_145 : decode cX7_asset 145 = .ok (.ireturn, 1) := by decide +kernel
theorem dX7_asset_146 : decode cX7_asset 146 = .ok (.bipush (-2), 2) := by decide +kernel
theorem dX7_asset_148 : decode cX7_asset 148 = .ok (.ireturn, 1) := by decide +kernel
theorem dX7_tagAt_0 : decode cX7_tagAt 0 = .ok (.aload_n 0, 1) := by decide +kernel
theorem dX7_tagAt_1 : decode cX7_tagAt 1 = .ok (.getfield 10, 3) := by decide +kernel
theorem dX7_tagAt_4 : decode cX7_tagAt 4 = .ok (.iload_n 1, 1) := by decide +kernel
theorem dX7_tagAt_5 : decode cX7_tagAt 5 = .ok (.invokevirtual 117, 3) := by decide +kernel
theorem dX7_tagAt_8 : decode cX7_tagAt 8 = .ok (.ifCond .ne 5, 3) := by decide +kernel
theorem dX7_tagAt_11 : decode cX7_tagAt 11 = .ok (.iconst (-1), 1) := by decide +kernel
theorem dX7_tagAt_12 : decode cX7_tagAt 12 = .ok (.ireturn, 1) := by decide +kernel
theorem dX7_tagAt_13 : decode cX7_tagAt 13 = .ok (.iload_n 2, 1) := by decide +kernel
theorem dX7_tagAt_14 : decode cX7_tagAt 14 = .ok (.ifCond .ge 6, 3) := by decide +kernel
theorem dX7_tagAt_17 : decode cX7_tagAt 17 = .ok (.bipush (-2), 2) := by decide +kernel
theorem dX7_tagAt_19 : decode cX7_tagAt 19 = .ok (.ireturn, 1) := by decide +kernel
theorem dX7_tagAt_20 : decode cX7_tagAt 20 = .ok (.aload_n 0, 1) := by decide +kernel
theorem dX7_tagAt_21 : decode cX7_tagAt 21 = .ok (.getfield 10, 3) := by decide +kernel
theorem dX7_tagAt_24 : decode cX7_tagAt 24 = .ok (.iload_n 1, 1) := by decide +kernel
theorem dX7_tagAt_25 : decode cX7_tagAt 25 = .ok (.iload_n 2, 1) := by decide +kernel
theorem dX7_tagAt_26 : decode cX7_tagAt 26 = .ok (.invokevirtual 157, 3) := by decide +kernel
theorem dX7_tagAt_29 : decode cX7_tagAt 29 = .ok (.ireturn, 1) := by decide +kernel
theorem dX7_crew_0 : decode cX7_crew 0 = .ok (.aload_n 0, 1) := by decide +kernel
theorem dX7_crew_1 : decode cX7_crew 1 = .ok (.getfield 10, 3) := by decide +kernel
theorem dX7_crew_4 : decode cX7_crew 4 = .ok (.iload_n 1, 1) := by decide +kernel
theorem dX7_crew_5 : decode cX7_crew 5 = .ok (.invokevirtual 168, 3) := by decide +kernel
theorem dX7_crew_8 : decode cX7_crew 8 = .ok (.ifCond .ne 5, 3) := by decide +kernel
theorem dX7_crew_11 : decode cX7_crew 11 = .ok (.iconst (-1), 1) := by decide +kernel
theorem dX7_crew_12 : decode cX7_crew 12 = .ok (.ireturn, 1) := by decide +kernel
theorem dX7_crew_13 : decode cX7_crew 13 = .ok (.aload_n 0, 1) := by decide +kernel
theorem dX7_crew_14 : decode cX7_crew 14 = .ok (.getfield 10, 3) := by decide +kernel
theorem dX7_crew_17 : decode cX7_crew 17 = .ok (.getfield 171, 3) := by decide +kernel
theorem dX7_crew_20 : decode cX7_crew 20 = .ok (.iload_n 1, 1) := by decide +kernel
theorem dX7_crew_21 : decode cX7_crew 21 = .ok (.aaload, 1) := by decide +kernel
theorem dX7_crew_22 : decode cX7_crew 22 = .ok (.astore_n 3, 1) := by decide +kernel
theorem dX7_crew_23 : decode cX7_crew 23 = .ok (.iload_n 2, 1) := by decide +kernel
theorem dX7_crew_24 : decode cX7_crew 24 = .ok (.tableswitch 77 0 4 #[36, 41, 46, 55, 66], 36) := by decide +kernel
theorem dX7_crew_60 : decode cX7_crew 60 = .ok (.aload_n 3, 1) := by decide +kernel
theorem dX7_crew_61 : decode cX7_crew 61 = .ok (.getfield 175, 3) := by decide +kernel
theorem dX7_crew_64 : decode cX7_crew 64 = .ok (.ireturn, 1) := by decide +kernel
theorem dX7_crew_65 : decode cX7_crew 65 = .ok (.aload_n 3, 1) := by decide +kernel
theorem dX7_crew_66 : decode cX7_crew 66 = .ok (.getfield 180, 3) := by decide +kernel
theorem dX7_crew_69 : decode cX7_crew 69 = .ok (.ireturn, 1) := by decide +kernel
theorem dX7_crew_70 : decode cX7_crew 70 = .ok (.aload_n 0, 1) := by decide +kernel
theorem dX7_crew_71 : decode cX7_crew 71 = .ok (.getfield 10, 3) := by decide +kernel
theorem dX7_crew_74 : decode cX7_crew 74 = .ok (.iload_n 1, 1) := by decide +kernel
theorem dX7_crew_75 : decode cX7_crew 75 = .ok (.invokevirtual 183, 3) := by decide +kernel
theorem dX7_crew_78 : decode cX7_crew 78 = .ok (.ireturn, 1) := by decide +kernel
theorem dX7_crew_79 : decode cX7_crew 79 = .ok (.aload_n 0, 1) := by decide +kernel
theorem dX7_crew_80 : decode cX7_crew 80 = .ok (.getfield 10, 3) := by decide +kernel
theorem dX7_crew_83 : decode cX7_crew 83 = .ok (.iload_n 1, 1) := by decide +kernel
theorem dX7_crew_84 : decode cX7_crew 84 = .ok (.iconst 1, 1) := by decide +kernel
theorem dX7_crew_85 : decode cX7_crew 85 = .ok (.iconst 3, 1) := by decide +kernel
theorem dX7_crew_86 : decode cX7_crew 86 = .ok (.invokevirtual 186, 3) := by decide +kernel
theorem dX7_crew_89 : decode cX7_crew 89 = .ok (.ireturn, 1) := by decide +kernel
theorem dX7_crew_90 : decode cX7_crew 90 = .ok (.aload_n 0, 1) := by decide +kernel
theorem dX7_crew_91 : decode cX7_crew 91 = .ok (.getfield 10, 3) := by decide +kernel
theorem dX7_crew_94 : decode cX7_crew 94 = .ok (.iload_n 1, 1) := by decide +kernel
theorem dX7_crew_95 : decode cX7_crew 95 = .ok (.iconst 4, 1) := by decide +kernel
theorem dX7_crew_96 : decode cX7_crew 96 = .ok (.iconst 4, 1) := by decide +kernel
theorem dX7_crew_97 : decode cX7_crew 97 = .ok (.invokevirtual 186, 3) := by decide +kernel
theorem dX7_crew_100 : decode cX7_crew 100 = .ok (.ireturn, 1) := by decide +kernel
theorem dX7_crew_101 : decode cX7_crew 101 = .ok (.bipush (-2), 2) := by decide +kernel
theorem dX7_crew_103 : decode cX7_crew 103 = .ok (.ireturn, 1) := by decide +kernel
theorem dX7_task_0 : decode cX7_task 0 = .ok (.aload_n 0, 1) := by decide +kernel
theorem dX7_task_1 : decode cX7_task 1 = .ok (.getfield 10, 3) := by decide +kernel
theorem dX7_task_4 : decode cX7_task 4 = .ok (.iload_n 1, 1) := by decide +kernel
theorem dX7_task_5 : decode cX7_task 5 = .ok (.invokevirtual 189, 3) := by decide +kernel
theorem dX7_task_8 : decode cX7_task 8 = .ok (.ifCond .ne 5, 3) := by decide +kernel
theorem dX7_task_11 : decode cX7_task 11 = .ok (.iconst (-1), 1) := by decide +kernel
theorem dX7_task_12 : decode cX7_task 12 = .ok (.ireturn, 1) := by decide +kernel
theorem dX7_task_13 : decode cX7_task 13 = .ok (.aload_n 0, 1) := by decide +kernel
theorem dX7_task_14 : decode cX7_task 14 = .ok (.getfield 10, 3) := by decide +kernel
theorem dX7_task_17 : decode cX7_task 17 = .ok (.getfield 192, 3) := by decide +kernel
theorem dX7_task_20 : decode cX7_task 20 = .ok (.iload_n 1, 1) := by decide +kernel
theorem dX7_task_21 : decode cX7_task 21 = .ok (.aaload, 1) := by decide +kernel
theorem dX7_task_22 : decode cX7_task 22 = .ok (.astore_n 3, 1) := by decide +kernel
theorem dX7_task_23 : decode cX7_task 23 = .ok (.iload_n 2, 1) := by decide +kernel
theorem dX7_task_24 : decode cX7_task 24 = .ok (.tableswitch 154 0 12 #[68, 73, 78, 83, 88, 93, 98, 103, 108, 113, 131, 136, 145], 68) := by decide +kernel
theorem dX7_task_92 : decode cX7_task 92 = .ok (.aload_n 3, 1) := by decide +kernel
theorem dX7_task_93 : decode cX7_task 93 = .ok (.getfield 196, 3) := by decide +kernel
theorem dX7_task_96 : decode cX7_task 96 = .ok (.ireturn, 1) := by decide +kernel
theorem dX7_task_97 : decode cX7_task 97 = .ok (.aload_n 3, 1) := by decide +kernel
theorem dX7_task_98 : decode cX7_task 98 = .ok (.getfield 201, 3) := by decide +kernel
theorem dX7_task_101 : decode cX7_task 101 = .ok (.ireturn, 1) := by decide +kernel
theorem dX7_task_102 : decode cX7_task 102 = .ok (.aload_n 3, 1) := by decide +kernel
theorem dX7_task_103 : decode cX7_task 103 = .ok (.getfield 204, 3) := by decide +kernel
theorem dX7_task_106 : decode cX7_task 106 = .ok (.ireturn, 1) := by decide +kernel
theorem dX7_task_107 : decode cX7_task 107 = .ok (.aload_n 3, 1) := by decide +kernel
theorem dX7_task_108 : decode cX7_task 108 = .ok (.getfield 207, 3) := by decide +kernel
theorem dX7_task_111 : decode cX7_task 111 = .ok (.ireturn, 1) := by decide +kernel
theorem dX7_task_112 : decode cX7_task 112 = .ok (.aload_n 3, 1) := by decide +kernel
theorem dX7_task_113 : decode cX7_task 113 = .ok (.getfield 208, 3) := by decide +kernel
theorem dX7_task_116 : decode cX7_task 116 = .ok (.ireturn, 1) := by decide +kernel
theorem dX7_task_117 : decode cX7_task 117 = .ok (.aload_n 3, 1) := by decide +kernel
theorem dX7_task_118 : decode cX7_task 118 = .ok (.getfield 211, 3) := by decide +kernel
theorem dX7_task_121 : decode cX7_task 121 = .ok (.ireturn, 1) := by decide +kernel
theorem dX7_task_122 : decode cX7_task 122 = .ok (.aload_n 3, 1) := by decide +kernel
theorem dX7_task_123 : decode cX7_task 123 = .ok (.getfield 214, 3) := by decide +kernel
theorem dX7_task_126 : decode cX7_task 126 = .ok (.ireturn, 1) := by decide +kernel
theorem dX7_task_127 : decode cX7_task 127 = .ok (.aload_n 3, 1) := by decide +kernel
theorem dX7_task_128 : decode cX7_task 128 = .ok (.getfield 217, 3) := by decide +kernel
theorem dX7_task_131 : decode cX7_task 131 = .ok (.ireturn, 1) := by decide +kernel
theorem dX7_task_132 : decode cX7_task 132 = .ok (.aload_n 3, 1) := by decide +kernel
theorem dX7_task_133 : decode cX7_task 133 = .ok (.getfield 220, 3) := by decide +kernel
theorem dX7_task_136 : decode cX7_task 136 = .ok (.ireturn, 1) := by decide +kernel
theorem dX7_task_137 : decode cX7_task 137 = .ok (.aload_n 3, 1) := by decide +kernel
theorem dX7_task_138 : decode cX7_task 138 = .ok (.getfield 201, 3) := by decide +kernel
theorem dX7_task_141 : decode cX7_task 141 = .ok (.iconst 2, 1) := by decide +kernel
theorem dX7_task_142 : decode cX7_task 142 = .ok (.if_icmp .ne 10, 3) := by decide +kernel
theorem dX7_task_145 : decode cX7_task 145 = .ok (.aload_n 3, 1) := by decide +kernel
theorem dX7_task_146 : decode cX7_task 146 = .ok (.getfield 223, 3) := by decide +kernel
theorem dX7_task_149 : decode cX7_task 149 = .ok (.goto 5, 3) := by decide +kernel
theorem dX7_task_152 : decode cX7_task 152 = .ok (.bipush (-5), 2) := by decide +kernel
theorem dX7_task_154 : decode cX7_task 154 = .ok (.ireturn, 1) := by decide +kernel
theorem dX7_task_155 : decode cX7_task 155 = .ok (.aload_n 3, 1) := by decide +kernel
theorem dX7_task_156 : decode cX7_task 156 = .ok (.getfield 226, 3) := by decide +kernel
theorem dX7_task_159 : decode cX7_task 159 = .ok (.ireturn, 1) := by decide +kernel
theorem dX7_task_160 : decode cX7_task 160 = .ok (.aload_n 0, 1) := by decide +kernel
theorem dX7_task_161 : decode cX7_task 161 = .ok (.getfield 10, 3) := by decide +kernel
theorem dX7_task_164 : decode cX7_task 164 = .ok (.iload_n 1, 1) := by decide +kernel
theorem dX7_task_165 : decode cX7_task 165 = .ok (.invokevirtual 229, 3) := by decide +kernel
theorem dX7_task_168 : decode cX7_task 168 = .ok (.ireturn, 1) := by decide +kernel
theorem dX7_task_169 : decode cX7_task 169 = .ok (.aload_n 0, 1) := by decide +kernel
theorem dX7_task_170 : decode cX7_task 170 = .ok (.getfield 10, 3) := by decide +kernel
theorem dX7_task_173 : decode cX7_task 173 = .ok (.iload_n 1, 1) := by decide +kernel
theorem dX7_task_174 : decode cX7_task 174 = .ok (.invokevirtual 232, 3) := by decide +kernel
theorem dX7_task_177 : decode cX7_task 177 = .ok (.ireturn, 1) := by decide +kernel
theorem dX7_task_178 : decode cX7_task 178 = .ok (.bipush (-2), 2) := by decide +kernel
theorem dX7_task_180 : decode cX7_task 180 = .ok (.ireturn, 1) := by decide +kernel
theorem dX7_crewFor_0 : decode cX7_crewFor 0 = .ok (.aload_n 0, 1) := by decide +kernel
theorem dX7_crewFor_1 : decode cX7_crewFor 1 = .ok (.getfield 10, 3) := by decide +kernel
theorem dX7_crewFor_4 : decode cX7_crewFor 4 = .ok (.iload_n 1, 1) := by decide +kernel
theorem dX7_crewFor_5 : decode cX7_crewFor 5 = .ok (.invokevirtual 189, 3) := by decide +kernel
theorem dX7_crewFor_8 : decode cX7_crewFor 8 = .ok (.ifCond .ne 5, 3) := by decide +kernel
theorem dX7_crewFor_11 : decode cX7_crewFor 11 = .ok (.iconst (-1), 1) := by decide +kernel
theorem dX7_crewFor_12 : decode cX7_crewFor 12 = .ok (.ireturn, 1) := by decide +kernel
theorem dX7_crewFor_13 : decode cX7_crewFor 13 = .ok (.aload_n 0, 1) := by decide +kernel
theorem dX7_crewFor_14 : decode cX7_crewFor 14 = .ok (.getfield 10, 3) := by decide +kernel
theorem dX7_crewFor_17 : decode cX7_crewFor 17 = .ok (.iload_n 1, 1) := by decide +kernel
theorem dX7_crewFor_18 : decode cX7_crewFor 18 = .ok (.invokevirtual 235, 3) := by decide +kernel
theorem dX7_crewFor_21 : decode cX7_crewFor 21 = .ok (.ireturn, 1) := by decide +kernel
theorem dX7_count_0 : decode cX7_count 0 = .ok (.iload_n 1, 1) := by decide +kernel
theorem dX7_count_1 : decode cX7_count 1 = .ok (.tableswitch 165 0 16 #[83, 91, 99, 107, 115, 165, 165, 165, 165, 165, 165, 165, 123, 133, 141, 149, 157], 83) := by decide +kernel
theorem dX7_count_84 : decode cX7_count 84 = .ok (.aload_n 0, 1) := by decide +kernel
theorem dX7_count_85 : decode cX7_count 85 = .ok (.getfield 10, 3) := by decide +kernel
theorem dX7_count_88 : decode cX7_count 88 = .ok (.getfield 114, 3) := by decide +kernel
theorem dX7_count_91 : decode cX7_count 91 = .ok (.ireturn, 1) := by decide +kernel
theorem dX7_count_92 : decode cX7_count 92 = .ok (.aload_n 0, 1) := by decide +kernel
theorem dX7_count_93 : decode cX7_count 93 = .ok (.getfield 10, 3) := by decide +kernel
theorem dX7_count_96 : decode cX7_count 96 = .ok (.getfield 238, 3) := by decide +kernel
theorem dX7_count_99 : decode cX7_count 99 = .ok (.ireturn, 1) := by decide +kernel
theorem dX7_count_100 : decode cX7_count 100 = .ok (.aload_n 0, 1) := by decide +kernel
theorem dX7_count_101 : decode cX7_count 101 = .ok (.getfield 10, 3) := by decide +kernel
theorem dX7_count_104 : decode cX7_count 104 = .ok (.invokevirtual 241, 3) := by decide +kernel
theorem dX7_count_107 : decode cX7_count 107 = .ok (.ireturn, 1) := by decide +kernel
theorem dX7_count_108 : decode cX7_count 108 = .ok (.aload_n 0, 1) := by decide +kernel
theorem dX7_count_109 : decode cX7_count 109 = .ok (.getfield 10, 3) := by decide +kernel
theorem dX7_count_112 : decode cX7_count 112 = .ok (.getfield 244, 3) := by decide +kernel
theorem dX7_count_115 : decode cX7_count 115 = .ok (.ireturn, 1) := by decide +kernel
theorem dX7_count_116 : decode cX7_count 116 = .ok (.aload_n 0, 1) := by decide +kernel
theorem dX7_count_117 : decode cX7_count 117 = .ok (.getfield 10, 3) := by decide +kernel
theorem dX7_count_120 : decode cX7_count 120 = .ok (.getfield 247, 3) := by decide +kernel
theorem dX7_count_123 : decode cX7_count 123 = .ok (.ireturn, 1) := by decide +kernel
theorem dX7_count_124 : decode cX7_count 124 = .ok (.aload_n 0, 1) := by decide +kernel
theorem dX7_count_125 : decode cX7_count 125 = .ok (.getfield 10, 3) := by decide +kernel
theorem dX7_count_128 : decode cX7_count 128 = .ok (.iconst 1, 1) := by decide +kernel
theorem dX7_count_129 : decode cX7_count 129 = .ok (.iconst 3, 1) := by decide +kernel
theorem dX7_count_130 : decode cX7_count 130 = .ok (.invokevirtual 250, 3) := by decide +kernel
theorem dX7_count_133 : decode cX7_count 133 = .ok (.ireturn, 1) := by decide +kernel
theorem dX7_count_134 : decode cX7_count 134 = .ok (.aload_n 0, 1) := by decide +kernel
theorem dX7_count_135 : decode cX7_count 135 = .ok (.getfield 10, 3) := by decide +kernel
theorem dX7_count_138 : decode cX7_count 138 = .ok (.invokevirtual 253, 3) := by decide +kernel
theorem dX7_count_141 : decode cX7_count 141 = .ok (.ireturn, 1) := by decide +kernel
theorem dX7_count_142 : decode cX7_count 142 = .ok (.aload_n 0, 1) := by decide +kernel
theorem dX7_count_143 : decode cX7_count 143 = .ok (.getfield 10, 3) := by decide +kernel
theorem dX7_count_146 : decode cX7_count 146 = .ok (.invokevirtual 256, 3) := by decide +kernel
theorem dX7_count_149 : decode cX7_count 149 = .ok (.ireturn, 1) := by decide +kernel
theorem dX7_count_150 : decode cX7_count 150 = .ok (.aload_n 0, 1) := by decide +kernel
theorem dX7_count_151 : decode cX7_count 151 = .ok (.getfield 29, 3) := by decide +kernel
theorem dX7_count_154 : decode cX7_count 154 = .ok (.getfield 259, 3) := by decide +kernel
theorem dX7_count_157 : decode cX7_count 157 = .ok (.ireturn, 1) := by decide +kernel
theorem dX7_count_158 : decode cX7_count 158 = .ok (.aload_n 0, 1) := by decide +kernel
theorem dX7_count_159 : decode cX7_count 159 = .ok (.getfield 36, 3) := by decide +kernel
theorem dX7_count_162 : decode cX7_count 162 = .ok (.getfield 262, 3) := by decide +kernel
theorem dX7_count_165 : decode cX7_count 165 = .ok (.ireturn, 1) := by decide +kernel
theorem dX7_count_166 : decode cX7_count 166 = .ok (.iload_n 1, 1) := by decide +kernel
theorem dX7_count_167 : decode cX7_count 167 = .ok (.iconst 5, 1) := by decide +kernel
theorem dX7_count_168 : decode cX7_count 168 = .ok (.bipush 11, 2) := by decide +kernel
theorem dX7_count_170 : decode cX7_count 170 = .ok (.invokestatic 138, 3) := by decide +kernel
theorem dX7_count_173 : decode cX7_count 173 = .ok (.ifCond .eq 17, 3) := by decide +kernel
theorem dX7_count_176 : decode cX7_count 176 = .ok (.aload_n 0, 1) := by decide +kernel
theorem dX7_count_177 : decode cX7_count 177 = .ok (.getfield 10, 3) := by decide +kernel
theorem dX7_count_180 : decode cX7_count 180 = .ok (.iload_n 1, 1) := by decide +kernel
theorem dX7_count_181 : decode cX7_count 181 = .ok (.iconst 5, 1) := by decide +kernel
theorem dX7_count_182 : decode cX7_count 182 = .ok (.isub, 1) := by decide +kernel
theorem dX7_count_183 : decode cX7_count 183 = .ok (.iload_n 1, 1) := by decide +kernel
theorem dX7_count_184 : decode cX7_count 184 = .ok (.iconst 5, 1) := by decide +kernel
theorem dX7_count_185 : decode cX7_count 185 = .ok (.isub, 1) := by decide +kernel
theorem dX7_count_186 : decode cX7_count 186 = .ok (.invokevirtual 250, 3) := by decide +kernel
theorem dX7_count_189 : decode cX7_count 189 = .ok (.ireturn, 1) := by decide +kernel
theorem dX7_count_190 : decode cX7_count 190 = .ok (.bipush (-2), 2) := by decide +kernel
theorem dX7_count_192 : decode cX7_count 192 = .ok (.ireturn, 1) := by decide +kernel
theorem dX7_recorded_0 : decode cX7_recorded 0 = .ok (.iload_n 1, 1) := by decide +kernel
theorem dX7_recorded_1 : decode cX7_recorded 1 = .ok (.ifCond .lt 14, 3) := by decide +kernel
theorem dX7_recorded_4 : decode cX7_recorded 4 = .ok (.aload_n 0, 1) := by decide +kernel
theorem dX7_recorded_5 : decode cX7_recorded 5 = .ok (.getfield 29, 3) := by decide +kernel
theorem dX7_recorded_8 : decode cX7_recorded 8 = .ok (.aload_n 0, 1) := by decide +kernel
theorem dX7_recorded_9 : decode cX7_recorded 9 = .ok (.getfield 16, 3) := by decide +kernel
theorem dX7_recorded_12 : decode cX7_recorded 12 = .ok (.invokevirtual 265, 3) := by decide +kernel
theorem dX7_recorded_15 : decode cX7_recorded 15 = .ok (.iload_n 1, 1) := by decide +kernel
theorem dX7_recorded_16 : decode cX7_recorded 16 = .ok (.ireturn, 1) := by decide +kernel
theorem dX7_within_0 : decode cX7_within 0 = .ok (.iload_n 0, 1) := by decide +kernel
theorem dX7_within_1 : decode cX7_within 1 = .ok (.iload_n 1, 1) := by decide +kernel
theorem dX7_within_2 : decode cX7_within 2 = .ok (.if_icmp .lt 12, 3) := by decide +kernel
theorem dX7_within_5 : decode cX7_within 5 = .ok (.iload_n 0, 1) := by decide +kernel
theorem dX7_within_6 : decode cX7_within 6 = .ok (.iload_n 2, 1) := by decide +kernel
theorem dX7_within_7 : decode cX7_within 7 = .ok (.if_icmp .gt 7, 3) := by decide +kernel
theorem dX7_within_10 : decode cX7_within 10 = .ok (.iconst 1, 1) := by decide +kernel
theorem dX7_within_11 : decode cX7_within 11 = .ok (.goto 4, 3) := by decide +kernel
theorem dX7_within_14 : decode cX7_within 14 = .ok (.iconst 0, 1) := by decide +kernel
theorem dX7_within_15 : decode cX7_within 15 = .ok (.ireturn, 1) := by decide +kernel
theorem dJ6_bitCount_0f7a4_0 : decode cJ6_bitCount_0f7a4 0 = .ok (.iload_n 0, 1) := by decide +kernel
theorem dJ6_bitCount_0f7a4_1 : decode cJ6_bitCount_0f7a4 1 = .ok (.iload_n 0, 1) := by decide +kernel
theorem dJ6_bitCount_0f7a4_2 : decode cJ6_bitCount_0f7a4 2 = .ok (.iconst 1, 1) := by decide +kernel
theorem dJ6_bitCount_0f7a4_3 : decode cJ6_bitCount_0f7a4 3 = .ok (.iushr, 1) := by decide +kernel
theorem dJ6_bitCount_0f7a4_4 : decode cJ6_bitCount_0f7a4 4 = .ok (.ldc_w 265, 3) := by decide +kernel
theorem dJ6_bitCount_0f7a4_7 : decode cJ6_bitCount_0f7a4 7 = .ok (.iand, 1) := by decide +kernel
theorem dJ6_bitCount_0f7a4_8 : decode cJ6_bitCount_0f7a4 8 = .ok (.isub, 1) := by decide +kernel
theorem dJ6_bitCount_0f7a4_9 : decode cJ6_bitCount_0f7a4 9 = .ok (.istore_n 0, 1) := by decide +kernel
theorem dJ6_bitCount_0f7a4_10 : decode cJ6_bitCount_0f7a4 10 = .ok (.iload_n 0, 1) := by decide +kernel
theorem dJ6_bitCount_0f7a4_11 : decode cJ6_bitCount_0f7a4 11 = .ok (.ldc_w 266, 3) := by decide +kernel
theorem dJ6_bitCount_0f7a4_14 : decode cJ6_bitCount_0f7a4 14 = .ok (.iand, 1) := by decide +kernel
theorem dJ6_bitCount_0f7a4_15 : decode cJ6_bitCount_0f7a4 15 = .ok (.iload_n 0, 1) := by decide +kernel
theorem dJ6_bitCount_0f7a4_16 : decode cJ6_bitCount_0f7a4 16 = .ok (.iconst 2, 1) := by decide +kernel
theorem dJ6_bitCount_0f7a4_17 : decode cJ6_bitCount_0f7a4 17 = .ok (.iushr, 1) := by decide +kernel
theorem dJ6_bitCount_0f7a4_18 : decode cJ6_bitCount_0f7a4 18 = .ok (.ldc_w 266, 3) := by decide +kernel
theorem dJ6_bitCount_0f7a4_21 : decode cJ6_bitCount_0f7a4 21 = .ok (.iand, 1) := by decide +kernel
theorem dJ6_bitCount_0f7a4_22 : decode cJ6_bitCount_0f7a4 22 = .ok (.iadd, 1) := by decide +kernel
theorem dJ6_bitCount_0f7a4_23 : decode cJ6_bitCount_0f7a4 23 = .ok (.istore_n 0, 1) := by decide +kernel
theorem dJ6_bitCount_0f7a4_24 : decode cJ6_bitCount_0f7a4 24 = .ok (.iload_n 0, 1) := by decide +kernel
theorem dJ6_bitCount_0f7a4_25 : decode cJ6_bitCount_0f7a4 25 = .ok (.iload_n 0, 1) := by decide +kernel
theorem dJ6_bitCount_0f7a4_26 : decode cJ6_bitCount_0f7a4 26 = .ok (.iconst 4, 1) := by decide +kernel
theorem dJ6_bitCount_0f7a4_27 : decode cJ6_bitCount_0f7a4 27 = .ok (.iushr, 1) := by decide +kernel
theorem dJ6_bitCount_0f7a4_28 : decode cJ6_bitCount_0f7a4 28 = .ok (.iadd, 1) := by decide +kernel
theorem dJ6_bitCount_0f7a4_29 : decode cJ6_bitCount_0f7a4 29 = .ok (.ldc_w 267, 3) := by decide +kernel
theorem dJ6_bitCount_0f7a4_32 : decode cJ6_bitCount_0f7a4 32 = .ok (.iand, 1) := by decide +kernel
theorem dJ6_bitCount_0f7a4_33 : decode cJ6_bitCount_0f7a4 33 = .ok (.istore_n 0, 1) := by decide +kernel
theorem dJ6_bitCount_0f7a4_34 : decode cJ6_bitCount_0f7a4 34 = .ok (.iload_n 0, 1) := by decide +kernel
theorem dJ6_bitCount_0f7a4_35 : decode cJ6_bitCount_0f7a4 35 = .ok (.iload_n 0, 1) := by decide +kernel
theorem dJ6_bitCount_0f7a4_36 : decode cJ6_bitCount_0f7a4 36 = .ok (.bipush 8, 2) := by decide +kernel
theorem dJ6_bitCount_0f7a4_38 : decode cJ6_bitCount_0f7a4 38 = .ok (.iushr, 1) := by decide +kernel
theorem dJ6_bitCount_0f7a4_39 : decode cJ6_bitCount_0f7a4 39 = .ok (.iadd, 1) := by decide +kernel
theorem dJ6_bitCount_0f7a4_40 : decode cJ6_bitCount_0f7a4 40 = .ok (.istore_n 0, 1) := by decide +kernel
theorem dJ6_bitCount_0f7a4_41 : decode cJ6_bitCount_0f7a4 41 = .ok (.iload_n 0, 1) := by decide +kernel
theorem dJ6_bitCount_0f7a4_42 : decode cJ6_bitCount_0f7a4 42 = .ok (.iload_n 0, 1) := by decide +kernel
theorem dJ6_bitCount_0f7a4_43 : decode cJ6_bitCount_0f7a4 43 = .ok (.bipush 16, 2) := by decide +kernel
theorem dJ6_bitCount_0f7a4_45 : decode cJ6_bitCount_0f7a4 45 = .ok (.iushr, 1) := by decide +kernel
theorem dJ6_bitCount_0f7a4_46 : decode cJ6_bitCount_0f7a4 46 = .ok (.iadd, 1) := by decide +kernel
theorem dJ6_bitCount_0f7a4_47 : decode cJ6_bitCount_0f7a4 47 = .ok (.istore_n 0, 1) := by decide +kernel
theorem dJ6_bitCount_0f7a4_48 : decode cJ6_bitCount_0f7a4 48 = .ok (.iload_n 0, 1) := by decide +kernel
theorem dJ6_bitCount_0f7a4_49 : decode cJ6_bitCount_0f7a4 49 = .ok (.bipush 63, 2) := by decide +kernel
theorem dJ6_bitCount_0f7a4_51 : decode cJ6_bitCount_0f7a4 51 = .ok (.iand, 1) := by decide +kernel
theorem dJ6_bitCount_0f7a4_52 : decode cJ6_bitCount_0f7a4 52 = .ok (.ireturn, 1) := by decide +kernel
theorem dL_cell_0 : decode cL_cell 0 = .ok (.iload_n 1, 1) := by decide +kernel
theorem dL_cell_1 : decode cL_cell 1 = .ok (.aload_n 0, 1) := by decide +kernel
theorem dL_cell_2 : decode cL_cell 2 = .ok (.arraylength, 1) := by decide +kernel
theorem dL_cell_3 : decode cL_cell 3 = .ok (.if_icmp .ge 9, 3) := by decide +kernel
theorem dL_cell_6 : decode cL_cell 6 = .ok (.aload_n 0, 1) := by decide +kernel
theorem dL_cell_7 : decode cL_cell 7 = .ok (.iload_n 1, 1) := by decide +kernel
theorem dL_cell_8 : decode cL_cell 8 = .ok (.iaload, 1) := by decide +kernel
theorem dL_cell_9 : decode cL_cell 9 = .ok (.goto 9, 3) := by decide +kernel
theorem dL_cell_12 : decode cL_cell 12 = .ok (.ldc 7, 2) := by decide +kernel
theorem dL_cell_14 : decode cL_cell 14 = .ok (.iload_n 1, 1) := by decide +kernel
theorem dL_cell_15 : decode cL_cell 15 = .ok (.iconst 3, 1) := by decide +kernel
theorem dL_cell_16 : decode cL_cell 16 = .ok (.iadd, 1) := by decide +kernel
theorem dL_cell_17 : decode cL_cell 17 = .ok (.imul, 1) := by decide +kernel
theorem dL_cell_18 : decode cL_cell 18 = .ok (.ireturn, 1) := by decide +kernel
theorem dL_up_0 : decode cL_up 0 = .ok (.iload_n 0, 1) := by decide +kernel
theorem dL_up_1 : decode cL_up 1 = .ok (.ldc 8, 2) := by decide +kernel
theorem dL_up_3 : decode cL_up 3 = .ok (.iand, 1) := by decide +kernel
theorem dL_up_4 : decode cL_up 4 = .ok (.iload_n 1, 1) := by decide +kernel
theorem dL_up_5 : decode cL_up 5 = .ok (.irem, 1) := by decide +kernel
theorem dL_up_6 : decode cL_up 6 = .ok (.ireturn, 1) := by decide +kernel
theorem dL_view_0 : decode cL_view 0 = .ok (.ldc2_w 9, 3) := by decide +kernel
theorem dL_view_3 : decode cL_view 3 = .ok (.lstore_n 1, 1) := by decide +kernel
theorem dL_view_4 : decode cL_view 4 = .ok (.iconst 0, 1) := by decide +kernel
theorem dL_view_5 : decode cL_view 5 = .ok (.istore_n 3, 1) := by decide +kernel
theorem dL_view_6 : decode cL_view 6 = .ok (.iload_n 3, 1) := by decide +kernel
theorem dL_view_7 : decode cL_view 7 = .ok (.bipush 15, 2) := by decide +kernel
theorem dL_view_9 : decode cL_view 9 = .ok (.if_icmp .ge 22, 3) := by decide +kernel
theorem dL_view_12 : decode cL_view 12 = .ok (.ldc2_w 11, 3) := by decide +kernel
theorem dL_view_15 : decode cL_view 15 = .ok (.lload_n 1, 1) := by decide +kernel
theorem dL_view_16 : decode cL_view 16 = .ok (.lmul, 1) := by decide +kernel
theorem dL_view_17 : decode cL_view 17 = .ok (.aload_n 0, 1) := by decide +kernel
theorem dL_view_18 : decode cL_view 18 = .ok (.iload_n 3, 1) := by decide +kernel
theorem dL_view_19 : decode cL_view 19 = .ok (.invokevirtual 13, 3) := by decide +kernel
theorem dL_view_22 : decode cL_view 22 = .ok (.i2l, 1) := by decide +kernel
theorem dL_view_23 : decode cL_view 23 = .ok (.ladd, 1) := by decide +kernel
theorem dL_view_24 : decode cL_view 24 = .ok (.lstore_n 1, 1) := by decide +kernel
theorem dL_view_25 : decode cL_view 25 = .ok (.iinc 3 1, 3) := by decide +kernel
theorem dL_view_28 : decode cL_view 28 = .ok (.goto (-22), 3) := by decide +kernel
theorem dL_view_31 : decode cL_view 31 = .ok (.iconst 0, 1) := by decide +kernel
theorem dL_view_32 : decode cL_view 32 = .ok (.istore_n 3, 1) := by decide +kernel
theorem dL_view_33 : decode cL_view 33 = .ok (.iload_n 3, 1) := by decide +kernel
theorem dL_view_34 : decode cL_view 34 = .ok (.aload_n 0, 1) := by decide +kernel
theorem dL_view_35 : decode cL_view 35 = .ok (.iconst 1, 1) := by decide +kernel
theorem dL_view_36 : decode cL_view 36 = .ok (.invokevirtual 13, 3) := by decide +kernel
theorem dL_view_39 : decode cL_view 39 = .ok (.if_icmp .ge 90, 3) := by decide +kernel
theorem dL_view_42 : decode cL_view 42 = .ok (.iconst 0, 1) := by decide +kernel
theorem dL_view_43 : decode cL_view 43 = .ok (.istore 4, 2) := by decide +kernel
theorem dL_view_45 : decode cL_view 45 = .ok (.iload 4, 2) := by decide +kernel
theorem dL_view_47 : decode cL_view 47 = .ok (.bipush 8, 2) := by decide +kernel
theorem dL_view_49 : decode cL_view 49 = .ok (.if_icmp .ge 24, 3) := by decide +kernel
theorem dL_view_52 : decode cL_view 52 = .ok (.ldc2_w 11, 3) := by decide +kernel
theorem dL_view_55 : decode cL_view 55 = .ok (.lload_n 1, 1) := by decide +kernel
theorem dL_view_56 : decode cL_view 56 = .ok (.lmul, 1) := by decide +kernel
theorem dL_view_57 : decode cL_view 57 = .ok (.aload_n 0, 1) := by decide +kernel
theorem dL_view_58 : decode cL_view 58 = .ok (.iload_n 3, 1) := by decide +kernel
theorem dL_view_59 : decode cL_view 59 = .ok (.iload 4, 2) := by decide +kernel
theorem dL_view_61 : decode cL_view 61 = .ok (.invokevirtual 19, 3) := by decide +kernel
theorem dL_view_64 : decode cL_view 64 = .ok (.i2l, 1) := by decide +kernel
theorem dL_view_65 : decode cL_view 65 = .ok (.ladd, 1) := by decide +kernel
theorem dL_view_66 : decode cL_view 66 = .ok (.lstore_n 1, 1) := by decide +kernel
theorem dL_view_67 : decode cL_view 67 = .ok (.iinc 4 1, 3) := by decide +kernel
theorem dL_view_70 : decode cL_view 70 = .ok (.goto (-25), 3) := by decide +kernel
theorem dL_view_73 : decode cL_view 73 = .ok (.iconst 0, 1) := by decide +kernel
theorem dL_view_74 : decode cL_view 74 = .ok (.istore 4, 2) := by decide +kernel
theorem dL_view_76 : decode cL_view 76 = .ok (.iload 4, 2) := by decide +kernel
theorem dL_view_78 : decode cL_view 78 = .ok (.aload_n 0, 1) := by decide +kernel
theorem dL_view_79 : decode cL_view 79 = .ok (.iload_n 3, 1) := by decide +kernel
theorem dL_view_80 : decode cL_view 80 = .ok (.iconst 1, 1) := by decide +kernel
theorem dL_view_81 : decode cL_view 81 = .ok (.invokevirtual 19, 3) := by decide +kernel
theorem dL_view_84 : decode cL_view 84 = .ok (.if_icmp .ge 24, 3) := by decide +kernel
theorem dL_view_87 : decode cL_view 87 = .ok (.ldc2_w 11, 3) := by decide +kernel
theorem dL_view_90 : decode cL_view 90 = .ok (.lload_n 1, 1) := by decide +kernel
theorem dL_view_91 : decode cL_view 91 = .ok (.lmul, 1) := by decide +kernel
theorem dL_view_92 : decode cL_view 92 = .ok (.aload_n 0, 1) := by decide +kernel
theorem dL_view_93 : decode cL_view 93 = .ok (.iload_n 3, 1) := by decide +kernel
theorem dL_view_94 : decode cL_view 94 = .ok (.iload 4, 2) := by decide +kernel
theorem dL_view_96 : decode cL_view 96 = .ok (.invokevirtual 23, 3) := by decide +kernel
theorem dL_view_99 : decode cL_view 99 = .ok (.i2l, 1) := by decide +kernel
theorem dL_view_100 : decode cL_view 100 = .ok (.ladd, 1) := by decide +kernel
theorem dL_view_101 : decode cL_view 101 = .ok (.lstore_n 1, 1) := by decide +kernel
theorem dL_view_102 : decode cL_view 102 = .ok (.iinc 4 1, 3) := by decide +kernel
theorem dL_view_105 : decode cL_view 105 = .ok (.goto (-29), 3) := by decide +kernel
theorem dL_view_108 : decode cL_view 108 = .ok (.ldc2_w 11, 3) := by decide +kernel
theorem dL_view_111 : decode cL_view 111 = .ok (.lload_n 1, 1) := by decide +kernel
theorem dL_view_112 : decode cL_view 112 = .ok (.lmul, 1) := by decide +kernel
theorem dL_view_113 : decode cL_view 113 = .ok (.aload_n 0, 1) := by decide +kernel
theorem dL_view_114 : decode cL_view 114 = .ok (.iload_n 3, 1) := by decide +kernel
theorem dL_view_115 : decode cL_view 115 = .ok (.bipush 60, 2) := by decide +kernel
theorem dL_view_117 : decode cL_view 117 = .ok (.invokevirtual 26, 3) := by decide +kernel
theorem dL_view_120 : decode cL_view 120 = .ok (.i2l, 1) := by decide +kernel
theorem dL_view_121 : decode cL_view 121 = .ok (.ladd, 1) := by decide +kernel
theorem dL_view_122 : decode cL_view 122 = .ok (.lstore_n 1, 1) := by decide +kernel
theorem dL_view_123 : decode cL_view 123 = .ok (.iinc 3 1, 3) := by decide +kernel
theorem dL_view_126 : decode cL_view 126 = .ok (.goto (-93), 3) := by decide +kernel
theorem dL_view_129 : decode cL_view 129 = .ok (.iconst 0, 1) := by decide +kernel
theorem dL_view_130 : decode cL_view 130 = .ok (.istore_n 3, 1) := by decide +kernel
theorem dL_view_131 : decode cL_view 131 = .ok (.iload_n 3, 1) := by decide +kernel
theorem dL_view_132 : decode cL_view 132 = .ok (.aload_n 0, 1) := by decide +kernel
theorem dL_view_133 : decode cL_view 133 = .ok (.iconst 3, 1) := by decide +kernel
theorem dL_view_134 : decode cL_view 134 = .ok (.invokevirtual 13, 3) := by decide +kernel
theorem dL_view_137 : decode cL_view 137 = .ok (.if_icmp .ge 39, 3) := by decide +kernel
theorem dL_view_140 : decode cL_view 140 = .ok (.iconst 0, 1) := by decide +kernel
theorem dL_view_141 : decode cL_view 141 = .ok (.istore 4, 2) := by decide +kernel
theorem dL_view_143 : decode cL_view 143 = .ok (.iload 4, 2) := by decide +kernel
theorem dL_view_145 : decode cL_view 145 = .ok (.iconst 5, 1) := by decide +kernel
theorem dL_view_146 : decode cL_view 146 = .ok (.if_icmp .ge 24, 3) := by decide +kernel
theorem dL_view_149 : decode cL_view 149 = .ok (.ldc2_w 11, 3) := by decide +kernel
theorem dL_view_152 : decode cL_view 152 = .ok (.lload_n 1, 1) := by decide +kernel
theorem dL_view_153 : decode cL_view 153 = .ok (.lmul, 1) := by decide +kernel
theorem dL_view_154 : decode cL_view 154 = .ok (.aload_n 0, 1) := by decide +kernel
theorem dL_view_155 : decode cL_view 155 = .ok (.iload_n 3, 1) := by decide +kernel
theorem dL_view_156 : decode cL_view 156 = .ok (.iload 4, 2) := by decide +kernel
theorem dL_view_158 : decode cL_view 158 = .ok (.invokevirtual 29, 3) := by decide +kernel
theorem dL_view_161 : decode cL_view 161 = .ok (.i2l, 1) := by decide +kernel
theorem dL_view_162 : decode cL_view 162 = .ok (.ladd, 1) := by decide +kernel
theorem dL_view_163 : decode cL_view 163 = .ok (.lstore_n 1, 1) := by decide +kernel
theorem dL_view_164 : decode cL_view 164 = .ok (.iinc 4 1, 3) := by decide +kernel
theorem dL_view_167 : decode cL_view 167 = .ok (.goto (-24), 3) := by decide +kernel
theorem dL_view_170 : decode cL_view 170 = .ok (.iinc 3 1, 3) := by decide +kernel
theorem dL_view_173 : decode cL_view 173 = .ok (.goto (-42), 3) := by decide +kernel
theorem dL_view_176 : decode cL_view 176 = .ok (.iconst 0, 1) := by decide +kernel
theorem dL_view_177 : decode cL_view 177 = .ok (.istore_n 3, 1) := by decide +kernel
theorem dL_view_178 : decode cL_view 178 = .ok (.iload_n 3, 1) := by decide +kernel
theorem dL_view_179 : decode cL_view 179 = .ok (.aload_n 0, 1) := by decide +kernel
theorem dL_view_180 : decode cL_view 180 = .ok (.iconst 4, 1) := by decide +kernel
theorem dL_view_181 : decode cL_view 181 = .ok (.invokevirtual 13, 3) := by decide +kernel
theorem dL_view_184 : decode cL_view 184 = .ok (.if_icmp .ge 40, 3) := by decide +kernel
theorem dL_view_187 : decode cL_view 187 = .ok (.iconst 0, 1) := by decide +kernel
theorem dL_view_188 : decode cL_view 188 = .ok (.istore 4, 2) := by decide +kernel
theorem dL_view_190 : decode cL_view 190 = .ok (.iload 4, 2) := by decide +kernel
theorem dL_view_192 : decode cL_view 192 = .ok (.bipush 13, 2) := by decide +kernel
theorem dL_view_194 : decode cL_view 194 = .ok (.if_icmp .ge 24, 3) := by decide +kernel
theorem dL_view_197 : decode cL_view 197 = .ok (.ldc2_w 11, 3) := by decide +kernel
theorem dL_view_200 : decode cL_view 200 = .ok (.lload_n 1, 1) := by decide +kernel
theorem dL_view_201 : decode cL_view 201 = .ok (.lmul, 1) := by decide +kernel
theorem dL_view_202 : decode cL_view 202 = .ok (.aload_n 0, 1) := by decide +kernel
theorem dL_view_203 : decode cL_view 203 = .ok (.iload_n 3, 1) := by decide +kernel
theorem dL_view_204 : decode cL_view 204 = .ok (.iload 4, 2) := by decide +kernel
theorem dL_view_206 : decode cL_view 206 = .ok (.invokevirtual 32, 3) := by decide +kernel
theorem dL_view_209 : decode cL_view 209 = .ok (.i2l, 1) := by decide +kernel
theorem dL_view_210 : decode cL_view 210 = .ok (.ladd, 1) := by decide +kernel
theorem dL_view_211 : decode cL_view 211 = .ok (.lstore_n 1, 1) := by decide +kernel
theorem dL_view_212 : decode cL_view 212 = .ok (.iinc 4 1, 3) := by decide +kernel
theorem dL_view_215 : decode cL_view 215 = .ok (.goto (-25), 3) := by decide +kernel
theorem dL_view_218 : decode cL_view 218 = .ok (.iinc 3 1, 3) := by decide +kernel
theorem dL_view_221 : decode cL_view 221 = .ok (.goto (-43), 3) := by decide +kernel
theorem dL_view_224 : decode cL_view 224 = .ok (.lload_n 1, 1) := by decide +kernel
theorem dL_view_225 : decode cL_view 225 = .ok (.lreturn, 1) := by decide +kernel
theorem dL_any_0 : decode cL_any 0 = .ok (.iload_n 2, 1) := by decide +kernel
theorem dL_any_1 : decode cL_any 1 = .ok (.bipush 7, 2) := by decide +kernel
theorem dL_any_3 : decode cL_any 3 = .ok (.iand, 1) := by decide +kernel
theorem dL_any_4 : decode cL_any 4 = .ok (.tableswitch 96 0 6 #[44, 51, 62, 69, 76, 82, 90], 44) := by decide +kernel
theorem dL_any_48 : decode cL_any 48 = .ok (.aload_n 0, 1) := by decide +kernel
theorem dL_any_49 : decode cL_any 49 = .ok (.iload_n 1, 1) := by decide +kernel
theorem dL_any_50 : decode cL_any 50 = .ok (.iload_n 2, 1) := by decide +kernel
theorem dL_any_51 : decode cL_any 51 = .ok (.invokevirtual 35, 3) := by decide +kernel
theorem dL_any_54 : decode cL_any 54 = .ok (.ireturn, 1) := by decide +kernel
theorem dL_any_55 : decode cL_any 55 = .ok (.aload_n 0, 1) := by decide +kernel
theorem dL_any_56 : decode cL_any 56 = .ok (.iload_n 1, 1) := by decide +kernel
theorem dL_any_57 : decode cL_any 57 = .ok (.iload_n 2, 1) := by decide +kernel
theorem dL_any_58 : decode cL_any 58 = .ok (.iload_n 1, 1) := by decide +kernel
theorem dL_any_59 : decode cL_any 59 = .ok (.iload_n 2, 1) := by decide +kernel
theorem dL_any_60 : decode cL_any 60 = .ok (.iload_n 1, 1) := by decide +kernel
theorem dL_any_61 : decode cL_any 61 = .ok (.iload_n 2, 1) := by decide +kernel
theorem dL_any_62 : decode cL_any 62 = .ok (.invokevirtual 38, 3) := by decide +kernel
theorem dL_any_65 : decode cL_any 65 = .ok (.ireturn, 1) := by decide +kernel
theorem dL_any_66 : decode cL_any 66 = .ok (.aload_n 0, 1) := by decide +kernel
theorem dL_any_67 : decode cL_any 67 = .ok (.iload_n 1, 1) := by decide +kernel
theorem dL_any_68 : decode cL_any 68 = .ok (.iload_n 2, 1) := by decide +kernel
theorem dL_any_69 : decode cL_any 69 = .ok (.invokevirtual 42, 3) := by decide +kernel
theorem dL_any_72 : decode cL_any 72 = .ok (.ireturn, 1) := by decide +kernel
theorem dL_any_73 : decode cL_any 73 = .ok (.aload_n 0, 1) := by decide +kernel
theorem dL_any_74 : decode cL_any 74 = .ok (.iload_n 1, 1) := by decide +kernel
theorem dL_any_75 : decode cL_any 75 = .ok (.iload_n 2, 1) := by decide +kernel
theorem dL_any_76 : decode cL_any 76 = .ok (.invokevirtual 45, 3) := by decide +kernel
theorem dL_any_79 : decode cL_any 79 = .ok (.ireturn, 1) := by decide +kernel
theorem dL_any_80 : decode cL_any 80 = .ok (.aload_n 0, 1) := by decide +kernel
theorem dL_any_81 : decode cL_any 81 = .ok (.iload_n 1, 1) := by decide +kernel
theorem dL_any_82 : decode cL_any 82 = .ok (.invokevirtual 48, 3) := by decide +kernel
theorem dL_any_85 : decode cL_any 85 = .ok (.ireturn, 1) := by decide +kernel
theorem dL_any_86 : decode cL_any 86 = .ok (.aload_n 0, 1) := by decide +kernel
theorem dL_any_87 : decode cL_any 87 = .ok (.iload_n 1, 1) := by decide +kernel
theorem dL_any_88 : decode cL_any 88 = .ok (.iload_n 2, 1) := by decide +kernel
theorem dL_any_89 : decode cL_any 89 = .ok (.iconst 1, 1) := by decide +kernel
theorem dL_any_90 : decode cL_any 90 = .ok (.invokevirtual 51, 3) := by decide +kernel
theorem dL_any_93 : decode cL_any 93 = .ok (.ireturn, 1) := by decide +kernel
theorem dL_any_94 : decode cL_any 94 = .ok (.aload_n 0, 1) := by decide +kernel
theorem dL_any_95 : decode cL_any 95 = .ok (.iload_n 1, 1) := by decide +kernel
theorem dL_any_96 : decode cL_any 96 = .ok (.invokevirtual 55, 3) := by decide +kernel
theorem dL_any_99 : decode cL_any 99 = .ok (.ireturn, 1) := by decide +kernel
theorem dL_any_100 : decode cL_any 100 = .ok (.aload_n 0, 1) := by decide +kernel
theorem dL_any_101 : decode cL_any 101 = .ok (.iload_n 1, 1) := by decide +kernel
theorem dL_any_102 : decode cL_any 102 = .ok (.invokevirtual 58, 3) := by decide +kernel
theorem dL_any_105 : decode cL_any 105 = .ok (.ireturn, 1) := by decide +kernel
theorem dL_setsUp_0 : decode cL_setsUp 0 = .ok (.iload_n 1, 1) := by decide +kernel
theorem dL_setsUp_1 : decode cL_setsUp 1 = .ok (.bipush 7, 2) := by decide +kernel
theorem dL_setsUp_3 : decode cL_setsUp 3 = .ok (.iand, 1) := by decide +kernel
theorem dL_setsUp_4 : decode cL_setsUp 4 = .ok (.tableswitch 136 0 3 #[32, 57, 86, 115], 32) := by decide +kernel
theorem dL_setsUp_36 : decode cL_setsUp 36 = .ok (.aload_n 0, 1) := by decide +kernel
theorem dL_setsUp_37 : decode cL_setsUp 37 = .ok (.iconst 1, 1) := by decide +kernel
theorem dL_setsUp_38 : decode cL_setsUp 38 = .ok (.iload_n 2, 1) := by decide +kernel
theorem dL_setsUp_39 : decode cL_setsUp 39 = .ok (.bipush 100, 2) := by decide +kernel
theorem dL_setsUp_41 : decode cL_setsUp 41 = .ok (.invokestatic 61, 3) := by decide +kernel
theorem dL_setsUp_44 : decode cL_setsUp 44 = .ok (.iadd, 1) := by decide +kernel
theorem dL_setsUp_45 : decode cL_setsUp 45 = .ok (.iconst 1, 1) := by decide +kernel
theorem dL_setsUp_46 : decode cL_setsUp 46 = .ok (.iload_n 2, 1) := by decide +kernel
theorem dL_setsUp_47 : decode cL_setsUp 47 = .ok (.bipush 8, 2) := by decide +kernel
theorem dL_setsUp_49 : decode cL_setsUp 49 = .ok (.ishr, 1) := by decide +kernel
theorem dL_setsUp_50 : decode cL_setsUp 50 = .ok (.sipush 200, 3) := by decide +kernel
theorem dL_setsUp_53 : decode cL_setsUp 53 = .ok (.invokestatic 61, 3) := by decide +kernel
theorem dL_setsUp_56 : decode cL_setsUp 56 = .ok (.iadd, 1) := by decide +kernel
theorem dL_setsUp_57 : decode cL_setsUp 57 = .ok (.invokevirtual 35, 3) := by decide +kernel
theorem dL_setsUp_60 : decode cL_setsUp 60 = .ok (.ireturn, 1) := by decide +kernel
theorem dL_setsUp_61 : decode cL_setsUp 61 = .ok (.aload_n 0, 1) := by decide +kernel
theorem dL_setsUp_62 : decode cL_setsUp 62 = .ok (.iload_n 2, 1) := by decide +kernel
theorem dL_setsUp_63 : decode cL_setsUp 63 = .ok (.iconst 4, 1) := by decide +kernel
theorem dL_setsUp_64 : decode cL_setsUp 64 = .ok (.invokestatic 61, 3) := by decide +kernel
theorem dL_setsUp_67 : decode cL_setsUp 67 = .ok (.iload_n 2, 1) := by decide +kernel
theorem dL_setsUp_68 : decode cL_setsUp 68 = .ok (.iconst 3, 1) := by decide +kernel
theorem dL_setsUp_69 : decode cL_setsUp 69 = .ok (.ishr, 1) := by decide +kernel
theorem dL_setsUp_70 : decode cL_setsUp 70 = .ok (.iconst 4, 1) := by decide +kernel
theorem dL_setsUp_71 : decode cL_setsUp 71 = .ok (.invokestatic 61, 3) := by decide +kernel
theorem dL_setsUp_74 : decode cL_setsUp 74 = .ok (.iload_n 2, 1) := by decide +kernel
theorem dL_setsUp_75 : decode cL_setsUp 75 = .ok (.bipush 64, 2) := by decide +kernel
theorem dL_setsUp_77 : decode cL_setsUp 77 = .ok (.iand, 1) := by decide +kernel
theorem dL_setsUp_78 : decode cL_setsUp 78 = .ok (.ifCond .ne 7, 3) := by decide +kernel
theorem dL_setsUp_81 : decode cL_setsUp 81 = .ok (.iconst 1, 1) := by decide +kernel
theorem dL_setsUp_82 : decode cL_setsUp 82 = .ok (.goto 4, 3) := by decide +kernel
theorem dL_setsUp_85 : decode cL_setsUp 85 = .ok (.iconst 0, 1) := by decide +kernel
theorem dL_setsUp_86 : decode cL_setsUp 86 = .ok (.invokevirtual 66, 3) := by decide +kernel
theorem dL_setsUp_89 : decode cL_setsUp 89 = .ok (.ireturn, 1) := by decide +kernel
theorem dL_setsUp_90 : decode cL_setsUp 90 = .ok (.aload_n 0, 1) := by decide +kernel
theorem dL_setsUp_91 : decode cL_setsUp 91 = .ok (.iload_n 2, 1) := by decide +kernel
theorem dL_setsUp_92 : decode cL_setsUp 92 = .ok (.iconst 5, 1) := by decide +kernel
theorem dL_setsUp_93 : decode cL_setsUp 93 = .ok (.invokestatic 61, 3) := by decide +kernel
theorem dL_setsUp_96 : decode cL_setsUp 96 = .ok (.iload_n 2, 1) := by decide +kernel
theorem dL_setsUp_97 : decode cL_setsUp 97 = .ok (.iconst 3, 1) := by decide +kernel
theorem dL_setsUp_98 : decode cL_setsUp 98 = .ok (.ishr, 1) := by decide +kernel
theorem dL_setsUp_99 : decode cL_setsUp 99 = .ok (.iconst 5, 1) := by decide +kernel
theorem dL_setsUp_100 : decode cL_setsUp 100 = .ok (.invokestatic 61, 3) := by decide +kernel
theorem dL_setsUp_103 : decode cL_setsUp 103 = .ok (.iload_n 2, 1) := by decide +kernel
theorem dL_setsUp_104 : decode cL_setsUp 104 = .ok (.bipush 64, 2) := by decide +kernel
theorem dL_setsUp_106 : decode cL_setsUp 106 = .ok (.iand, 1) := by decide +kernel
theorem dL_setsUp_107 : decode cL_setsUp 107 = .ok (.ifCond .ne 7, 3) := by decide +kernel
theorem dL_setsUp_110 : decode cL_setsUp 110 = .ok (.iconst 1, 1) := by decide +kernel
theorem dL_setsUp_111 : decode cL_setsUp 111 = .ok (.goto 4, 3) := by decide +kernel
theorem dL_setsUp_114 : decode cL_setsUp 114 = .ok (.iconst 0, 1) := by decide +kernel
theorem dL_setsUp_115 : decode cL_setsUp 115 = .ok (.invokevirtual 51, 3) := by decide +kernel
theorem dL_setsUp_118 : decode cL_setsUp 118 = .ok (.ireturn, 1) := by decide +kernel
theorem dL_setsUp_119 : decode cL_setsUp 119 = .ok (.aload_n 0, 1) := by decide +kernel
theorem dL_setsUp_120 : decode cL_setsUp 120 = .ok (.iconst 1, 1) := by decide +kernel
theorem dL_setsUp_121 : decode cL_setsUp 121 = .ok (.iload_n 2, 1) := by decide +kernel
theorem dL_setsUp_122 : decode cL_setsUp 122 = .ok (.bipush 6, 2) := by decide +kernel
theorem dL_setsUp_124 : decode cL_setsUp 124 = .ok (.invokestatic 61, 3) := by decide +kernel
theorem dL_setsUp_127 : decode cL_setsUp 127 = .ok (.iadd, 1) := by decide +kernel
theorem dL_setsUp_128 : decode cL_setsUp 128 = .ok (.iload_n 2, 1) := by decide +kernel
theorem dL_setsUp_129 : decode cL_setsUp 129 = .ok (.iconst 3, 1) := by decide +kernel
theorem dL_setsUp_130 : decode cL_setsUp 130 = .ok (.ishr, 1) := by decide +kernel
theorem dL_setsUp_131 : decode cL_setsUp 131 = .ok (.bipush 16, 2) := by decide +kernel
theorem dL_setsUp_133 : decode cL_setsUp 133 = .ok (.invokestatic 61, 3) := by decide +kernel
theorem dL_setsUp_136 : decode cL_setsUp 136 = .ok (.invokevirtual 69, 3) := by decide +kernel
theorem dL_setsUp_139 : decode cL_setsUp 139 = .ok (.ireturn, 1) := by decide +kernel
theorem dL_setsUp_140 : decode cL_setsUp 140 = .ok (.aload_n 0, 1) := by decide +kernel
theorem dL_setsUp_141 : decode cL_setsUp 141 = .ok (.iload_n 2, 1) := by decide +kernel
theorem dL_setsUp_142 : decode cL_setsUp 142 = .ok (.iconst 4, 1) := by decide +kernel
theorem dL_setsUp_143 : decode cL_setsUp 143 = .ok (.invokestatic 61, 3) := by decide +kernel
theorem dL_setsUp_146 : decode cL_setsUp 146 = .ok (.iload_n 2, 1) := by decide +kernel
theorem dL_setsUp_147 : decode cL_setsUp 147 = .ok (.iconst 2, 1) := by decide +kernel
theorem dL_setsUp_148 : decode cL_setsUp 148 = .ok (.ishr, 1) := by decide +kernel
theorem dL_setsUp_149 : decode cL_setsUp 149 = .ok (.iconst 4, 1) := by decide +kernel
theorem dL_setsUp_150 : decode cL_setsUp 150 = .ok (.invokestatic 61, 3) := by decide +kernel
theorem dL_setsUp_153 : decode cL_setsUp 153 = .ok (.iconst 1, 1) := by decide +kernel
theorem dL_setsUp_154 : decode cL_setsUp 154 = .ok (.iload_n 2, 1) := by decide +kernel
theorem dL_setsUp_155 : decode cL_setsUp 155 = .ok (.iconst 4, 1) := by decide +kernel
theorem dL_setsUp_156 : decode cL_setsUp 156 = .ok (.ishr, 1) := by decide +kernel
theorem dL_setsUp_157 : decode cL_setsUp 157 = .ok (.iconst 3, 1) := by decide +kernel
theorem dL_setsUp_158 : decode cL_setsUp 158 = .ok (.invokestatic 61, 3) := by decide +kernel
theorem dL_setsUp_161 : decode cL_setsUp 161 = .ok (.iadd, 1) := by decide +kernel
theorem dL_setsUp_162 : decode cL_setsUp 162 = .ok (.iload_n 2, 1) := by decide +kernel
theorem dL_setsUp_163 : decode cL_setsUp 163 = .ok (.bipush 6, 2) := by decide +kernel
theorem dL_setsUp_165 : decode cL_setsUp 165 = .ok (.ishr, 1) := by decide +kernel
theorem dL_setsUp_166 : decode cL_setsUp 166 = .ok (.iconst 5, 1) := by decide +kernel
theorem dL_setsUp_167 : decode cL_setsUp 167 = .ok (.invokestatic 61, 3) := by decide +kernel
theorem dL_setsUp_170 : decode cL_setsUp 170 = .ok (.iconst 1, 1) := by decide +kernel
theorem dL_setsUp_171 : decode cL_setsUp 171 = .ok (.iload_n 2, 1) := by decide +kernel
theorem dL_setsUp_172 : decode cL_setsUp 172 = .ok (.bipush 9, 2) := by decide +kernel
theorem dL_setsUp_174 : decode cL_setsUp 174 = .ok (.ishr, 1) := by decide +kernel
theorem dL_setsUp_175 : decode cL_setsUp 175 = .ok (.bipush 9, 2) := by decide +kernel
theorem dL_setsUp_177 : decode cL_setsUp 177 = .ok (.invokestatic 61, 3) := by decide +kernel
theorem dL_setsUp_180 : decode cL_setsUp 180 = .ok (.iadd, 1) := by decide +kernel
theorem dL_setsUp_181 : decode cL_setsUp 181 = .ok (.aload_n 0, 1) := by decide +kernel
theorem dL_setsUp_182 : decode cL_setsUp 182 = .ok (.iconst 0, 1) := by decide +kernel
theorem dL_setsUp_183 : decode cL_setsUp 183 = .ok (.invokevirtual 13, 3) := by decide +kernel
theorem dL_setsUp_186 : decode cL_setsUp 186 = .ok (.iload_n 2, 1) := by decide +kernel
theorem dL_setsUp_187 : decode cL_setsUp 187 = .ok (.bipush 13, 2) := by decide +kernel
theorem dL_setsUp_189 : decode cL_setsUp 189 = .ok (.ishr, 1) := by decide +kernel
theorem dL_setsUp_190 : decode cL_setsUp 190 = .ok (.bipush 12, 2) := by decide +kernel
theorem dL_setsUp_192 : decode cL_setsUp 192 = .ok (.invokestatic 61, 3) := by decide +kernel
theorem dL_setsUp_195 : decode cL_setsUp 195 = .ok (.iadd, 1) := by decide +kernel
theorem dL_setsUp_196 : decode cL_setsUp 196 = .ok (.invokevirtual 38, 3) := by decide +kernel
theorem dL_setsUp_199 : decode cL_setsUp 199 = .ok (.ireturn, 1) := by decide +kernel
theorem dL_turn_0 : decode cL_turn 0 = .ok (.iload_n 2, 1) := by decide +kernel
theorem dL_turn_1 : decode cL_turn 1 = .ok (.bipush 10, 2) := by decide +kernel
theorem dL_turn_3 : decode cL_turn 3 = .ok (.invokestatic 61, 3) := by decide +kernel
theorem dL_turn_6 : decode cL_turn 6 = .ok (.istore 4, 2) := by decide +kernel
theorem dL_turn_8 : decode cL_turn 8 = .ok (.iload_n 1, 1) := by decide +kernel
theorem dL_turn_9 : decode cL_turn 9 = .ok (.tableswitch 197 0 14 #[75, 75, 75, 75, 82, 92, 102, 102, 130, 130, 137, 137, 167, 174, 174], 75) := by decide +kernel
theorem dL_turn_84 : decode cL_turn 84 = .ok (.aload_n 0, 1) := by decide +kernel
theorem dL_turn_85 : decode cL_turn 85 = .ok (.iload_n 2, 1) := by decide +kernel
theorem dL_turn_86 : decode cL_turn 86 = .ok (.iload_n 3, 1) := by decide +kernel
theorem dL_turn_87 : decode cL_turn 87 = .ok (.invokestatic 72, 3) := by decide +kernel
theorem dL_turn_90 : decode cL_turn 90 = .ok (.ireturn, 1) := by decide +kernel
theorem dL_turn_91 : decode cL_turn 91 = .ok (.aload_n 0, 1) := by decide +kernel
theorem dL_turn_92 : decode cL_turn 92 = .ok (.iload_n 2, 1) := by decide +kernel
theorem dL_turn_93 : decode cL_turn 93 = .ok (.iconst 5, 1) := by decide +kernel
theorem dL_turn_94 : decode cL_turn 94 = .ok (.invokestatic 61, 3) := by decide +kernel
theorem dL_turn_97 : decode cL_turn 97 = .ok (.invokevirtual 55, 3) := by decide +kernel
theorem dL_turn_100 : decode cL_turn 100 = .ok (.ireturn, 1) := by decide +kernel
theorem dL_turn_101 : decode cL_turn 101 = .ok (.aload_n 0, 1) := by decide +kernel
theorem dL_turn_102 : decode cL_turn 102 = .ok (.iload_n 2, 1) := by decide +kernel
theorem dL_turn_103 : decode cL_turn 103 = .ok (.iconst 5, 1) := by decide +kernel
theorem dL_turn_104 : decode cL_turn 104 = .ok (.invokestatic 61, 3) := by decide +kernel
theorem dL_turn_107 : decode cL_turn 107 = .ok (.invokevirtual 76, 3) := by decide +kernel
theorem dL_turn_110 : decode cL_turn 110 = .ok (.ireturn, 1) := by decide +kernel
theorem dL_turn_111 : decode cL_turn 111 = .ok (.aload_n 0, 1) := by decide +kernel
theorem dL_turn_112 : decode cL_turn 112 = .ok (.iload 4, 2) := by decide +kernel
theorem dL_turn_114 : decode cL_turn 114 = .ok (.iload_n 2, 1) := by decide +kernel
theorem dL_turn_115 : decode cL_turn 115 = .ok (.bipush 64, 2) := by decide +kernel
theorem dL_turn_117 : decode cL_turn 117 = .ok (.iand, 1) := by decide +kernel
theorem dL_turn_118 : decode cL_turn 118 = .ok (.ifCond .ne 11, 3) := by decide +kernel
theorem dL_turn_121 : decode cL_turn 121 = .ok (.iload_n 3, 1) := by decide +kernel
theorem dL_turn_122 : decode cL_turn 122 = .ok (.iconst 4, 1) := by decide +kernel
theorem dL_turn_123 : decode cL_turn 123 = .ok (.invokestatic 61, 3) := by decide +kernel
theorem dL_turn_126 : decode cL_turn 126 = .ok (.goto 9, 3) := by decide +kernel
theorem dL_turn_129 : decode cL_turn 129 = .ok (.aload_n 0, 1) := by decide +kernel
theorem dL_turn_130 : decode cL_turn 130 = .ok (.iload 4, 2) := by decide +kernel
theorem dL_turn_132 : decode cL_turn 132 = .ok (.invokevirtual 79, 3) := by decide +kernel
theorem dL_turn_135 : decode cL_turn 135 = .ok (.invokevirtual 42, 3) := by decide +kernel
theorem dL_turn_138 : decode cL_turn 138 = .ok (.ireturn, 1) := by decide +kernel
theorem dL_turn_139 : decode cL_turn 139 = .ok (.aload_n 0, 1) := by decide +kernel
theorem dL_turn_140 : decode cL_turn 140 = .ok (.iload 4, 2) := by decide +kernel
theorem dL_turn_142 : decode cL_turn 142 = .ok (.invokevirtual 82, 3) := by decide +kernel
theorem dL_turn_145 : decode cL_turn 145 = .ok (.ireturn, 1) := by decide +kernel
theorem dL_turn_146 : decode cL_turn 146 = .ok (.aload_n 0, 1) := by decide +kernel
theorem dL_turn_147 : decode cL_turn 147 = .ok (.iload 4, 2) := by decide +kernel
theorem dL_turn_149 : decode cL_turn 149 = .ok (.iload_n 2, 1) := by decide +kernel
theorem dL_turn_150 : decode cL_turn 150 = .ok (.bipush 64, 2) := by decide +kernel
theorem dL_turn_152 : decode cL_turn 152 = .ok (.iand, 1) := by decide +kernel
theorem dL_turn_153 : decode cL_turn 153 = .ok (.ifCond .ne 11, 3) := by decide +kernel
theorem dL_turn_156 : decode cL_turn 156 = .ok (.iload_n 3, 1) := by decide +kernel
theorem dL_turn_157 : decode cL_turn 157 = .ok (.iconst 4, 1) := by decide +kernel
theorem dL_turn_158 : decode cL_turn 158 = .ok (.invokestatic 61, 3) := by decide +kernel
theorem dL_turn_161 : decode cL_turn 161 = .ok (.goto 11, 3) := by decide +kernel
theorem dL_turn_164 : decode cL_turn 164 = .ok (.aload_n 0, 1) := by decide +kernel
theorem dL_turn_165 : decode cL_turn 165 = .ok (.iload 4, 2) := by decide +kernel
theorem dL_turn_167 : decode cL_turn 167 = .ok (.bipush 8, 2) := by decide +kernel
theorem dL_turn_169 : decode cL_turn 169 = .ok (.invokevirtual 32, 3) := by decide +kernel
theorem dL_turn_172 : decode cL_turn 172 = .ok (.invokevirtual 45, 3) := by decide +kernel
theorem dL_turn_175 : decode cL_turn 175 = .ok (.ireturn, 1) := by decide +kernel
theorem dL_turn_176 : decode cL_turn 176 = .ok (.aload_n 0, 1) := by decide +kernel
theorem dL_turn_177 : decode cL_turn 177 = .ok (.iload 4, 2) := by decide +kernel
theorem dL_turn_179 : decode cL_turn 179 = .ok (.invokevirtual 58, 3) := by decide +kernel
theorem dL_turn_182 : decode cL_turn 182 = .ok (.ireturn, 1) := by decide +kernel
theorem dL_turn_183 : decode cL_turn 183 = .ok (.aload_n 0, 1) := by decide +kernel
theorem dL_turn_184 : decode cL_turn 184 = .ok (.iconst 1, 1) := by decide +kernel
theorem dL_turn_185 : decode cL_turn 185 = .ok (.iload_n 3, 1) := by decide +kernel
theorem dL_turn_186 : decode cL_turn 186 = .ok (.iload_n 2, 1) := by decide +kernel
theorem dL_turn_187 : decode cL_turn 187 = .ok (.iconst 3, 1) := by decide +kernel
theorem dL_turn_188 : decode cL_turn 188 = .ok (.iand, 1) := by decide +kernel
theorem dL_turn_189 : decode cL_turn 189 = .ok (.ifCond .ne 8, 3) := by decide +kernel
theorem dL_turn_192 : decode cL_turn 192 = .ok (.bipush 40, 2) := by decide +kernel
theorem dL_turn_194 : decode cL_turn 194 = .ok (.goto 4, 3) := by decide +kernel
theorem dL_turn_197 : decode cL_turn 197 = .ok (.iconst 5, 1) := by decide +kernel
theorem dL_turn_198 : decode cL_turn 198 = .ok (.invokestatic 61, 3) := by decide +kernel
theorem dL_turn_201 : decode cL_turn 201 = .ok (.iadd, 1) := by decide +kernel
theorem dL_turn_202 : decode cL_turn 202 = .ok (.invokevirtual 48, 3) := by decide +kernel
theorem dL_turn_205 : decode cL_turn 205 = .ok (.ireturn, 1) := by decide +kernel
theorem dL_turn_206 : decode cL_turn 206 = .ok (.aload_n 0, 1) := by decide +kernel
theorem dL_turn_207 : decode cL_turn 207 = .ok (.iload_n 2, 1) := by decide +kernel
theorem dL_turn_208 : decode cL_turn 208 = .ok (.iload_n 3, 1) := by decide +kernel
theorem dL_turn_209 : decode cL_turn 209 = .ok (.invokestatic 85, 3) := by decide +kernel
theorem dL_turn_212 : decode cL_turn 212 = .ok (.ireturn, 1) := by decide +kernel
theorem dL_isTask_0 : decode cL_isTask 0 = .ok (.aload_n 0, 1) := by decide +kernel
theorem dL_isTask_1 : decode cL_isTask 1 = .ok (.iload_n 1, 1) := by decide +kernel
theorem dL_isTask_2 : decode cL_isTask 2 = .ok (.iconst 1, 1) := by decide +kernel
theorem dL_isTask_3 : decode cL_isTask 3 = .ok (.invokevirtual 32, 3) := by decide +kernel
theorem dL_isTask_6 : decode cL_isTask 6 = .ok (.istore_n 2, 1) := by decide +kernel
theorem dL_isTask_7 : decode cL_isTask 7 = .ok (.aload_n 0, 1) := by decide +kernel
theorem dL_isTask_8 : decode cL_isTask 8 = .ok (.iload_n 1, 1) := by decide +kernel
theorem dL_isTask_9 : decode cL_isTask 9 = .ok (.bipush 8, 2) := by decide +kernel
theorem dL_isTask_11 : decode cL_isTask 11 = .ok (.invokevirtual 32, 3) := by decide +kernel
theorem dL_isTask_14 : decode cL_isTask 14 = .ok (.istore_n 3, 1) := by decide +kernel
theorem dL_isTask_15 : decode cL_isTask 15 = .ok (.aload_n 0, 1) := by decide +kernel
theorem dL_isTask_16 : decode cL_isTask 16 = .ok (.iload_n 1, 1) := by decide +kernel
theorem dL_isTask_17 : decode cL_isTask 17 = .ok (.bipush 6, 2) := by decide +kernel
theorem dL_isTask_19 : decode cL_isTask 19 = .ok (.invokevirtual 32, 3) := by decide +kernel
theorem dL_isTask_22 : decode cL_isTask 22 = .ok (.iconst 2, 1) := by decide +kernel
theorem dL_isTask_23 : decode cL_isTask 23 = .ok (.aload_n 0, 1) := by decide +kernel
theorem dL_isTask_24 : decode cL_isTask 24 = .ok (.iload_n 1, 1) := by decide +kernel
theorem dL_isTask_25 : decode cL_isTask 25 = .ok (.iconst 5, 1) := by decide +kernel
theorem dL_isTask_26 : decode cL_isTask 26 = .ok (.invokevirtual 32, 3) := by decide +kernel
theorem dL_isTask_29 : decode cL_isTask 29 = .ok (.imul, 1) := by decide +kernel
theorem dL_isTask_30 : decode cL_isTask 30 = .ok (.iadd, 1) := by decide +kernel
theorem dL_isTask_31 : decode cL_isTask 31 = .ok (.bipush 6, 2) := by decide +kernel
theorem dL_isTask_33 : decode cL_isTask 33 = .ok (.iadd, 1) := by decide +kernel
theorem dL_isTask_34 : decode cL_isTask 34 = .ok (.istore 4, 2) := by decide +kernel
theorem dL_isTask_36 : decode cL_isTask 36 = .ok (.iload_n 2, 1) := by decide +kernel
theorem dL_isTask_37 : decode cL_isTask 37 = .ok (.ifCond .lt 54, 3) := by decide +kernel
theorem dL_isTask_40 : decode cL_isTask 40 = .ok (.iload_n 2, 1) := by decide +kernel
theorem dL_isTask_41 : decode cL_isTask 41 = .ok (.bipush 7, 2) := by decide +kernel
theorem dL_isTask_43 : decode cL_isTask 43 = .ok (.if_icmp .ge 48, 3) := by decide +kernel
theorem dL_isTask_46 : decode cL_isTask 46 = .ok (.aload_n 0, 1) := by decide +kernel
theorem dL_isTask_47 : decode cL_isTask 47 = .ok (.iload_n 1, 1) := by decide +kernel
theorem dL_isTask_48 : decode cL_isTask 48 = .ok (.bipush 7, 2) := by decide +kernel
theorem dL_isTask_50 : decode cL_isTask 50 = .ok (.invokevirtual 32, 3) := by decide +kernel
theorem dL_isTask_53 : decode cL_isTask 53 = .ok (.iload 4, 2) := by decide +kernel
theorem dL_isTask_55 : decode cL_isTask 55 = .ok (.if_icmp .ne 36, 3) := by decide +kernel
theorem dL_isTask_58 : decode cL_isTask 58 = .ok (.aload_n 0, 1) := by decide +kernel
theorem dL_isTask_59 : decode cL_isTask 59 = .ok (.iload_n 1, 1) := by decide +kernel
theorem dL_isTask_60 : decode cL_isTask 60 = .ok (.bipush 9, 2) := by decide +kernel
theorem dL_isTask_62 : decode cL_isTask 62 = .ok (.invokevirtual 32, 3) := by decide +kernel
theorem dL_isTask_65 : decode cL_isTask 65 = .ok (.iconst 1, 1) := by decide +kernel
theorem dL_isTask_66 : decode cL_isTask 66 = .ok (.if_icmp .lt 7, 3) := by decide +kernel
theorem dL_isTask_69 : decode cL_isTask 69 = .ok (.iconst 1, 1) := by decide +kernel
theorem dL_isTask_70 : decode cL_isTask 70 = .ok (.goto 4, 3) := by decide +kernel
theorem dL_isTask_73 : decode cL_isTask 73 = .ok (.iconst 0, 1) := by decide +kernel
theorem dL_isTask_74 : decode cL_isTask 74 = .ok (.iload_n 2, 1) := by decide +kernel
theorem dL_isTask_75 : decode cL_isTask 75 = .ok (.iconst 2, 1) := by decide +kernel
theorem dL_isTask_76 : decode cL_isTask 76 = .ok (.if_icmp .ne 7, 3) := by decide +kernel
theorem dL_isTask_79 : decode cL_isTask 79 = .ok (.iconst 1, 1) := by decide +kernel
theorem dL_isTask_80 : decode cL_isTask 80 = .ok (.goto 4, 3) := by decide +kernel
theorem dL_isTask_83 : decode cL_isTask 83 = .ok (.iconst 0, 1) := by decide +kernel
theorem dL_isTask_84 : decode cL_isTask 84 = .ok (.if_icmp .ne 7, 3) := by decide +kernel
theorem dL_isTask_87 : decode cL_isTask 87 = .ok (.iconst 1, 1) := by decide +kernel
theorem dL_isTask_88 : decode cL_isTask 88 = .ok (.goto 4, 3) := by decide +kernel
theorem dL_isTask_91 : decode cL_isTask 91 = .ok (.iconst 0, 1) := by decide +kernel
theorem dL_isTask_92 : decode cL_isTask 92 = .ok (.istore 5, 2) := by decide +kernel
theorem dL_isTask_94 : decode cL_isTask 94 = .ok (.iload 5, 2) := by decide +kernel
theorem dL_isTask_96 : decode cL_isTask 96 = .ok (.ifCond .eq 49, 3) := by decide +kernel
theorem dL_isTask_99 : decode cL_isTask 99 = .ok (.iload_n 3, 1) := by decide +kernel
theorem dL_isTask_100 : decode cL_isTask 100 = .ok (.ifCond .lt 7, 3) := by decide +kernel
theorem dL_isTask_103 : decode cL_isTask 103 = .ok (.iconst 1, 1) := by decide +kernel
theorem dL_isTask_104 : decode cL_isTask 104 = .ok (.goto 4, 3) := by decide +kernel
theorem dL_isTask_107 : decode cL_isTask 107 = .ok (.iconst 0, 1) := by decide +kernel
theorem dL_isTask_108 : decode cL_isTask 108 = .ok (.iload_n 2, 1) := by decide +kernel
theorem dL_isTask_109 : decode cL_isTask 109 = .ok (.ifCond .le 12, 3) := by decide +kernel
theorem dL_isTask_112 : decode cL_isTask 112 = .ok (.iload_n 2, 1) := by decide +kernel
theorem dL_isTask_113 : decode cL_isTask 113 = .ok (.iconst 5, 1) := by decide +kernel
theorem dL_isTask_114 : decode cL_isTask 114 = .ok (.if_icmp .ge 7, 3) := by decide +kernel
theorem dL_isTask_117 : decode cL_isTask 117 = .ok (.iconst 1, 1) := by decide +kernel
theorem dL_isTask_118 : decode cL_isTask 118 = .ok (.goto 4, 3) := by decide +kernel
theorem dL_isTask_121 : decode cL_isTask 121 = .ok (.iconst 0, 1) := by decide +kernel
theorem dL_isTask_122 : decode cL_isTask 122 = .ok (.if_icmp .ne 23, 3) := by decide +kernel
theorem dL_isTask_125 : decode cL_isTask 125 = .ok (.iload_n 2, 1) := by decide +kernel
theorem dL_isTask_126 : decode cL_isTask 126 = .ok (.iconst 5, 1) := by decide +kernel
theorem dL_isTask_127 : decode cL_isTask 127 = .ok (.if_icmp .ne 14, 3) := by decide +kernel
theorem dL_isTask_130 : decode cL_isTask 130 = .ok (.aload_n 0, 1) := by decide +kernel
theorem dL_isTask_131 : decode cL_isTask 131 = .ok (.iload_n 1, 1) := by decide +kernel
theorem dL_isTask_132 : decode cL_isTask 132 = .ok (.bipush 10, 2) := by decide +kernel
theorem dL_isTask_134 : decode cL_isTask 134 = .ok (.invokevirtual 32, 3) := by decide +kernel
theorem dL_isTask_137 : decode cL_isTask 137 = .ok (.iconst 3, 1) := by decide +kernel
theorem dL_isTask_138 : decode cL_isTask 138 = .ok (.if_icmp .lt 7, 3) := by decide +kernel
theorem dL_isTask_141 : decode cL_isTask 141 = .ok (.iconst 1, 1) := by decide +kernel
theorem dL_isTask_142 : decode cL_isTask 142 = .ok (.goto 4, 3) := by decide +kernel
theorem dL_isTask_145 : decode cL_isTask 145 = .ok (.iconst 0, 1) := by decide +kernel
theorem dL_isTask_146 : decode cL_isTask 146 = .ok (.istore 5, 2) := by decide +kernel
theorem dL_isTask_148 : decode cL_isTask 148 = .ok (.iload 5, 2) := by decide +kernel
theorem dL_isTask_150 : decode cL_isTask 150 = .ok (.ifCond .eq 30, 3) := by decide +kernel
theorem dL_isTask_153 : decode cL_isTask 153 = .ok (.iload_n 3, 1) := by decide +kernel
theorem dL_isTask_154 : decode cL_isTask 154 = .ok (.ifCond .lt 22, 3) := by decide +kernel
theorem dL_isTask_157 : decode cL_isTask 157 = .ok (.aload_n 0, 1) := by decide +kernel
theorem dL_isTask_158 : decode cL_isTask 158 = .ok (.iload_n 3, 1) := by decide +kernel
theorem dL_isTask_159 : decode cL_isTask 159 = .ok (.iconst 1, 1) := by decide +kernel
theorem dL_isTask_160 : decode cL_isTask 160 = .ok (.invokevirtual 29, 3) := by decide +kernel
theorem dL_isTask_163 : decode cL_isTask 163 = .ok (.aload_n 0, 1) := by decide +kernel
theorem dL_isTask_164 : decode cL_isTask 164 = .ok (.iload_n 1, 1) := by decide +kernel
theorem dL_isTask_165 : decode cL_isTask 165 = .ok (.iconst 2, 1) := by decide +kernel
theorem dL_isTask_166 : decode cL_isTask 166 = .ok (.invokevirtual 32, 3) := by decide +kernel
theorem dL_isTask_169 : decode cL_isTask 169 = .ok (.ishr, 1) := by decide +kernel
theorem dL_isTask_170 : decode cL_isTask 170 = .ok (.iconst 1, 1) := by decide +kernel
theorem dL_isTask_171 : decode cL_isTask 171 = .ok (.iand, 1) := by decide +kernel
theorem dL_isTask_172 : decode cL_isTask 172 = .ok (.iconst 1, 1) := by decide +kernel
theorem dL_isTask_173 : decode cL_isTask 173 = .ok (.if_icmp .ne 7, 3) := by decide +kernel
theorem dL_isTask_176 : decode cL_isTask 176 = .ok (.iconst 1, 1) := by decide +kernel
theorem dL_isTask_177 : decode cL_isTask 177 = .ok (.goto 4, 3) := by decide +kernel
theorem dL_isTask_180 : decode cL_isTask 180 = .ok (.iconst 0, 1) := by decide +kernel
theorem dL_isTask_181 : decode cL_isTask 181 = .ok (.istore 5, 2) := by decide +kernel
theorem dL_isTask_183 : decode cL_isTask 183 = .ok (.iload 5, 2) := by decide +kernel
theorem dL_isTask_185 : decode cL_isTask 185 = .ok (.ifCond .eq 60, 3) := by decide +kernel
theorem dL_isTask_188 : decode cL_isTask 188 = .ok (.iload_n 2, 1) := by decide +kernel
theorem dL_isTask_189 : decode cL_isTask 189 = .ok (.iconst 2, 1) := by decide +kernel
theorem dL_isTask_190 : decode cL_isTask 190 = .ok (.if_icmp .ne 51, 3) := by decide +kernel
theorem dL_isTask_193 : decode cL_isTask 193 = .ok (.aload_n 0, 1) := by decide +kernel
theorem dL_isTask_194 : decode cL_isTask 194 = .ok (.iconst 0, 1) := by decide +kernel
theorem dL_isTask_195 : decode cL_isTask 195 = .ok (.invokevirtual 13, 3) := by decide +kernel
theorem dL_isTask_198 : decode cL_isTask 198 = .ok (.aload_n 0, 1) := by decide +kernel
theorem dL_isTask_199 : decode cL_isTask 199 = .ok (.iload_n 1, 1) := by decide +kernel
theorem dL_isTask_200 : decode cL_isTask 200 = .ok (.bipush 9, 2) := by decide +kernel
theorem dL_isTask_202 : decode cL_isTask 202 = .ok (.invokevirtual 32, 3) := by decide +kernel
theorem dL_isTask_205 : decode cL_isTask 205 = .ok (.iadd, 1) := by decide +kernel
theorem dL_isTask_206 : decode cL_isTask 206 = .ok (.iload 4, 2) := by decide +kernel
theorem dL_isTask_208 : decode cL_isTask 208 = .ok (.if_icmp .gt 37, 3) := by decide +kernel
theorem dL_isTask_211 : decode cL_isTask 211 = .ok (.aload_n 0, 1) := by decide +kernel
theorem dL_isTask_212 : decode cL_isTask 212 = .ok (.iconst 0, 1) := by decide +kernel
theorem dL_isTask_213 : decode cL_isTask 213 = .ok (.invokevirtual 13, 3) := by decide +kernel
theorem dL_isTask_216 : decode cL_isTask 216 = .ok (.aload_n 0, 1) := by decide +kernel
theorem dL_isTask_217 : decode cL_isTask 217 = .ok (.iload_n 1, 1) := by decide +kernel
theorem dL_isTask_218 : decode cL_isTask 218 = .ok (.bipush 9, 2) := by decide +kernel
theorem dL_isTask_220 : decode cL_isTask 220 = .ok (.invokevirtual 32, 3) := by decide +kernel
theorem dL_isTask_223 : decode cL_isTask 223 = .ok (.iadd, 1) := by decide +kernel
theorem dL_isTask_224 : decode cL_isTask 224 = .ok (.aload_n 0, 1) := by decide +kernel
theorem dL_isTask_225 : decode cL_isTask 225 = .ok (.iload_n 1, 1) := by decide +kernel
theorem dL_isTask_226 : decode cL_isTask 226 = .ok (.bipush 6, 2) := by decide +kernel
theorem dL_isTask_228 : decode cL_isTask 228 = .ok (.invokevirtual 32, 3) := by decide +kernel
theorem dL_isTask_231 : decode cL_isTask 231 = .ok (.aload_n 0, 1) := by decide +kernel
theorem dL_isTask_232 : decode cL_isTask 232 = .ok (.iload_n 1, 1) := by decide +kernel
theorem dL_isTask_233 : decode cL_isTask 233 = .ok (.iconst 5, 1) := by decide +kernel
theorem dL_isTask_234 : decode cL_isTask 234 = .ok (.invokevirtual 32, 3) := by decide +kernel
theorem dL_isTask_237 : decode cL_isTask 237 = .ok (.iadd, 1) := by decide +kernel
theorem dL_isTask_238 : decode cL_isTask 238 = .ok (.if_icmp .lt 7, 3) := by decide +kernel
theorem dL_isTask_241 : decode cL_isTask 241 = .ok (.iconst 1, 1) := by decide +kernel
theorem dL_isTask_242 : decode cL_isTask 242 = .ok (.goto 4, 3) := by decide +kernel
theorem dL_isTask_245 : decode cL_isTask 245 = .ok (.iconst 0, 1) := by decide +kernel
theorem dL_isTask_246 : decode cL_isTask 246 = .ok (.ireturn, 1) := by decide +kernel
theorem dL_isAsset_0 : decode cL_isAsset 0 = .ok (.iconst 0, 1) := by decide +kernel
theorem dL_isAsset_1 : decode cL_isAsset 1 = .ok (.istore_n 2, 1) := by decide +kernel
theorem dL_isAsset_2 : decode cL_isAsset 2 = .ok (.aload_n 0, 1) := by decide +kernel
theorem dL_isAsset_3 : decode cL_isAsset 3 = .ok (.iload_n 1, 1) := by decide +kernel
theorem dL_isAsset_4 : decode cL_isAsset 4 = .ok (.iconst 0, 1) := by decide +kernel
theorem dL_isAsset_5 : decode cL_isAsset 5 = .ok (.invokevirtual 19, 3) := by decide +kernel
theorem dL_isAsset_8 : decode cL_isAsset 8 = .ok (.ifCond .eq 12, 3) := by decide +kernel
theorem dL_isAsset_11 : decode cL_isAsset 11 = .ok (.aload_n 0, 1) := by decide +kernel
theorem dL_isAsset_12 : decode cL_isAsset 12 = .ok (.iload_n 1, 1) := by decide +kernel
theorem dL_isAsset_13 : decode cL_isAsset 13 = .ok (.iconst 1, 1) := by decide +kernel
theorem dL_isAsset_14 : decode cL_isAsset 14 = .ok (.invokevirtual 19, 3) := by decide +kernel
theorem dL_isAsset_17 : decode cL_isAsset 17 = .ok (.ifCond .ne 7, 3) := by decide +kernel
theorem dL_isAsset_20 : decode cL_isAsset 20 = .ok (.iconst 1, 1) := by decide +kernel
theorem dL_isAsset_21 : decode cL_isAsset 21 = .ok (.goto 4, 3) := by decide +kernel
theorem dL_isAsset_24 : decode cL_isAsset 24 = .ok (.iconst 0, 1) := by decide +kernel
theorem dL_isAsset_25 : decode cL_isAsset 25 = .ok (.istore_n 3, 1) := by decide +kernel
theorem dL_isAsset_26 : decode cL_isAsset 26 = .ok (.iconst 0, 1) := by decide +kernel
theorem dL_isAsset_27 : decode cL_isAsset 27 = .ok (.istore 4, 2) := by decide +kernel
theorem dL_isAsset_29 : decode cL_isAsset 29 = .ok (.iload 4, 2) := by decide +kernel
theorem dL_isAsset_31 : decode cL_isAsset 31 = .ok (.aload_n 0, 1) := by decide +kernel
theorem dL_isAsset_32 : decode cL_isAsset 32 = .ok (.iconst 4, 1) := by decide +kernel
theorem dL_isAsset_33 : decode cL_isAsset 33 = .ok (.invokevirtual 13, 3) := by decide +kernel
theorem dL_isAsset_36 : decode cL_isAsset 36 = .ok (.if_icmp .ge 49, 3) := by decide +kernel
theorem dL_isAsset_39 : decode cL_isAsset 39 = .ok (.iload_n 2, 1) := by decide +kernel
theorem dL_isAsset_40 : decode cL_isAsset 40 = .ok (.aload_n 0, 1) := by decide +kernel
theorem dL_isAsset_41 : decode cL_isAsset 41 = .ok (.iload 4, 2) := by decide +kernel
theorem dL_isAsset_43 : decode cL_isAsset 43 = .ok (.iconst 0, 1) := by decide +kernel
theorem dL_isAsset_44 : decode cL_isAsset 44 = .ok (.invokevirtual 32, 3) := by decide +kernel
theorem dL_isAsset_47 : decode cL_isAsset 47 = .ok (.iload_n 1, 1) := by decide +kernel
theorem dL_isAsset_48 : decode cL_isAsset 48 = .ok (.if_icmp .ne 28, 3) := by decide +kernel
theorem dL_isAsset_51 : decode cL_isAsset 51 = .ok (.aload_n 0, 1) := by decide +kernel
theorem dL_isAsset_52 : decode cL_isAsset 52 = .ok (.iload 4, 2) := by decide +kernel
theorem dL_isAsset_54 : decode cL_isAsset 54 = .ok (.iconst 1, 1) := by decide +kernel
theorem dL_isAsset_55 : decode cL_isAsset 55 = .ok (.invokevirtual 32, 3) := by decide +kernel
theorem dL_isAsset_58 : decode cL_isAsset 58 = .ok (.ifCond .le 18, 3) := by decide +kernel
theorem dL_isAsset_61 : decode cL_isAsset 61 = .ok (.aload_n 0, 1) := by decide +kernel
theorem dL_isAsset_62 : decode cL_isAsset 62 = .ok (.iload 4, 2) := by decide +kernel
theorem dL_isAsset_64 : decode cL_isAsset 64 = .ok (.iconst 1, 1) := by decide +kernel
theorem dL_isAsset_65 : decode cL_isAsset 65 = .ok (.invokevirtual 32, 3) := by decide +kernel
theorem dL_isAsset_68 : decode cL_isAsset 68 = .ok (.iconst 4, 1) := by decide +kernel
theorem dL_isAsset_69 : decode cL_isAsset 69 = .ok (.if_icmp .ge 7, 3) := by decide +kernel
theorem dL_isAsset_72 : decode cL_isAsset 72 = .ok (.iconst 1, 1) := by decide +kernel
theorem dL_isAsset_73 : decode cL_isAsset 73 = .ok (.goto 4, 3) := by decide +kernel
theorem dL_isAsset_76 : decode cL_isAsset 76 = .ok (.iconst 0, 1) := by decide +kernel
theorem dL_isAsset_77 : decode cL_isAsset 77 = .ok (.iadd, 1) := by decide +kernel
theorem dL_isAsset_78 : decode cL_isAsset 78 = .ok (.istore_n 2, 1) := by decide +kernel
theorem dL_isAsset_79 : decode cL_isAsset 79 = .ok (.iinc 4 1, 3) := by decide +kernel
theorem dL_isAsset_82 : decode cL_isAsset 82 = .ok (.goto (-53), 3) := by decide +kernel
theorem dL_isAsset_85 : decode cL_isAsset 85 = .ok (.iload_n 3, 1) := by decide +kernel
theorem dL_isAsset_86 : decode cL_isAsset 86 = .ok (.ifCond .eq 43, 3) := by decide +kernel
theorem dL_isAsset_89 : decode cL_isAsset 89 = .ok (.iload_n 2, 1) := by decide +kernel
theorem dL_isAsset_90 : decode cL_isAsset 90 = .ok (.aload_n 0, 1) := by decide +kernel
theorem dL_isAsset_91 : decode cL_isAsset 91 = .ok (.iload_n 1, 1) := by decide +kernel
theorem dL_isAsset_92 : decode cL_isAsset 92 = .ok (.iconst 1, 1) := by decide +kernel
theorem dL_isAsset_93 : decode cL_isAsset 93 = .ok (.invokevirtual 19, 3) := by decide +kernel
theorem dL_isAsset_96 : decode cL_isAsset 96 = .ok (.if_icmp .ne 33, 3) := by decide +kernel
theorem dL_isAsset_99 : decode cL_isAsset 99 = .ok (.aload_n 0, 1) := by decide +kernel
theorem dL_isAsset_100 : decode cL_isAsset 100 = .ok (.iload_n 1, 1) := by decide +kernel
theorem dL_isAsset_101 : decode cL_isAsset 101 = .ok (.iconst 2, 1) := by decide +kernel
theorem dL_isAsset_102 : decode cL_isAsset 102 = .ok (.invokevirtual 19, 3) := by decide +kernel
theorem dL_isAsset_105 : decode cL_isAsset 105 = .ok (.aload_n 0, 1) := by decide +kernel
theorem dL_isAsset_106 : decode cL_isAsset 106 = .ok (.iload_n 1, 1) := by decide +kernel
theorem dL_isAsset_107 : decode cL_isAsset 107 = .ok (.iconst 0, 1) := by decide +kernel
theorem dL_isAsset_108 : decode cL_isAsset 108 = .ok (.invokevirtual 23, 3) := by decide +kernel
theorem dL_isAsset_111 : decode cL_isAsset 111 = .ok (.if_icmp .ne 18, 3) := by decide +kernel
theorem dL_isAsset_114 : decode cL_isAsset 114 = .ok (.aload_n 0, 1) := by decide +kernel
theorem dL_isAsset_115 : decode cL_isAsset 115 = .ok (.iload_n 1, 1) := by decide +kernel
theorem dL_isAsset_116 : decode cL_isAsset 116 = .ok (.iload_n 2, 1) := by decide +kernel
theorem dL_isAsset_117 : decode cL_isAsset 117 = .ok (.invokevirtual 23, 3) := by decide +kernel
theorem dL_isAsset_120 : decode cL_isAsset 120 = .ok (.bipush (-5), 2) := by decide +kernel
theorem dL_isAsset_122 : decode cL_isAsset 122 = .ok (.if_icmp .ne 7, 3) := by decide +kernel
theorem dL_isAsset_125 : decode cL_isAsset 125 = .ok (.iconst 1, 1) := by decide +kernel
theorem dL_isAsset_126 : decode cL_isAsset 126 = .ok (.goto 4, 3) := by decide +kernel
theorem dL_isAsset_129 : decode cL_isAsset 129 = .ok (.iconst 0, 1) := by decide +kernel
theorem dL_isAsset_130 : decode cL_isAsset 130 = .ok (.istore_n 3, 1) := by decide +kernel
theorem dL_isAsset_131 : decode cL_isAsset 131 = .ok (.iconst 0, 1) := by decide +kernel
theorem dL_isAsset_132 : decode cL_isAsset 132 = .ok (.istore 4, 2) := by decide +kernel
theorem dL_isAsset_134 : decode cL_isAsset 134 = .ok (.iload 4, 2) := by decide +kernel
theorem dL_isAsset_136 : decode cL_isAsset 136 = .ok (.iload_n 2, 1) := by decide +kernel
theorem dL_isAsset_137 : decode cL_isAsset 137 = .ok (.if_icmp .ge 98, 3) := by decide +kernel
theorem dL_isAsset_140 : decode cL_isAsset 140 = .ok (.iload_n 3, 1) := by decide +kernel
theorem dL_isAsset_141 : decode cL_isAsset 141 = .ok (.ifCond .eq 94, 3) := by decide +kernel
theorem dL_isAsset_144 : decode cL_isAsset 144 = .ok (.aload_n 0, 1) := by decide +kernel
theorem dL_isAsset_145 : decode cL_isAsset 145 = .ok (.iload_n 1, 1) := by decide +kernel
theorem dL_isAsset_146 : decode cL_isAsset 146 = .ok (.iload 4, 2) := by decide +kernel
theorem dL_isAsset_148 : decode cL_isAsset 148 = .ok (.invokevirtual 23, 3) := by decide +kernel
theorem dL_isAsset_151 : decode cL_isAsset 151 = .ok (.istore 5, 2) := by decide +kernel
theorem dL_isAsset_153 : decode cL_isAsset 153 = .ok (.aload_n 0, 1) := by decide +kernel
theorem dL_isAsset_154 : decode cL_isAsset 154 = .ok (.iload 5, 2) := by decide +kernel
theorem dL_isAsset_156 : decode cL_isAsset 156 = .ok (.iconst 0, 1) := by decide +kernel
theorem dL_isAsset_157 : decode cL_isAsset 157 = .ok (.invokevirtual 32, 3) := by decide +kernel
theorem dL_isAsset_160 : decode cL_isAsset 160 = .ok (.iload_n 1, 1) := by decide +kernel
theorem dL_isAsset_161 : decode cL_isAsset 161 = .ok (.if_icmp .ne 28, 3) := by decide +kernel
theorem dL_isAsset_164 : decode cL_isAsset 164 = .ok (.aload_n 0, 1) := by decide +kernel
theorem dL_isAsset_165 : decode cL_isAsset 165 = .ok (.iload 5, 2) := by decide +kernel
theorem dL_isAsset_167 : decode cL_isAsset 167 = .ok (.iconst 1, 1) := by decide +kernel
theorem dL_isAsset_168 : decode cL_isAsset 168 = .ok (.invokevirtual 32, 3) := by decide +kernel
theorem dL_isAsset_171 : decode cL_isAsset 171 = .ok (.ifCond .le 18, 3) := by decide +kernel
theorem dL_isAsset_174 : decode cL_isAsset 174 = .ok (.aload_n 0, 1) := by decide +kernel
theorem dL_isAsset_175 : decode cL_isAsset 175 = .ok (.iload 5, 2) := by decide +kernel
theorem dL_isAsset_177 : decode cL_isAsset 177 = .ok (.iconst 1, 1) := by decide +kernel
theorem dL_isAsset_178 : decode cL_isAsset 178 = .ok (.invokevirtual 32, 3) := by decide +kernel
theorem dL_isAsset_181 : decode cL_isAsset 181 = .ok (.iconst 4, 1) := by decide +kernel
theorem dL_isAsset_182 : decode cL_isAsset 182 = .ok (.if_icmp .ge 7, 3) := by decide +kernel
theorem dL_isAsset_185 : decode cL_isAsset 185 = .ok (.iconst 1, 1) := by decide +kernel
theorem dL_isAsset_186 : decode cL_isAsset 186 = .ok (.goto 4, 3) := by decide +kernel
theorem dL_isAsset_189 : decode cL_isAsset 189 = .ok (.iconst 0, 1) := by decide +kernel
theorem dL_isAsset_190 : decode cL_isAsset 190 = .ok (.istore_n 3, 1) := by decide +kernel
theorem dL_isAsset_191 : decode cL_isAsset 191 = .ok (.iconst 0, 1) := by decide +kernel
theorem dL_isAsset_192 : decode cL_isAsset 192 = .ok (.istore 6, 2) := by decide +kernel
theorem dL_isAsset_194 : decode cL_isAsset 194 = .ok (.iload 6, 2) := by decide +kernel
theorem dL_isAsset_196 : decode cL_isAsset 196 = .ok (.iload 4, 2) := by decide +kernel
theorem dL_isAsset_198 : decode cL_isAsset 198 = .ok (.if_icmp .ge 31, 3) := by decide +kernel
theorem dL_isAsset_201 : decode cL_isAsset 201 = .ok (.iload_n 3, 1) := by decide +kernel
theorem dL_isAsset_202 : decode cL_isAsset 202 = .ok (.ifCond .eq 19, 3) := by decide +kernel
theorem dL_isAsset_205 : decode cL_isAsset 205 = .ok (.aload_n 0, 1) := by decide +kernel
theorem dL_isAsset_206 : decode cL_isAsset 206 = .ok (.iload_n 1, 1) := by decide +kernel
theorem dL_isAsset_207 : decode cL_isAsset 207 = .ok (.iload 6, 2) := by decide +kernel
theorem dL_isAsset_209 : decode cL_isAsset 209 = .ok (.invokevirtual 23, 3) := by decide +kernel
theorem dL_isAsset_212 : decode cL_isAsset 212 = .ok (.iload 5, 2) := by decide +kernel
theorem dL_isAsset_214 : decode cL_isAsset 214 = .ok (.if_icmp .eq 7, 3) := by decide +kernel
theorem dL_isAsset_217 : decode cL_isAsset 217 = .ok (.iconst 1, 1) := by decide +kernel
theorem dL_isAsset_218 : decode cL_isAsset 218 = .ok (.goto 4, 3) := by decide +kernel
theorem dL_isAsset_221 : decode cL_isAsset 221 = .ok (.iconst 0, 1) := by decide +kernel
theorem dL_isAsset_222 : decode cL_isAsset 222 = .ok (.istore_n 3, 1) := by decide +kernel
theorem dL_isAsset_223 : decode cL_isAsset 223 = .ok (.iinc 6 1, 3) := by decide +kernel
theorem dL_isAsset_226 : decode cL_isAsset 226 = .ok (.goto (-32), 3) := by decide +kernel
theorem dL_isAsset_229 : decode cL_isAsset 229 = .ok (.iinc 4 1, 3) := by decide +kernel
theorem dL_isAsset_232 : decode cL_isAsset 232 = .ok (.goto (-98), 3) := by decide +kernel
theorem dL_isAsset_235 : decode cL_isAsset 235 = .ok (.iload_n 3, 1) := by decide +kernel
theorem dL_isAsset_236 : decode cL_isAsset 236 = .ok (.ifCond .eq 41, 3) := by decide +kernel
theorem dL_isAsset_239 : decode cL_isAsset 239 = .ok (.aload_n 0, 1) := by decide +kernel
theorem dL_isAsset_240 : decode cL_isAsset 240 = .ok (.iload_n 1, 1) := by decide +kernel
theorem dL_isAsset_241 : decode cL_isAsset 241 = .ok (.iconst 0, 1) := by decide +kernel
theorem dL_isAsset_242 : decode cL_isAsset 242 = .ok (.invokevirtual 88, 3) := by decide +kernel
theorem dL_isAsset_245 : decode cL_isAsset 245 = .ok (.ldc 92, 2) := by decide +kernel
theorem dL_isAsset_247 : decode cL_isAsset 247 = .ok (.fcmp .l, 1) := by decide +kernel
theorem dL_isAsset_248 : decode cL_isAsset 248 = .ok (.ifCond .lt 29, 3) := by decide +kernel
theorem dL_isAsset_251 : decode cL_isAsset 251 = .ok (.aload_n 0, 1) := by decide +kernel
theorem dL_isAsset_252 : decode cL_isAsset 252 = .ok (.iload_n 1, 1) := by decide +kernel
theorem dL_isAsset_253 : decode cL_isAsset 253 = .ok (.iconst 0, 1) := by decide +kernel
theorem dL_isAsset_254 : decode cL_isAsset 254 = .ok (.invokevirtual 88, 3) := by decide +kernel
theorem dL_isAsset_257 : decode cL_isAsset 257 = .ok (.fconst 1, 1) := by decide +kernel
theorem dL_isAsset_258 : decode cL_isAsset 258 = .ok (.fcmp .g, 1) := by decide +kernel
theorem dL_isAsset_259 : decode cL_isAsset 259 = .ok (.ifCond .gt 18, 3) := by decide +kernel
theorem dL_isAsset_262 : decode cL_isAsset 262 = .ok (.aload_n 0, 1) := by decide +kernel
theorem dL_isAsset_263 : decode cL_isAsset 263 = .ok (.iload_n 1, 1) := by decide +kernel
theorem dL_isAsset_264 : decode cL_isAsset 264 = .ok (.iconst 1, 1) := by decide +kernel
theorem dL_isAsset_265 : decode cL_isAsset 265 = .ok (.invokevirtual 88, 3) := by decide +kernel
theorem dL_isAsset_268 : decode cL_isAsset 268 = .ok (.fconst 0, 1) := by decide +kernel
theorem dL_isAsset_269 : decode cL_isAsset 269 = .ok (.fcmp .l, 1) := by decide +kernel
theorem dL_isAsset_270 : decode cL_isAsset 270 = .ok (.ifCond .lt 7, 3) := by decide +kernel
theorem dL_isAsset_273 : decode cL_isAsset 273 = .ok (.iconst 1, 1) := by decide +kernel
theorem dL_isAsset_274 : decode cL_isAsset 274 = .ok (.goto 4, 3) := by decide +kernel
theorem dL_isAsset_277 : decode cL_isAsset 277 = .ok (.iconst 0, 1) := by decide +kernel
theorem dL_isAsset_278 : decode cL_isAsset 278 = .ok (.ireturn, 1) := by decide +kernel
theorem dL_areRight_0 : decode cL_areRight 0 = .ok (.iconst 1, 1) := by decide +kernel
theorem dL_areRight_1 : decode cL_areRight 1 = .ok (.istore_n 1, 1) := by decide +kernel
theorem dL_areRight_2 : decode cL_areRight 2 = .ok (.iconst 0, 1) := by decide +kernel
theorem dL_areRight_3 : decode cL_areRight 3 = .ok (.istore_n 2, 1) := by decide +kernel
theorem dL_areRight_4 : decode cL_areRight 4 = .ok (.iload_n 2, 1) := by decide +kernel
theorem dL_areRight_5 : decode cL_areRight 5 = .ok (.aload_n 0, 1) := by decide +kernel
theorem dL_areRight_6 : decode cL_areRight 6 = .ok (.iconst 4, 1) := by decide +kernel
theorem dL_areRight_7 : decode cL_areRight 7 = .ok (.invokevirtual 13, 3) := by decide +kernel
theorem dL_areRight_10 : decode cL_areRight 10 = .ok (.if_icmp .ge 19, 3) := by decide +kernel
theorem dL_areRight_13 : decode cL_areRight 13 = .ok (.iload_n 1, 1) := by decide +kernel
theorem dL_areRight_14 : decode cL_areRight 14 = .ok (.ifCond .eq 15, 3) := by decide +kernel
theorem dL_areRight_17 : decode cL_areRight 17 = .ok (.aload_n 0, 1) := by decide +kernel
theorem dL_areRight_18 : decode cL_areRight 18 = .ok (.iload_n 2, 1) := by decide +kernel
theorem dL_areRight_19 : decode cL_areRight 19 = .ok (.invokestatic 93, 3) := by decide +kernel
theorem dL_areRight_22 : decode cL_areRight 22 = .ok (.istore_n 1, 1) := by decide +kernel
theorem dL_areRight_23 : decode cL_areRight 23 = .ok (.iinc 2 1, 3) := by decide +kernel
theorem dL_areRight_26 : decode cL_areRight 26 = .ok (.goto (-22), 3) := by decide +kernel
theorem dL_areRight_29 : decode cL_areRight 29 = .ok (.iconst 0, 1) := by decide +kernel
theorem dL_areRight_30 : decode cL_areRight 30 = .ok (.istore_n 2, 1) := by decide +kernel
theorem dL_areRight_31 : decode cL_areRight 31 = .ok (.iload_n 2, 1) := by decide +kernel
theorem dL_areRight_32 : decode cL_areRight 32 = .ok (.aload_n 0, 1) := by decide +kernel
theorem dL_areRight_33 : decode cL_areRight 33 = .ok (.iconst 1, 1) := by decide +kernel
theorem dL_areRight_34 : decode cL_areRight 34 = .ok (.invokevirtual 13, 3) := by decide +kernel
theorem dL_areRight_37 : decode cL_areRight 37 = .ok (.if_icmp .ge 19, 3) := by decide +kernel
theorem dL_areRight_40 : decode cL_areRight 40 = .ok (.iload_n 1, 1) := by decide +kernel
theorem dL_areRight_41 : decode cL_areRight 41 = .ok (.ifCond .eq 15, 3) := by decide +kernel
theorem dL_areRight_44 : decode cL_areRight 44 = .ok (.aload_n 0, 1) := by decide +kernel
theorem dL_areRight_45 : decode cL_areRight 45 = .ok (.iload_n 2, 1) := by decide +kernel
theorem dL_areRight_46 : decode cL_areRight 46 = .ok (.invokestatic 97, 3) := by decide +kernel
theorem dL_areRight_49 : decode cL_areRight 49 = .ok (.istore_n 1, 1) := by decide +kernel
theorem dL_areRight_50 : decode cL_areRight 50 = .ok (.iinc 2 1, 3) := by decide +kernel
theorem dL_areRight_53 : decode cL_areRight 53 = .ok (.goto (-22), 3) := by decide +kernel
theorem dL_areRight_56 : decode cL_areRight 56 = .ok (.iconst 0, 1) := by decide +kernel
theorem dL_areRight_57 : decode cL_areRight 57 = .ok (.istore_n 2, 1) := by decide +kernel
theorem dL_areRight_58 : decode cL_areRight 58 = .ok (.iconst 0, 1) := by decide +kernel
theorem dL_areRight_59 : decode cL_areRight 59 = .ok (.istore_n 3, 1) := by decide +kernel
theorem dL_areRight_60 : decode cL_areRight 60 = .ok (.iload_n 3, 1) := by decide +kernel
theorem dL_areRight_61 : decode cL_areRight 61 = .ok (.aload_n 0, 1) := by decide +kernel
theorem dL_areRight_62 : decode cL_areRight 62 = .ok (.iconst 3, 1) := by decide +kernel
theorem dL_areRight_63 : decode cL_areRight 63 = .ok (.invokevirtual 13, 3) := by decide +kernel
theorem dL_areRight_66 : decode cL_areRight 66 = .ok (.if_icmp .ge 107, 3) := by decide +kernel
theorem dL_areRight_69 : decode cL_areRight 69 = .ok (.iload_n 1, 1) := by decide +kernel
theorem dL_areRight_70 : decode cL_areRight 70 = .ok (.ifCond .eq 103, 3) := by decide +kernel
theorem dL_areRight_73 : decode cL_areRight 73 = .ok (.iconst 0, 1) := by decide +kernel
theorem dL_areRight_74 : decode cL_areRight 74 = .ok (.istore 4, 2) := by decide +kernel
theorem dL_areRight_76 : decode cL_areRight 76 = .ok (.iconst 0, 1) := by decide +kernel
theorem dL_areRight_77 : decode cL_areRight 77 = .ok (.istore 5, 2) := by decide +kernel
theorem dL_areRight_79 : decode cL_areRight 79 = .ok (.iload 5, 2) := by decide +kernel
theorem dL_areRight_81 : decode cL_areRight 81 = .ok (.aload_n 0, 1) := by decide +kernel
theorem dL_areRight_82 : decode cL_areRight 82 = .ok (.iconst 4, 1) := by decide +kernel
theorem dL_areRight_83 : decode cL_areRight 83 = .ok (.invokevirtual 13, 3) := by decide +kernel
theorem dL_areRight_86 : decode cL_areRight 86 = .ok (.if_icmp .ge 48, 3) := by decide +kernel
theorem dL_areRight_89 : decode cL_areRight 89 = .ok (.iload 4, 2) := by decide +kernel
theorem dL_areRight_91 : decode cL_areRight 91 = .ok (.aload_n 0, 1) := by decide +kernel
theorem dL_areRight_92 : decode cL_areRight 92 = .ok (.iload 5, 2) := by decide +kernel
theorem dL_areRight_94 : decode cL_areRight 94 = .ok (.bipush 8, 2) := by decide +kernel
theorem dL_areRight_96 : decode cL_areRight 96 = .ok (.invokevirtual 32, 3) := by decide +kernel
theorem dL_areRight_99 : decode cL_areRight 99 = .ok (.iload_n 3, 1) := by decide +kernel
theorem dL_areRight_100 : decode cL_areRight 100 = .ok (.if_icmp .ne 24, 3) := by decide +kernel
theorem dL_areRight_103 : decode cL_areRight 103 = .ok (.aload_n 0, 1) := by decide +kernel
theorem dL_areRight_104 : decode cL_areRight 104 = .ok (.iload 5, 2) := by decide +kernel
theorem dL_areRight_106 : decode cL_areRight 106 = .ok (.iconst 1, 1) := by decide +kernel
theorem dL_areRight_107 : decode cL_areRight 107 = .ok (.invokevirtual 32, 3) := by decide +kernel
theorem dL_areRight_110 : decode cL_areRight 110 = .ok (.iconst 4, 1) := by decide +kernel
theorem dL_areRight_111 : decode cL_areRight 111 = .ok (.if_icmp .ge 13, 3) := by decide +kernel
theorem dL_areRight_114 : decode cL_areRight 114 = .ok (.aload_n 0, 1) := by decide +kernel
theorem dL_areRight_115 : decode cL_areRight 115 = .ok (.iload 5, 2) := by decide +kernel
theorem dL_areRight_117 : decode cL_areRight 117 = .ok (.iconst 3, 1) := by decide +kernel
theorem dL_areRight_118 : decode cL_areRight 118 = .ok (.invokevirtual 32, 3) := by decide +kernel
theorem dL_areRight_121 : decode cL_areRight 121 = .ok (.goto 4, 3) := by decide +kernel
theorem dL_areRight_124 : decode cL_areRight 124 = .ok (.iconst 0, 1) := by decide +kernel
theorem dL_areRight_125 : decode cL_areRight 125 = .ok (.iadd, 1) := by decide +kernel
theorem dL_areRight_126 : decode cL_areRight 126 = .ok (.istore 4, 2) := by decide +kernel
theorem dL_areRight_128 : decode cL_areRight 128 = .ok (.iinc 5 1, 3) := by decide +kernel
theorem dL_areRight_131 : decode cL_areRight 131 = .ok (.goto (-52), 3) := by decide +kernel
theorem dL_areRight_134 : decode cL_areRight 134 = .ok (.aload_n 0, 1) := by decide +kernel
theorem dL_areRight_135 : decode cL_areRight 135 = .ok (.iload_n 3, 1) := by decide +kernel
theorem dL_areRight_136 : decode cL_areRight 136 = .ok (.iconst 2, 1) := by decide +kernel
theorem dL_areRight_137 : decode cL_areRight 137 = .ok (.invokevirtual 29, 3) := by decide +kernel
theorem dL_areRight_140 : decode cL_areRight 140 = .ok (.iload 4, 2) := by decide +kernel
theorem dL_areRight_142 : decode cL_areRight 142 = .ok (.if_icmp .ne 18, 3) := by decide +kernel
theorem dL_areRight_145 : decode cL_areRight 145 = .ok (.iload 4, 2) := by decide +kernel
theorem dL_areRight_147 : decode cL_areRight 147 = .ok (.aload_n 0, 1) := by decide +kernel
theorem dL_areRight_148 : decode cL_areRight 148 = .ok (.iload_n 3, 1) := by decide +kernel
theorem dL_areRight_149 : decode cL_areRight 149 = .ok (.iconst 0, 1) := by decide +kernel
theorem dL_areRight_150 : decode cL_areRight 150 = .ok (.invokevirtual 29, 3) := by decide +kernel
theorem dL_areRight_153 : decode cL_areRight 153 = .ok (.if_icmp .gt 7, 3) := by decide +kernel
theorem dL_areRight_156 : decode cL_areRight 156 = .ok (.iconst 1, 1) := by decide +kernel
theorem dL_areRight_157 : decode cL_areRight 157 = .ok (.goto 4, 3) := by decide +kernel
theorem dL_areRight_160 : decode cL_areRight 160 = .ok (.iconst 0, 1) := by decide +kernel
theorem dL_areRight_161 : decode cL_areRight 161 = .ok (.istore_n 1, 1) := by decide +kernel
theorem dL_areRight_162 : decode cL_areRight 162 = .ok (.iload_n 2, 1) := by decide +kernel
theorem dL_areRight_163 : decode cL_areRight 163 = .ok (.iload 4, 2) := by decide +kernel
theorem dL_areRight_165 : decode cL_areRight 165 = .ok (.iadd, 1) := by decide +kernel
theorem dL_areRight_166 : decode cL_areRight 166 = .ok (.istore_n 2, 1) := by decide +kernel
theorem dL_areRight_167 : decode cL_areRight 167 = .ok (.iinc 3 1, 3) := by decide +kernel
theorem dL_areRight_170 : decode cL_areRight 170 = .ok (.goto (-110), 3) := by decide +kernel
theorem dL_areRight_173 : decode cL_areRight 173 = .ok (.iload_n 1, 1) := by decide +kernel
theorem dL_areRight_174 : decode cL_areRight 174 = .ok (.ifCond .eq 41, 3) := by decide +kernel
theorem dL_areRight_177 : decode cL_areRight 177 = .ok (.iload_n 2, 1) := by decide +kernel
theorem dL_areRight_178 : decode cL_areRight 178 = .ok (.aload_n 0, 1) := by decide +kernel
theorem dL_areRight_179 : decode cL_areRight 179 = .ok (.bipush 14, 2) := by decide +kernel
theorem dL_areRight_181 : decode cL_areRight 181 = .ok (.invokevirtual 13, 3) := by decide +kernel
theorem dL_areRight_184 : decode cL_areRight 184 = .ok (.if_icmp .ne 31, 3) := by decide +kernel
theorem dL_areRight_187 : decode cL_areRight 187 = .ok (.aload_n 0, 1) := by decide +kernel
theorem dL_areRight_188 : decode cL_areRight 188 = .ok (.aload_n 0, 1) := by decide +kernel
theorem dL_areRight_189 : decode cL_areRight 189 = .ok (.iconst 1, 1) := by decide +kernel
theorem dL_areRight_190 : decode cL_areRight 190 = .ok (.invokevirtual 13, 3) := by decide +kernel
theorem dL_areRight_193 : decode cL_areRight 193 = .ok (.iconst 0, 1) := by decide +kernel
theorem dL_areRight_194 : decode cL_areRight 194 = .ok (.invokevirtual 88, 3) := by decide +kernel
theorem dL_areRight_197 : decode cL_areRight 197 = .ok (.aload_n 0, 1) := by decide +kernel
theorem dL_areRight_198 : decode cL_areRight 198 = .ok (.aload_n 0, 1) := by decide +kernel
theorem dL_areRight_199 : decode cL_areRight 199 = .ok (.iconst 1, 1) := by decide +kernel
theorem dL_areRight_200 : decode cL_areRight 200 = .ok (.invokevirtual 13, 3) := by decide +kernel
theorem dL_areRight_203 : decode cL_areRight 203 = .ok (.iconst 0, 1) := by decide +kernel
theorem dL_areRight_204 : decode cL_areRight 204 = .ok (.invokevirtual 88, 3) := by decide +kernel
theorem dL_areRight_207 : decode cL_areRight 207 = .ok (.fcmp .l, 1) := by decide +kernel
theorem dL_areRight_208 : decode cL_areRight 208 = .ok (.ifCond .eq 7, 3) := by decide +kernel
theorem dL_areRight_211 : decode cL_areRight 211 = .ok (.iconst 1, 1) := by decide +kernel
theorem dL_areRight_212 : decode cL_areRight 212 = .ok (.goto 4, 3) := by decide +kernel
theorem dL_areRight_215 : decode cL_areRight 215 = .ok (.iconst 0, 1) := by decide +kernel
theorem dL_areRight_216 : decode cL_areRight 216 = .ok (.ireturn, 1) := by decide +kernel
theorem dL_isUndone_0 : decode cL_isUndone 0 = .ok (.aload_n 0, 1) := by decide +kernel
theorem dL_isUndone_1 : decode cL_isUndone 1 = .ok (.invokestatic 100, 3) := by decide +kernel
theorem dL_isUndone_4 : decode cL_isUndone 4 = .ok (.lstore 7, 2) := by decide +kernel
theorem dL_isUndone_6 : decode cL_isUndone 6 = .ok (.aload_n 0, 1) := by decide +kernel
theorem dL_isUndone_7 : decode cL_isUndone 7 = .ok (.bipush 15, 2) := by decide +kernel
theorem dL_isUndone_9 : decode cL_isUndone 9 = .ok (.invokevirtual 13, 3) := by decide +kernel
theorem dL_isUndone_12 : decode cL_isUndone 12 = .ok (.istore 9, 2) := by decide +kernel
theorem dL_isUndone_14 : decode cL_isUndone 14 = .ok (.aload_n 0, 1) := by decide +kernel
theorem dL_isUndone_15 : decode cL_isUndone 15 = .ok (.invokevirtual 104, 3) := by decide +kernel
theorem dL_isUndone_18 : decode cL_isUndone 18 = .ok (.iload 9, 2) := by decide +kernel
theorem dL_isUndone_20 : decode cL_isUndone 20 = .ok (.iconst 1, 1) := by decide +kernel
theorem dL_isUndone_21 : decode cL_isUndone 21 = .ok (.isub, 1) := by decide +kernel
theorem dL_isUndone_22 : decode cL_isUndone 22 = .ok (.if_icmp .ne 50, 3) := by decide +kernel
theorem dL_isUndone_25 : decode cL_isUndone 25 = .ok (.aload_n 0, 1) := by decide +kernel
theorem dL_isUndone_26 : decode cL_isUndone 26 = .ok (.invokestatic 100, 3) := by decide +kernel
theorem dL_isUndone_29 : decode cL_isUndone 29 = .ok (.lload 5, 2) := by decide +kernel
theorem dL_isUndone_31 : decode cL_isUndone 31 = .ok (.lcmp, 1) := by decide +kernel
theorem dL_isUndone_32 : decode cL_isUndone 32 = .ok (.ifCond .ne 40, 3) := by decide +kernel
theorem dL_isUndone_35 : decode cL_isUndone 35 = .ok (.aload_n 0, 1) := by decide +kernel
theorem dL_isUndone_36 : decode cL_isUndone 36 = .ok (.iload_n 1, 1) := by decide +kernel
theorem dL_isUndone_37 : decode cL_isUndone 37 = .ok (.iload_n 2, 1) := by decide +kernel
theorem dL_isUndone_38 : decode cL_isUndone 38 = .ok (.iload_n 3, 1) := by decide +kernel
theorem dL_isUndone_39 : decode cL_isUndone 39 = .ok (.invokestatic 108, 3) := by decide +kernel
theorem dL_isUndone_42 : decode cL_isUndone 42 = .ok (.iload 4, 2) := by decide +kernel
theorem dL_isUndone_44 : decode cL_isUndone 44 = .ok (.if_icmp .ne 28, 3) := by decide +kernel
theorem dL_isUndone_47 : decode cL_isUndone 47 = .ok (.aload_n 0, 1) := by decide +kernel
theorem dL_isUndone_48 : decode cL_isUndone 48 = .ok (.invokestatic 100, 3) := by decide +kernel
theorem dL_isUndone_51 : decode cL_isUndone 51 = .ok (.lload 7, 2) := by decide +kernel
theorem dL_isUndone_53 : decode cL_isUndone 53 = .ok (.lcmp, 1) := by decide +kernel
theorem dL_isUndone_54 : decode cL_isUndone 54 = .ok (.ifCond .ne 18, 3) := by decide +kernel
theorem dL_isUndone_57 : decode cL_isUndone 57 = .ok (.aload_n 0, 1) := by decide +kernel
theorem dL_isUndone_58 : decode cL_isUndone 58 = .ok (.bipush 15, 2) := by decide +kernel
theorem dL_isUndone_60 : decode cL_isUndone 60 = .ok (.invokevirtual 13, 3) := by decide +kernel
theorem dL_isUndone_63 : decode cL_isUndone 63 = .ok (.iload 9, 2) := by decide +kernel
theorem dL_isUndone_65 : decode cL_isUndone 65 = .ok (.if_icmp .ne 7, 3) := by decide +kernel
theorem dL_isUndone_68 : decode cL_isUndone 68 = .ok (.iconst 1, 1) := by decide +kernel
theorem dL_isUndone_69 : decode cL_isUndone 69 = .ok (.goto 4, 3) := by decide +kernel
theorem dL_isUndone_72 : decode cL_isUndone 72 = .ok (.iconst 0, 1) := by decide +kernel
theorem dL_isUndone_73 : decode cL_isUndone 73 = .ok (.ireturn, 1) := by decide +kernel
theorem dL_isKept_0 : decode cL_isKept 0 = .ok (.aload_n 0, 1) := by decide +kernel
theorem dL_isKept_1 : decode cL_isKept 1 = .ok (.invokestatic 100, 3) := by decide +kernel
theorem dL_isKept_4 : decode cL_isKept 4 = .ok (.lstore_n 3, 1) := by decide +kernel
theorem dL_isKept_5 : decode cL_isKept 5 = .ok (.aload_n 0, 1) := by decide +kernel
theorem dL_isKept_6 : decode cL_isKept 6 = .ok (.invokevirtual 112, 3) := by decide +kernel
theorem dL_isKept_9 : decode cL_isKept 9 = .ok (.aload_n 0, 1) := by decide +kernel
theorem dL_isKept_10 : decode cL_isKept 10 = .ok (.iconst 0, 1) := by decide +kernel
theorem dL_isKept_11 : decode cL_isKept 11 = .ok (.invokevirtual 13, 3) := by decide +kernel
theorem dL_isKept_14 : decode cL_isKept 14 = .ok (.if_icmp .eq 5, 3) := by decide +kernel
theorem dL_isKept_17 : decode cL_isKept 17 = .ok (.iconst 0, 1) := by decide +kernel
theorem dL_isKept_18 : decode cL_isKept 18 = .ok (.ireturn, 1) := by decide +kernel
theorem dL_isKept_19 : decode cL_isKept 19 = .ok (.aload_n 0, 1) := by decide +kernel
theorem dL_isKept_20 : decode cL_isKept 20 = .ok (.iload_n 2, 1) := by decide +kernel
theorem dL_isKept_21 : decode cL_isKept 21 = .ok (.bipush 15, 2) := by decide +kernel
theorem dL_isKept_23 : decode cL_isKept 23 = .ok (.invokestatic 61, 3) := by decide +kernel
theorem dL_isKept_26 : decode cL_isKept 26 = .ok (.iload_n 2, 1) := by decide +kernel
theorem dL_isKept_27 : decode cL_isKept 27 = .ok (.iload_n 1, 1) := by decide +kernel
theorem dL_isKept_28 : decode cL_isKept 28 = .ok (.invokestatic 108, 3) := by decide +kernel
theorem dL_isKept_31 : decode cL_isKept 31 = .ok (.pop, 1) := by decide +kernel
theorem dL_isKept_32 : decode cL_isKept 32 = .ok (.aload_n 0, 1) := by decide +kernel
theorem dL_isKept_33 : decode cL_isKept 33 = .ok (.invokevirtual 115, 3) := by decide +kernel
theorem dL_isKept_36 : decode cL_isKept 36 = .ok (.aload_n 0, 1) := by decide +kernel
theorem dL_isKept_37 : decode cL_isKept 37 = .ok (.iconst 0, 1) := by decide +kernel
theorem dL_isKept_38 : decode cL_isKept 38 = .ok (.invokevirtual 13, 3) := by decide +kernel
theorem dL_isKept_41 : decode cL_isKept 41 = .ok (.if_icmp .ne 16, 3) := by decide +kernel
theorem dL_isKept_44 : decode cL_isKept 44 = .ok (.aload_n 0, 1) := by decide +kernel
theorem dL_isKept_45 : decode cL_isKept 45 = .ok (.invokestatic 100, 3) := by decide +kernel
theorem dL_isKept_48 : decode cL_isKept 48 = .ok (.lload_n 3, 1) := by decide +kernel
theorem dL_isKept_49 : decode cL_isKept 49 = .ok (.lcmp, 1) := by decide +kernel
theorem dL_isKept_50 : decode cL_isKept 50 = .ok (.ifCond .ne 7, 3) := by decide +kernel
theorem dL_isKept_53 : decode cL_isKept 53 = .ok (.iconst 1, 1) := by decide +kernel
theorem dL_isKept_54 : decode cL_isKept 54 = .ok (.goto 4, 3) := by decide +kernel
theorem dL_isKept_57 : decode cL_isKept 57 = .ok (.iconst 0, 1) := by decide +kernel
theorem dL_isKept_58 : decode cL_isKept 58 = .ok (.ireturn, 1) := by decide +kernel
theorem dL_law_0 : decode cL_law 0 = .ok (.new 14, 3) := by decide +kernel
theorem dL_law_3 : decode cL_law 3 = .ok (.dup, 1) := by decide +kernel
theorem dL_law_4 : decode cL_law 4 = .ok (.invokespecial 118, 3) := by decide +kernel
theorem dL_law_7 : decode cL_law 7 = .ok (.astore_n 1, 1) := by decide +kernel
theorem dL_law_8 : decode cL_law 8 = .ok (.aload_n 1, 1) := by decide +kernel
theorem dL_law_9 : decode cL_law 9 = .ok (.bipush 10, 2) := by decide +kernel
theorem dL_law_11 : decode cL_law 11 = .ok (.bipush 20, 2) := by decide +kernel
theorem dL_law_13 : decode cL_law 13 = .ok (.invokevirtual 35, 3) := by decide +kernel
theorem dL_law_16 : decode cL_law 16 = .ok (.pop, 1) := by decide +kernel
theorem dL_law_17 : decode cL_law 17 = .ok (.aload_n 1, 1) := by decide +kernel
theorem dL_law_18 : decode cL_law 18 = .ok (.iconst 3, 1) := by decide +kernel
theorem dL_law_19 : decode cL_law 19 = .ok (.bipush 15, 2) := by decide +kernel
theorem dL_law_21 : decode cL_law 21 = .ok (.invokevirtual 69, 3) := by decide +kernel
theorem dL_law_24 : decode cL_law 24 = .ok (.pop, 1) := by decide +kernel
theorem dL_law_25 : decode cL_law 25 = .ok (.aload_n 0, 1) := by decide +kernel
theorem dL_law_26 : decode cL_law 26 = .ok (.arraylength, 1) := by decide +kernel
theorem dL_law_27 : decode cL_law 27 = .ok (.iconst 3, 1) := by decide +kernel
theorem dL_law_28 : decode cL_law 28 = .ok (.idiv, 1) := by decide +kernel
theorem dL_law_29 : decode cL_law 29 = .ok (.bipush 40, 2) := by decide +kernel
theorem dL_law_31 : decode cL_law 31 = .ok (.if_icmp .ge 10, 3) := by decide +kernel
theorem dL_law_34 : decode cL_law 34 = .ok (.aload_n 0, 1) := by decide +kernel
theorem dL_law_35 : decode cL_law 35 = .ok (.arraylength, 1) := by decide +kernel
theorem dL_law_36 : decode cL_law 36 = .ok (.iconst 3, 1) := by decide +kernel
theorem dL_law_37 : decode cL_law 37 = .ok (.idiv, 1) := by decide +kernel
theorem dL_law_38 : decode cL_law 38 = .ok (.goto 5, 3) := by decide +kernel
theorem dL_law_41 : decode cL_law 41 = .ok (.bipush 40, 2) := by decide +kernel
theorem dL_law_43 : decode cL_law 43 = .ok (.istore_n 2, 1) := by decide +kernel
theorem dL_law_44 : decode cL_law 44 = .ok (.iconst 0, 1) := by decide +kernel
theorem dL_law_45 : decode cL_law 45 = .ok (.istore_n 3, 1) := by decide +kernel
theorem dL_law_46 : decode cL_law 46 = .ok (.iload_n 3, 1) := by decide +kernel
theorem dL_law_47 : decode cL_law 47 = .ok (.iload_n 2, 1) := by decide +kernel
theorem dL_law_48 : decode cL_law 48 = .ok (.if_icmp .ge 198, 3) := by decide +kernel
theorem dL_law_51 : decode cL_law 51 = .ok (.aload_n 0, 1) := by decide +kernel
theorem dL_law_52 : decode cL_law 52 = .ok (.iconst 3, 1) := by decide +kernel
theorem dL_law_53 : decode cL_law 53 = .ok (.iload_n 3, 1) := by decide +kernel
theorem dL_law_54 : decode cL_law 54 = .ok (.imul, 1) := by decide +kernel
theorem dL_law_55 : decode cL_law 55 = .ok (.invokestatic 119, 3) := by decide +kernel
theorem dL_law_58 : decode cL_law 58 = .ok (.istore 4, 2) := by decide +kernel
theorem dL_law_60 : decode cL_law 60 = .ok (.aload_n 0, 1) := by decide +kernel
theorem dL_law_61 : decode cL_law 61 = .ok (.iconst 3, 1) := by decide +kernel
theorem dL_law_62 : decode cL_law 62 = .ok (.iload_n 3, 1) := by decide +kernel
theorem dL_law_63 : decode cL_law 63 = .ok (.imul, 1) := by decide +kernel
theorem dL_law_64 : decode cL_law 64 = .ok (.iconst 1, 1) := by decide +kernel
theorem dL_law_65 : decode cL_law 65 = .ok (.iadd, 1) := by decide +kernel
theorem dL_law_66 : decode cL_law 66 = .ok (.invokestatic 119, 3) := by decide +kernel
theorem dL_law_69 : decode cL_law 69 = .ok (.istore 5, 2) := by decide +kernel
theorem dL_law_71 : decode cL_law 71 = .ok (.aload_n 0, 1) := by decide +kernel
theorem dL_law_72 : decode cL_law 72 = .ok (.iconst 3, 1) := by decide +kernel
theorem dL_law_73 : decode cL_law 73 = .ok (.iload_n 3, 1) := by decide +kernel
theorem dL_law_74 : decode cL_law 74 = .ok (.imul, 1) := by decide +kernel
theorem dL_law_75 : decode cL_law 75 = .ok (.iconst 2, 1) := by decide +kernel
theorem dL_law_76 : decode cL_law 76 = .ok (.iadd, 1) := by decide +kernel
theorem dL_law_77 : decode cL_law 77 = .ok (.invokestatic 119, 3) := by decide +kernel
theorem dL_law_80 : decode cL_law 80 = .ok (.istore 6, 2) := by decide +kernel
theorem dL_law_82 : decode cL_law 82 = .ok (.iload 4, 2) := by decide +kernel
theorem dL_law_84 : decode cL_law 84 = .ok (.bipush 15, 2) := by decide +kernel
theorem dL_law_86 : decode cL_law 86 = .ok (.iand, 1) := by decide +kernel
theorem dL_law_87 : decode cL_law 87 = .ok (.istore 7, 2) := by decide +kernel
theorem dL_law_89 : decode cL_law 89 = .ok (.aload_n 1, 1) := by decide +kernel
theorem dL_law_90 : decode cL_law 90 = .ok (.invokestatic 100, 3) := by decide +kernel
theorem dL_law_93 : decode cL_law 93 = .ok (.lstore 8, 2) := by decide +kernel
theorem dL_law_95 : decode cL_law 95 = .ok (.aload_n 1, 1) := by decide +kernel
theorem dL_law_96 : decode cL_law 96 = .ok (.bipush 15, 2) := by decide +kernel
theorem dL_law_98 : decode cL_law 98 = .ok (.invokevirtual 13, 3) := by decide +kernel
theorem dL_law_101 : decode cL_law 101 = .ok (.istore 10, 2) := by decide +kernel
theorem dL_law_103 : decode cL_law 103 = .ok (.aload_n 1, 1) := by decide +kernel
theorem dL_law_104 : decode cL_law 104 = .ok (.bipush 13, 2) := by decide +kernel
theorem dL_law_106 : decode cL_law 106 = .ok (.invokevirtual 13, 3) := by decide +kernel
theorem dL_law_109 : decode cL_law 109 = .ok (.istore 11, 2) := by decide +kernel
theorem dL_law_111 : decode cL_law 111 = .ok (.aload_n 1, 1) := by decide +kernel
theorem dL_law_112 : decode cL_law 112 = .ok (.iload 7, 2) := by decide +kernel
theorem dL_law_114 : decode cL_law 114 = .ok (.iload 5, 2) := by decide +kernel
theorem dL_law_116 : decode cL_law 116 = .ok (.iload 6, 2) := by decide +kernel
theorem dL_law_118 : decode cL_law 118 = .ok (.invokestatic 108, 3) := by decide +kernel
theorem dL_law_121 : decode cL_law 121 = .ok (.istore 12, 2) := by decide +kernel
theorem dL_law_123 : decode cL_law 123 = .ok (.iload 12, 2) := by decide +kernel
theorem dL_law_125 : decode cL_law 125 = .ok (.ifCond .ge 26, 3) := by decide +kernel
theorem dL_law_128 : decode cL_law 128 = .ok (.aload_n 1, 1) := by decide +kernel
theorem dL_law_129 : decode cL_law 129 = .ok (.invokestatic 100, 3) := by decide +kernel
theorem dL_law_132 : decode cL_law 132 = .ok (.lload 8, 2) := by decide +kernel
theorem dL_law_134 : decode cL_law 134 = .ok (.lcmp, 1) := by decide +kernel
theorem dL_law_135 : decode cL_law 135 = .ok (.ifCond .ne 14, 3) := by decide +kernel
theorem dL_law_138 : decode cL_law 138 = .ok (.aload_n 1, 1) := by decide +kernel
theorem dL_law_139 : decode cL_law 139 = .ok (.bipush 15, 2) := by decide +kernel
theorem dL_law_141 : decode cL_law 141 = .ok (.invokevirtual 13, 3) := by decide +kernel
theorem dL_law_144 : decode cL_law 144 = .ok (.iload 10, 2) := by decide +kernel
theorem dL_law_146 : decode cL_law 146 = .ok (.if_icmp .eq 55, 3) := by decide +kernel
theorem dL_law_149 : decode cL_law 149 = .ok (.iconst 0, 1) := by decide +kernel
theorem dL_law_150 : decode cL_law 150 = .ok (.ireturn, 1) := by decide +kernel
theorem dL_law_151 : decode cL_law 151 = .ok (.aload_n 1, 1) := by decide +kernel
theorem dL_law_152 : decode cL_law 152 = .ok (.bipush 15, 2) := by decide +kernel
theorem dL_law_154 : decode cL_law 154 = .ok (.invokevirtual 13, 3) := by decide +kernel
theorem dL_law_157 : decode cL_law 157 = .ok (.iload 10, 2) := by decide +kernel
theorem dL_law_159 : decode cL_law 159 = .ok (.iconst 4, 1) := by decide +kernel
theorem dL_law_160 : decode cL_law 160 = .ok (.if_icmp .ge 10, 3) := by decide +kernel
theorem dL_law_163 : decode cL_law 163 = .ok (.iload 10, 2) := by decide +kernel
theorem dL_law_165 : decode cL_law 165 = .ok (.iconst 1, 1) := by decide +kernel
theorem dL_law_166 : decode cL_law 166 = .ok (.iadd, 1) := by decide +kernel
theorem dL_law_167 : decode cL_law 167 = .ok (.goto 4, 3) := by decide +kernel
theorem dL_law_170 : decode cL_law 170 = .ok (.iconst 4, 1) := by decide +kernel
theorem dL_law_171 : decode cL_law 171 = .ok (.if_icmp .ne 28, 3) := by decide +kernel
theorem dL_law_174 : decode cL_law 174 = .ok (.iload 4, 2) := by decide +kernel
theorem dL_law_176 : decode cL_law 176 = .ok (.bipush 16, 2) := by decide +kernel
theorem dL_law_178 : decode cL_law 178 = .ok (.iand, 1) := by decide +kernel
theorem dL_law_179 : decode cL_law 179 = .ok (.ifCond .ne 22, 3) := by decide +kernel
theorem dL_law_182 : decode cL_law 182 = .ok (.aload_n 1, 1) := by decide +kernel
theorem dL_law_183 : decode cL_law 183 = .ok (.iload 7, 2) := by decide +kernel
theorem dL_law_185 : decode cL_law 185 = .ok (.iload 5, 2) := by decide +kernel
theorem dL_law_187 : decode cL_law 187 = .ok (.iload 6, 2) := by decide +kernel
theorem dL_law_189 : decode cL_law 189 = .ok (.iload 12, 2) := by decide +kernel
theorem dL_law_191 : decode cL_law 191 = .ok (.lload 8, 2) := by decide +kernel
theorem dL_law_193 : decode cL_law 193 = .ok (.invokestatic 123, 3) := by decide +kernel
theorem dL_law_196 : decode cL_law 196 = .ok (.ifCond .ne 5, 3) := by decide +kernel
theorem dL_law_199 : decode cL_law 199 = .ok (.iconst 0, 1) := by decide +kernel
theorem dL_law_200 : decode cL_law 200 = .ok (.ireturn, 1) := by decide +kernel
theorem dL_law_201 : decode cL_law 201 = .ok (.aload_n 1, 1) := by decide +kernel
theorem dL_law_202 : decode cL_law 202 = .ok (.bipush 13, 2) := by decide +kernel
theorem dL_law_204 : decode cL_law 204 = .ok (.invokevirtual 13, 3) := by decide +kernel
theorem dL_law_207 : decode cL_law 207 = .ok (.iload 11, 2) := by decide +kernel
theorem dL_law_209 : decode cL_law 209 = .ok (.if_icmp .lt 29, 3) := by decide +kernel
theorem dL_law_212 : decode cL_law 212 = .ok (.iload 4, 2) := by decide +kernel
theorem dL_law_214 : decode cL_law 214 = .ok (.bipush 96, 2) := by decide +kernel
theorem dL_law_216 : decode cL_law 216 = .ok (.iand, 1) := by decide +kernel
theorem dL_law_217 : decode cL_law 217 = .ok (.ifCond .ne 14, 3) := by decide +kernel
theorem dL_law_220 : decode cL_law 220 = .ok (.aload_n 1, 1) := by decide +kernel
theorem dL_law_221 : decode cL_law 221 = .ok (.iload 5, 2) := by decide +kernel
theorem dL_law_223 : decode cL_law 223 = .ok (.iload 6, 2) := by decide +kernel
theorem dL_law_225 : decode cL_law 225 = .ok (.invokestatic 127, 3) := by decide +kernel
theorem dL_law_228 : decode cL_law 228 = .ok (.ifCond .eq 10, 3) := by decide +kernel
theorem dL_law_231 : decode cL_law 231 = .ok (.aload_n 1, 1) := by decide +kernel
theorem dL_law_232 : decode cL_law 232 = .ok (.invokestatic 131, 3) := by decide +kernel
theorem dL_law_235 : decode cL_law 235 = .ok (.ifCond .ne 5, 3) := by decide +kernel
theorem dL_law_238 : decode cL_law 238 = .ok (.iconst 0, 1) := by decide +kernel
theorem dL_law_239 : decode cL_law 239 = .ok (.ireturn, 1) := by decide +kernel
theorem dL_law_240 : decode cL_law 240 = .ok (.iinc 3 1, 3) := by decide +kernel
theorem dL_law_243 : decode cL_law 243 = .ok (.goto (-197), 3) := by decide +kernel
theorem dL_law_246 : decode cL_law 246 = .ok (.iconst 1, 1) := by decide +kernel
theorem dL_law_247 : decode cL_law 247 = .ok (.ireturn, 1) := by decide +kernel
