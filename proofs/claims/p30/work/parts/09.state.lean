/-! names as the contracts ask for them -/
theorem catOK {as : List Value} (h : (as.all fun v => v.category == 1) = true) : ∀ v ∈ as, v.category = 1 := fun v hv => by simpa using List.all_eq_true.mp h v hv
theorem pn_RX0 : plainName RX0 = true := by decide +kernel
theorem pn_RX1 : plainName RX1 = true := by decide +kernel
theorem pn_RX2 : plainName RX2 = true := by decide +kernel
theorem pn_RX3 : plainName RX3 = true := by decide +kernel
theorem pn_RX4 : plainName RX4 = true := by decide +kernel
theorem pn_RX5 : plainName RX5 = true := by decide +kernel
theorem pn_RX6 : plainName RX6 = true := by decide +kernel
theorem pn_RX7 : plainName RX7 = true := by decide +kernel
theorem pn_RX8 : plainName RX8 = true := by decide +kernel
theorem pn_RJ6 : plainName RJ6 = true := by decide +kernel
theorem oP_X0_init : plainName yX0_init.cls = true ∧ yX0_init.cls = mX0_init.1 ∧ (mX0_init.2.2.2.2.2 = true → yX0_init.name = "<init>") := ⟨pn_RX0, rfl, fun _ => rfl⟩
theorem oP_X0_setUp : plainName yX0_setUp.cls = true ∧ yX0_setUp.cls = mX0_setUp.1 ∧ (mX0_setUp.2.2.2.2.2 = true → yX0_setUp.name = "<init>") := ⟨pn_RX0, rfl, (fun h => by cases h)⟩
theorem oP_X0_copyFrom : plainName yX0_copyFrom.cls = true ∧ yX0_copyFrom.cls = mX0_copyFrom.1 ∧ (mX0_copyFrom.2.2.2.2.2 = true → yX0_copyFrom.name = "<init>") := ⟨pn_RX0, rfl, (fun h => by cases h)⟩
theorem oP_X0_isLinkedTo : plainName yX0_isLinkedTo.cls = true ∧ yX0_isLinkedTo.cls = mX0_isLinkedTo.1 ∧ (mX0_isLinkedTo.2.2.2.2.2 = true → yX0_isLinkedTo.name = "<init>") := ⟨pn_RX0, rfl, (fun h => by cases h)⟩
theorem oP_X0_runForAnHour : plainName yX0_runForAnHour.cls = true ∧ yX0_runForAnHour.cls = mX0_runForAnHour.1 ∧ (mX0_runForAnHour.2.2.2.2.2 = true → yX0_runForAnHour.name = "<init>") := ⟨pn_RX0, rfl, (fun h => by cases h)⟩
theorem oP_X0_mend : plainName yX0_mend.cls = true ∧ yX0_mend.cls = mX0_mend.1 ∧ (mX0_mend.2.2.2.2.2 = true → yX0_mend.name = "<init>") := ⟨pn_RX0, rfl, (fun h => by cases h)⟩
theorem oP_X0_afterAnHour : plainName yX0_afterAnHour.cls = true ∧ yX0_afterAnHour.cls = mX0_afterAnHour.1 ∧ (mX0_afterAnHour.2.2.2.2.2 = true → yX0_afterAnHour.name = "<init>") := ⟨pn_RX0, rfl, (fun h => by cases h)⟩
theorem oP_X0_hoursUntilBelow : plainName yX0_hoursUntilBelow.cls = true ∧ yX0_hoursUntilBelow.cls = mX0_hoursUntilBelow.1 ∧ (mX0_hoursUntilBelow.2.2.2.2.2 = true → yX0_hoursUntilBelow.name = "<init>") := ⟨pn_RX0, rfl, (fun h => by cases h)⟩
theorem oP_X1_init : plainName yX1_init.cls = true ∧ yX1_init.cls = mX1_init.1 ∧ (mX1_init.2.2.2.2.2 = true → yX1_init.name = "<init>") := ⟨pn_RX1, rfl, fun _ => rfl⟩
theorem oP_X1_setUp : plainName yX1_setUp.cls = true ∧ yX1_setUp.cls = mX1_setUp.1 ∧ (mX1_setUp.2.2.2.2.2 = true → yX1_setUp.name = "<init>") := ⟨pn_RX1, rfl, (fun h => by cases h)⟩
theorem oP_X1_copyFrom : plainName yX1_copyFrom.cls = true ∧ yX1_copyFrom.cls = mX1_copyFrom.1 ∧ (mX1_copyFrom.2.2.2.2.2 = true → yX1_copyFrom.name = "<init>") := ⟨pn_RX1, rfl, (fun h => by cases h)⟩
theorem oP_X1_has : plainName yX1_has.cls = true ∧ yX1_has.cls = mX1_has.1 ∧ (mX1_has.2.2.2.2.2 = true → yX1_has.name = "<init>") := ⟨pn_RX1, rfl, (fun h => by cases h)⟩
theorem oP_X2_init : plainName yX2_init.cls = true ∧ yX2_init.cls = mX2_init.1 ∧ (mX2_init.2.2.2.2.2 = true → yX2_init.name = "<init>") := ⟨pn_RX2, rfl, fun _ => rfl⟩
theorem oP_X2_add : plainName yX2_add.cls = true ∧ yX2_add.cls = mX2_add.1 ∧ (mX2_add.2.2.2.2.2 = true → yX2_add.name = "<init>") := ⟨pn_RX2, rfl, (fun h => by cases h)⟩
theorem oP_X2_takeBack : plainName yX2_takeBack.cls = true ∧ yX2_takeBack.cls = mX2_takeBack.1 ∧ (mX2_takeBack.2.2.2.2.2 = true → yX2_takeBack.name = "<init>") := ⟨pn_RX2, rfl, (fun h => by cases h)⟩
theorem oP_X3_init : plainName yX3_init.cls = true ∧ yX3_init.cls = mX3_init.1 ∧ (mX3_init.2.2.2.2.2 = true → yX3_init.name = "<init>") := ⟨pn_RX3, rfl, fun _ => rfl⟩
theorem oP_X4_init : plainName yX4_init.cls = true ∧ yX4_init.cls = mX4_init.1 ∧ (mX4_init.2.2.2.2.2 = true → yX4_init.name = "<init>") := ⟨pn_RX4, rfl, fun _ => rfl⟩
theorem oP_X5_init : plainName yX5_init.cls = true ∧ yX5_init.cls = mX5_init.1 ∧ (mX5_init.2.2.2.2.2 = true → yX5_init.name = "<init>") := ⟨pn_RX5, rfl, fun _ => rfl⟩
theorem oP_X5_copyFrom : plainName yX5_copyFrom.cls = true ∧ yX5_copyFrom.cls = mX5_copyFrom.1 ∧ (mX5_copyFrom.2.2.2.2.2 = true → yX5_copyFrom.name = "<init>") := ⟨pn_RX5, rfl, (fun h => by cases h)⟩
theorem oP_X5_hasAsset : plainName yX5_hasAsset.cls = true ∧ yX5_hasAsset.cls = mX5_hasAsset.1 ∧ (mX5_hasAsset.2.2.2.2.2 = true → yX5_hasAsset.name = "<init>") := ⟨pn_RX5, rfl, (fun h => by cases h)⟩
theorem oP_X5_hasCrew : plainName yX5_hasCrew.cls = true ∧ yX5_hasCrew.cls = mX5_hasCrew.1 ∧ (mX5_hasCrew.2.2.2.2.2 = true → yX5_hasCrew.name = "<init>") := ⟨pn_RX5, rfl, (fun h => by cases h)⟩
theorem oP_X5_hasTask : plainName yX5_hasTask.cls = true ∧ yX5_hasTask.cls = mX5_hasTask.1 ∧ (mX5_hasTask.2.2.2.2.2 = true → yX5_hasTask.name = "<init>") := ⟨pn_RX5, rfl, (fun h => by cases h)⟩
theorem oP_X5_newAsset : plainName yX5_newAsset.cls = true ∧ yX5_newAsset.cls = mX5_newAsset.1 ∧ (mX5_newAsset.2.2.2.2.2 = true → yX5_newAsset.name = "<init>") := ⟨pn_RX5, rfl, (fun h => by cases h)⟩
theorem oP_X5_setLink : plainName yX5_setLink.cls = true ∧ yX5_setLink.cls = mX5_setLink.1 ∧ (mX5_setLink.2.2.2.2.2 = true → yX5_setLink.name = "<init>") := ⟨pn_RX5, rfl, (fun h => by cases h)⟩
theorem oP_X5_setBar : plainName yX5_setBar.cls = true ∧ yX5_setBar.cls = mX5_setBar.1 ∧ (mX5_setBar.2.2.2.2.2 = true → yX5_setBar.name = "<init>") := ⟨pn_RX5, rfl, (fun h => by cases h)⟩
theorem oP_X5_newCrew : plainName yX5_newCrew.cls = true ∧ yX5_newCrew.cls = mX5_newCrew.1 ∧ (mX5_newCrew.2.2.2.2.2 = true → yX5_newCrew.name = "<init>") := ⟨pn_RX5, rfl, (fun h => by cases h)⟩
theorem oP_X5_newTask : plainName yX5_newTask.cls = true ∧ yX5_newTask.cls = mX5_newTask.1 ∧ (mX5_newTask.2.2.2.2.2 = true → yX5_newTask.name = "<init>") := ⟨pn_RX5, rfl, (fun h => by cases h)⟩
theorem oP_X5_startAsset : plainName yX5_startAsset.cls = true ∧ yX5_startAsset.cls = mX5_startAsset.1 ∧ (mX5_startAsset.2.2.2.2.2 = true → yX5_startAsset.name = "<init>") := ⟨pn_RX5, rfl, (fun h => by cases h)⟩
theorem oP_X5_stopAsset : plainName yX5_stopAsset.cls = true ∧ yX5_stopAsset.cls = mX5_stopAsset.1 ∧ (mX5_stopAsset.2.2.2.2.2 = true → yX5_stopAsset.name = "<init>") := ⟨pn_RX5, rfl, (fun h => by cases h)⟩
theorem oP_X5_hangTag : plainName yX5_hangTag.cls = true ∧ yX5_hangTag.cls = mX5_hangTag.1 ∧ (mX5_hangTag.2.2.2.2.2 = true → yX5_hangTag.name = "<init>") := ⟨pn_RX5, rfl, (fun h => by cases h)⟩
theorem oP_X5_beginTask : plainName yX5_beginTask.cls = true ∧ yX5_beginTask.cls = mX5_beginTask.1 ∧ (mX5_beginTask.2.2.2.2.2 = true → yX5_beginTask.name = "<init>") := ⟨pn_RX5, rfl, (fun h => by cases h)⟩
theorem oP_X5_liftTag : plainName yX5_liftTag.cls = true ∧ yX5_liftTag.cls = mX5_liftTag.1 ∧ (mX5_liftTag.2.2.2.2.2 = true → yX5_liftTag.name = "<init>") := ⟨pn_RX5, rfl, (fun h => by cases h)⟩
theorem oP_X5_cancelTask : plainName yX5_cancelTask.cls = true ∧ yX5_cancelTask.cls = mX5_cancelTask.1 ∧ (mX5_cancelTask.2.2.2.2.2 = true → yX5_cancelTask.name = "<init>") := ⟨pn_RX5, rfl, (fun h => by cases h)⟩
theorem oP_X5_passHours : plainName yX5_passHours.cls = true ∧ yX5_passHours.cls = mX5_passHours.1 ∧ (mX5_passHours.2.2.2.2.2 = true → yX5_passHours.name = "<init>") := ⟨pn_RX5, rfl, (fun h => by cases h)⟩
theorem oP_X5_runAssets : plainName yX5_runAssets.cls = true ∧ yX5_runAssets.cls = mX5_runAssets.1 ∧ (mX5_runAssets.2.2.2.2.2 = true → yX5_runAssets.name = "<init>") := ⟨pn_RX5, rfl, (fun h => by cases h)⟩
theorem oP_X5_workOnTasks : plainName yX5_workOnTasks.cls = true ∧ yX5_workOnTasks.cls = mX5_workOnTasks.1 ∧ (mX5_workOnTasks.2.2.2.2.2 = true → yX5_workOnTasks.name = "<init>") := ⟨pn_RX5, rfl, (fun h => by cases h)⟩
theorem oP_X5_mendAsset : plainName yX5_mendAsset.cls = true ∧ yX5_mendAsset.cls = mX5_mendAsset.1 ∧ (mX5_mendAsset.2.2.2.2.2 = true → yX5_mendAsset.name = "<init>") := ⟨pn_RX5, rfl, (fun h => by cases h)⟩
theorem oP_X5_slipTasks : plainName yX5_slipTasks.cls = true ∧ yX5_slipTasks.cls = mX5_slipTasks.1 ∧ (mX5_slipTasks.2.2.2.2.2 = true → yX5_slipTasks.name = "<init>") := ⟨pn_RX5, rfl, (fun h => by cases h)⟩
theorem oP_X5_reasonAgainst : plainName yX5_reasonAgainst.cls = true ∧ yX5_reasonAgainst.cls = mX5_reasonAgainst.1 ∧ (mX5_reasonAgainst.2.2.2.2.2 = true → yX5_reasonAgainst.name = "<init>") := ⟨pn_RX5, rfl, (fun h => by cases h)⟩
theorem oP_X5_barrierOf : plainName yX5_barrierOf.cls = true ∧ yX5_barrierOf.cls = mX5_barrierOf.1 ∧ (mX5_barrierOf.2.2.2.2.2 = true → yX5_barrierOf.name = "<init>") := ⟨pn_RX5, rfl, (fun h => by cases h)⟩
theorem oP_X5_doBar : plainName yX5_doBar.cls = true ∧ yX5_doBar.cls = mX5_doBar.1 ∧ (mX5_doBar.2.2.2.2.2 = true → yX5_doBar.name = "<init>") := ⟨pn_RX5, rfl, (fun h => by cases h)⟩
theorem oP_X5_areNear : plainName yX5_areNear.cls = true ∧ yX5_areNear.cls = mX5_areNear.1 ∧ (mX5_areNear.2.2.2.2.2 = true → yX5_areNear.name = "<init>") := ⟨pn_RX5, rfl, (fun h => by cases h)⟩
theorem oP_X5_isRunning : plainName yX5_isRunning.cls = true ∧ yX5_isRunning.cls = mX5_isRunning.1 ∧ (mX5_isRunning.2.2.2.2.2 = true → yX5_isRunning.name = "<init>") := ⟨pn_RX5, rfl, (fun h => by cases h)⟩
theorem oP_X5_canServe : plainName yX5_canServe.cls = true ∧ yX5_canServe.cls = mX5_canServe.1 ∧ (mX5_canServe.2.2.2.2.2 = true → yX5_canServe.name = "<init>") := ⟨pn_RX5, rfl, (fun h => by cases h)⟩
theorem oP_X5_firstCrewFor : plainName yX5_firstCrewFor.cls = true ∧ yX5_firstCrewFor.cls = mX5_firstCrewFor.1 ∧ (mX5_firstCrewFor.2.2.2.2.2 = true → yX5_firstCrewFor.name = "<init>") := ⟨pn_RX5, rfl, (fun h => by cases h)⟩
theorem oP_X5_tagsHanging : plainName yX5_tagsHanging.cls = true ∧ yX5_tagsHanging.cls = mX5_tagsHanging.1 ∧ (mX5_tagsHanging.2.2.2.2.2 = true → yX5_tagsHanging.name = "<init>") := ⟨pn_RX5, rfl, (fun h => by cases h)⟩
theorem oP_X5_taskOfTag : plainName yX5_taskOfTag.cls = true ∧ yX5_taskOfTag.cls = mX5_taskOfTag.1 ∧ (mX5_taskOfTag.2.2.2.2.2 = true → yX5_taskOfTag.name = "<init>") := ⟨pn_RX5, rfl, (fun h => by cases h)⟩
theorem oP_X5_tasksOfAsset : plainName yX5_tasksOfAsset.cls = true ∧ yX5_tasksOfAsset.cls = mX5_tasksOfAsset.1 ∧ (mX5_tasksOfAsset.2.2.2.2.2 = true → yX5_tasksOfAsset.name = "<init>") := ⟨pn_RX5, rfl, (fun h => by cases h)⟩
theorem oP_X5_tasksOfCrew : plainName yX5_tasksOfCrew.cls = true ∧ yX5_tasksOfCrew.cls = mX5_tasksOfCrew.1 ∧ (mX5_tasksOfCrew.2.2.2.2.2 = true → yX5_tasksOfCrew.name = "<init>") := ⟨pn_RX5, rfl, (fun h => by cases h)⟩
theorem oP_X5_tasksIn : plainName yX5_tasksIn.cls = true ∧ yX5_tasksIn.cls = mX5_tasksIn.1 ∧ (mX5_tasksIn.2.2.2.2.2 = true → yX5_tasksIn.name = "<init>") := ⟨pn_RX5, rfl, (fun h => by cases h)⟩
theorem oP_X5_busyPeople : plainName yX5_busyPeople.cls = true ∧ yX5_busyPeople.cls = mX5_busyPeople.1 ∧ (mX5_busyPeople.2.2.2.2.2 = true → yX5_busyPeople.name = "<init>") := ⟨pn_RX5, rfl, (fun h => by cases h)⟩
theorem oP_X5_allBusyPeople : plainName yX5_allBusyPeople.cls = true ∧ yX5_allBusyPeople.cls = mX5_allBusyPeople.1 ∧ (mX5_allBusyPeople.2.2.2.2.2 = true → yX5_allBusyPeople.name = "<init>") := ⟨pn_RX5, rfl, (fun h => by cases h)⟩
theorem oP_X5_assetsRunning : plainName yX5_assetsRunning.cls = true ∧ yX5_assetsRunning.cls = mX5_assetsRunning.1 ∧ (mX5_assetsRunning.2.2.2.2.2 = true → yX5_assetsRunning.name = "<init>") := ⟨pn_RX5, rfl, (fun h => by cases h)⟩
theorem oP_X5_slipsSoFar : plainName yX5_slipsSoFar.cls = true ∧ yX5_slipsSoFar.cls = mX5_slipsSoFar.1 ∧ (mX5_slipsSoFar.2.2.2.2.2 = true → yX5_slipsSoFar.name = "<init>") := ⟨pn_RX5, rfl, (fun h => by cases h)⟩
theorem oP_X6_init : plainName yX6_init.cls = true ∧ yX6_init.cls = mX6_init.1 ∧ (mX6_init.2.2.2.2.2 = true → yX6_init.name = "<init>") := ⟨pn_RX6, rfl, fun _ => rfl⟩
theorem oP_X6_setUp : plainName yX6_setUp.cls = true ∧ yX6_setUp.cls = mX6_setUp.1 ∧ (mX6_setUp.2.2.2.2.2 = true → yX6_setUp.name = "<init>") := ⟨pn_RX6, rfl, (fun h => by cases h)⟩
theorem oP_X6_copyFrom : plainName yX6_copyFrom.cls = true ∧ yX6_copyFrom.cls = mX6_copyFrom.1 ∧ (mX6_copyFrom.2.2.2.2.2 = true → yX6_copyFrom.name = "<init>") := ⟨pn_RX6, rfl, (fun h => by cases h)⟩
theorem oP_X6_isIn : plainName yX6_isIn.cls = true ∧ yX6_isIn.cls = mX6_isIn.1 ∧ (mX6_isIn.2.2.2.2.2 = true → yX6_isIn.name = "<init>") := ⟨pn_RX6, rfl, (fun h => by cases h)⟩
theorem oP_X6_tagHangs : plainName yX6_tagHangs.cls = true ∧ yX6_tagHangs.cls = mX6_tagHangs.1 ∧ (mX6_tagHangs.2.2.2.2.2 = true → yX6_tagHangs.name = "<init>") := ⟨pn_RX6, rfl, (fun h => by cases h)⟩
theorem oP_X6_isTooLateAt : plainName yX6_isTooLateAt.cls = true ∧ yX6_isTooLateAt.cls = mX6_isTooLateAt.1 ∧ (mX6_isTooLateAt.2.2.2.2.2 = true → yX6_isTooLateAt.name = "<init>") := ⟨pn_RX6, rfl, (fun h => by cases h)⟩
theorem oP_X6_slip : plainName yX6_slip.cls = true ∧ yX6_slip.cls = mX6_slip.1 ∧ (mX6_slip.2.2.2.2.2 = true → yX6_slip.name = "<init>") := ⟨pn_RX6, rfl, (fun h => by cases h)⟩
theorem oP_X7_init : plainName yX7_init.cls = true ∧ yX7_init.cls = mX7_init.1 ∧ (mX7_init.2.2.2.2.2 = true → yX7_init.name = "<init>") := ⟨pn_RX7, rfl, fun _ => rfl⟩
theorem oP_X7_addAsset : plainName yX7_addAsset.cls = true ∧ yX7_addAsset.cls = mX7_addAsset.1 ∧ (mX7_addAsset.2.2.2.2.2 = true → yX7_addAsset.name = "<init>") := ⟨pn_RX7, rfl, (fun h => by cases h)⟩
theorem oP_X7_link : plainName yX7_link.cls = true ∧ yX7_link.cls = mX7_link.1 ∧ (mX7_link.2.2.2.2.2 = true → yX7_link.name = "<init>") := ⟨pn_RX7, rfl, (fun h => by cases h)⟩
theorem oP_X7_bar : plainName yX7_bar.cls = true ∧ yX7_bar.cls = mX7_bar.1 ∧ (mX7_bar.2.2.2.2.2 = true → yX7_bar.name = "<init>") := ⟨pn_RX7, rfl, (fun h => by cases h)⟩
theorem oP_X7_addCrew : plainName yX7_addCrew.cls = true ∧ yX7_addCrew.cls = mX7_addCrew.1 ∧ (mX7_addCrew.2.2.2.2.2 = true → yX7_addCrew.name = "<init>") := ⟨pn_RX7, rfl, (fun h => by cases h)⟩
theorem oP_X7_addTask : plainName yX7_addTask.cls = true ∧ yX7_addTask.cls = mX7_addTask.1 ∧ (mX7_addTask.2.2.2.2.2 = true → yX7_addTask.name = "<init>") := ⟨pn_RX7, rfl, (fun h => by cases h)⟩
theorem oP_X7_run : plainName yX7_run.cls = true ∧ yX7_run.cls = mX7_run.1 ∧ (mX7_run.2.2.2.2.2 = true → yX7_run.name = "<init>") := ⟨pn_RX7, rfl, (fun h => by cases h)⟩
theorem oP_X7_stop : plainName yX7_stop.cls = true ∧ yX7_stop.cls = mX7_stop.1 ∧ (mX7_stop.2.2.2.2.2 = true → yX7_stop.name = "<init>") := ⟨pn_RX7, rfl, (fun h => by cases h)⟩
theorem oP_X7_hang : plainName yX7_hang.cls = true ∧ yX7_hang.cls = mX7_hang.1 ∧ (mX7_hang.2.2.2.2.2 = true → yX7_hang.name = "<init>") := ⟨pn_RX7, rfl, (fun h => by cases h)⟩
theorem oP_X7_begin : plainName yX7_begin.cls = true ∧ yX7_begin.cls = mX7_begin.1 ∧ (mX7_begin.2.2.2.2.2 = true → yX7_begin.name = "<init>") := ⟨pn_RX7, rfl, (fun h => by cases h)⟩
theorem oP_X7_lift : plainName yX7_lift.cls = true ∧ yX7_lift.cls = mX7_lift.1 ∧ (mX7_lift.2.2.2.2.2 = true → yX7_lift.name = "<init>") := ⟨pn_RX7, rfl, (fun h => by cases h)⟩
theorem oP_X7_cancel : plainName yX7_cancel.cls = true ∧ yX7_cancel.cls = mX7_cancel.1 ∧ (mX7_cancel.2.2.2.2.2 = true → yX7_cancel.name = "<init>") := ⟨pn_RX7, rfl, (fun h => by cases h)⟩
theorem oP_X7_pass : plainName yX7_pass.cls = true ∧ yX7_pass.cls = mX7_pass.1 ∧ (mX7_pass.2.2.2.2.2 = true → yX7_pass.name = "<init>") := ⟨pn_RX7, rfl, (fun h => by cases h)⟩
theorem oP_X7_undo : plainName yX7_undo.cls = true ∧ yX7_undo.cls = mX7_undo.1 ∧ (mX7_undo.2.2.2.2.2 = true → yX7_undo.name = "<init>") := ⟨pn_RX7, rfl, (fun h => by cases h)⟩
theorem oP_X7_keep : plainName yX7_keep.cls = true ∧ yX7_keep.cls = mX7_keep.1 ∧ (mX7_keep.2.2.2.2.2 = true → yX7_keep.name = "<init>") := ⟨pn_RX7, rfl, (fun h => by cases h)⟩
theorem oP_X7_restore : plainName yX7_restore.cls = true ∧ yX7_restore.cls = mX7_restore.1 ∧ (mX7_restore.2.2.2.2.2 = true → yX7_restore.name = "<init>") := ⟨pn_RX7, rfl, (fun h => by cases h)⟩
theorem oP_X7_real : plainName yX7_real.cls = true ∧ yX7_real.cls = mX7_real.1 ∧ (mX7_real.2.2.2.2.2 = true → yX7_real.name = "<init>") := ⟨pn_RX7, rfl, (fun h => by cases h)⟩
theorem oP_X7_hoursTo : plainName yX7_hoursTo.cls = true ∧ yX7_hoursTo.cls = mX7_hoursTo.1 ∧ (mX7_hoursTo.2.2.2.2.2 = true → yX7_hoursTo.name = "<init>") := ⟨pn_RX7, rfl, (fun h => by cases h)⟩
theorem oP_X7_asset : plainName yX7_asset.cls = true ∧ yX7_asset.cls = mX7_asset.1 ∧ (mX7_asset.2.2.2.2.2 = true → yX7_asset.name = "<init>") := ⟨pn_RX7, rfl, (fun h => by cases h)⟩
theorem oP_X7_tagAt : plainName yX7_tagAt.cls = true ∧ yX7_tagAt.cls = mX7_tagAt.1 ∧ (mX7_tagAt.2.2.2.2.2 = true → yX7_tagAt.name = "<init>") := ⟨pn_RX7, rfl, (fun h => by cases h)⟩
theorem oP_X7_crew : plainName yX7_crew.cls = true ∧ yX7_crew.cls = mX7_crew.1 ∧ (mX7_crew.2.2.2.2.2 = true → yX7_crew.name = "<init>") := ⟨pn_RX7, rfl, (fun h => by cases h)⟩
theorem oP_X7_task : plainName yX7_task.cls = true ∧ yX7_task.cls = mX7_task.1 ∧ (mX7_task.2.2.2.2.2 = true → yX7_task.name = "<init>") := ⟨pn_RX7, rfl, (fun h => by cases h)⟩
theorem oP_X7_crewFor : plainName yX7_crewFor.cls = true ∧ yX7_crewFor.cls = mX7_crewFor.1 ∧ (mX7_crewFor.2.2.2.2.2 = true → yX7_crewFor.name = "<init>") := ⟨pn_RX7, rfl, (fun h => by cases h)⟩
theorem oP_X7_count : plainName yX7_count.cls = true ∧ yX7_count.cls = mX7_count.1 ∧ (mX7_count.2.2.2.2.2 = true → yX7_count.name = "<init>") := ⟨pn_RX7, rfl, (fun h => by cases h)⟩
theorem oP_X7_recorded : plainName yX7_recorded.cls = true ∧ yX7_recorded.cls = mX7_recorded.1 ∧ (mX7_recorded.2.2.2.2.2 = true → yX7_recorded.name = "<init>") := ⟨pn_RX7, rfl, (fun h => by cases h)⟩
theorem oP_X7_within : plainName yX7_within.cls = true ∧ yX7_within.cls = mX7_within.1 ∧ (mX7_within.2.2.2.2.2 = true → yX7_within.name = "<init>") := ⟨pn_RX7, rfl, (fun h => by cases h)⟩
theorem oP_J6_bitCount_0f7a4 : plainName yJ6_bitCount_0f7a4.cls = true ∧ yJ6_bitCount_0f7a4.cls = mJ6_bitCount_0f7a4.1 ∧ (mJ6_bitCount_0f7a4.2.2.2.2.2 = true → yJ6_bitCount_0f7a4.name = "<init>") := ⟨pn_RJ6, rfl, (fun h => by cases h)⟩
/-! where things lie: a plant at p (its rows of references p+1 .. p+3, its bars p+4, 8 assets from p+5, 5 crews from p+13, 24 tasks from p+18) -/
def isPl (σ : pT) (p : Nat) : Prop :=
  (σ.2.1 p).1 = 6 ∧
  σ.2.2 p 0 = some (p + 1) ∧
  σ.2.2 p 1 = some (p + 2) ∧
  σ.2.2 p 2 = some (p + 3) ∧
  σ.2.2 p 3 = some (p + 4) ∧
  σ.2.1 (p + 1) = (0 + 30, 8) ∧
  σ.2.1 (p + 2) = (1 + 30, 5) ∧
  σ.2.1 (p + 3) = (6 + 30, 24) ∧
  σ.2.1 (p + 4) = (20, 5) ∧
  (∀ i, i < 8 → σ.2.2 (p + 1) i = some (p + 5 + i)) ∧
  (∀ i, i < 8 → (σ.2.1 (p + 5 + i)).1 = 0 + 1) ∧
  (∀ i, i < 5 → σ.2.2 (p + 2) i = some (p + 13 + i)) ∧
  (∀ i, i < 5 → (σ.2.1 (p + 13 + i)).1 = 1 + 1) ∧
  (∀ i, i < 24 → σ.2.2 (p + 3) i = some (p + 18 + i)) ∧
  (∀ i, i < 24 → (σ.2.1 (p + 18 + i)).1 = 6 + 1)
theorem pl_k {σ : pT} {p : Nat} (h : isPl σ p) : (σ.2.1 p).1 = 6 := h.1
theorem pl_rA {σ : pT} {p : Nat} (h : isPl σ p) : σ.2.2 p 0 = some (p + 1) := h.2.1
theorem pl_rC {σ : pT} {p : Nat} (h : isPl σ p) : σ.2.2 p 1 = some (p + 2) := h.2.2.1
theorem pl_rT {σ : pT} {p : Nat} (h : isPl σ p) : σ.2.2 p 2 = some (p + 3) := h.2.2.2.1
theorem pl_rB {σ : pT} {p : Nat} (h : isPl σ p) : σ.2.2 p 3 = some (p + 4) := h.2.2.2.2.1
theorem pl_kA {σ : pT} {p : Nat} (h : isPl σ p) : σ.2.1 (p + 1) = (0 + 30, 8) := h.2.2.2.2.2.1
theorem pl_kC {σ : pT} {p : Nat} (h : isPl σ p) : σ.2.1 (p + 2) = (1 + 30, 5) := h.2.2.2.2.2.2.1
theorem pl_kT {σ : pT} {p : Nat} (h : isPl σ p) : σ.2.1 (p + 3) = (6 + 30, 24) := h.2.2.2.2.2.2.2.1
theorem pl_kB {σ : pT} {p : Nat} (h : isPl σ p) : σ.2.1 (p + 4) = (20, 5) := h.2.2.2.2.2.2.2.2.1
theorem pl_eA_ {σ : pT} {p : Nat} (h : isPl σ p) : (∀ i, i < 8 → σ.2.2 (p + 1) i = some (p + 5 + i)) := h.2.2.2.2.2.2.2.2.2.1
theorem pl_oA_ {σ : pT} {p : Nat} (h : isPl σ p) : (∀ i, i < 8 → (σ.2.1 (p + 5 + i)).1 = 0 + 1) := h.2.2.2.2.2.2.2.2.2.2.1
theorem pl_eC_ {σ : pT} {p : Nat} (h : isPl σ p) : (∀ i, i < 5 → σ.2.2 (p + 2) i = some (p + 13 + i)) := h.2.2.2.2.2.2.2.2.2.2.2.1
theorem pl_oC_ {σ : pT} {p : Nat} (h : isPl σ p) : (∀ i, i < 5 → (σ.2.1 (p + 13 + i)).1 = 1 + 1) := h.2.2.2.2.2.2.2.2.2.2.2.2.1
theorem pl_eT_ {σ : pT} {p : Nat} (h : isPl σ p) : (∀ i, i < 24 → σ.2.2 (p + 3) i = some (p + 18 + i)) := h.2.2.2.2.2.2.2.2.2.2.2.2.2.1
theorem pl_oT_ {σ : pT} {p : Nat} (h : isPl σ p) : (∀ i, i < 24 → (σ.2.1 (p + 18 + i)).1 = 6 + 1) := h.2.2.2.2.2.2.2.2.2.2.2.2.2.2
theorem pl_eA {σ : pT} {p i : Nat} (h : isPl σ p) (hi : i < 8) : σ.2.2 (p + 1) i = some (p + 5 + i) := pl_eA_ h i hi
theorem pl_oA {σ : pT} {p i : Nat} (h : isPl σ p) (hi : i < 8) : (σ.2.1 (p + 5 + i)).1 = 0 + 1 := pl_oA_ h i hi
theorem pl_eC {σ : pT} {p i : Nat} (h : isPl σ p) (hi : i < 5) : σ.2.2 (p + 2) i = some (p + 13 + i) := pl_eC_ h i hi
theorem pl_oC {σ : pT} {p i : Nat} (h : isPl σ p) (hi : i < 5) : (σ.2.1 (p + 13 + i)).1 = 1 + 1 := pl_oC_ h i hi
theorem pl_eT {σ : pT} {p i : Nat} (h : isPl σ p) (hi : i < 24) : σ.2.2 (p + 3) i = some (p + 18 + i) := pl_eT_ h i hi
theorem pl_oT {σ : pT} {p i : Nat} (h : isPl σ p) (hi : i < 24) : (σ.2.1 (p + 18 + i)).1 = 6 + 1 := pl_oT_ h i hi
/-! the history at q: its row q+1, four plants from q+2, 42 cells each -/
def isHi (σ : pT) (q : Nat) : Prop :=
  (σ.2.1 q).1 = 3 ∧
  σ.2.2 q 0 = some (q + 1) ∧
  σ.2.1 (q + 1) = (5 + 30, 4) ∧
  (∀ i, i < 4 → σ.2.2 (q + 1) i = some (q + 2 + 42 * i)) ∧
  (∀ i, i < 4 → isPl σ (q + 2 + 42 * i))
theorem hi_k {σ : pT} {q : Nat} (h : isHi σ q) : (σ.2.1 q).1 = 3 := h.1
theorem hi_rs {σ : pT} {q : Nat} (h : isHi σ q) : σ.2.2 q 0 = some (q + 1) := h.2.1
theorem hi_ks {σ : pT} {q : Nat} (h : isHi σ q) : σ.2.1 (q + 1) = (5 + 30, 4) := h.2.2.1
theorem hi_ep_ {σ : pT} {q : Nat} (h : isHi σ q) : (∀ i, i < 4 → σ.2.2 (q + 1) i = some (q + 2 + 42 * i)) := h.2.2.2.1
theorem hi_op_ {σ : pT} {q : Nat} (h : isHi σ q) : (∀ i, i < 4 → isPl σ (q + 2 + 42 * i)) := h.2.2.2.2
theorem hi_ep {σ : pT} {q i : Nat} (h : isHi σ q) (hi : i < 4) : σ.2.2 (q + 1) i = some (q + 2 + 42 * i) := hi_ep_ h i hi
theorem hi_op {σ : pT} {q i : Nat} (h : isHi σ q) (hi : i < 4) : isPl σ (q + 2 + 42 * i) := hi_op_ h i hi
/-! the orders at q: the text q+1, the row q+2, twenty orders from q+3 -/
def isOr (σ : pT) (q : Nat) : Prop :=
  (σ.2.1 q).1 = 5 ∧
  σ.2.2 q 0 = some (q + 1) ∧
  σ.2.2 q 2 = some (q + 2) ∧
  σ.2.1 (q + 1) = (21, 60) ∧
  σ.2.1 (q + 2) = (3 + 30, 20) ∧
  (∀ i, i < 20 → σ.2.2 (q + 2) i = some (q + 3 + i)) ∧
  (∀ i, i < 20 → (σ.2.1 (q + 3 + i)).1 = 3 + 1)
theorem or_k {σ : pT} {q : Nat} (h : isOr σ q) : (σ.2.1 q).1 = 5 := h.1
theorem or_rt {σ : pT} {q : Nat} (h : isOr σ q) : σ.2.2 q 0 = some (q + 1) := h.2.1
theorem or_rr {σ : pT} {q : Nat} (h : isOr σ q) : σ.2.2 q 2 = some (q + 2) := h.2.2.1
theorem or_kt {σ : pT} {q : Nat} (h : isOr σ q) : σ.2.1 (q + 1) = (21, 60) := h.2.2.2.1
theorem or_kr {σ : pT} {q : Nat} (h : isOr σ q) : σ.2.1 (q + 2) = (3 + 30, 20) := h.2.2.2.2.1
theorem or_eo_ {σ : pT} {q : Nat} (h : isOr σ q) : (∀ i, i < 20 → σ.2.2 (q + 2) i = some (q + 3 + i)) := h.2.2.2.2.2.1
theorem or_oo_ {σ : pT} {q : Nat} (h : isOr σ q) : (∀ i, i < 20 → (σ.2.1 (q + 3 + i)).1 = 3 + 1) := h.2.2.2.2.2.2
theorem or_eo {σ : pT} {q i : Nat} (h : isOr σ q) (hi : i < 20) : σ.2.2 (q + 2) i = some (q + 3 + i) := or_eo_ h i hi
theorem or_oo {σ : pT} {q i : Nat} (h : isOr σ q) (hi : i < 20) : (σ.2.1 (q + 3 + i)).1 = 3 + 1 := or_oo_ h i hi
/-! the whole object at x: plants x+1, x+43, x+85, the history x+127, the orders x+297 -/
def isTW (σ : pT) (x : Nat) : Prop :=
  (σ.2.1 x).1 = 8 ∧
  σ.2.2 x 0 = some (x + 1) ∧
  σ.2.2 x 1 = some (x + 43) ∧
  σ.2.2 x 2 = some (x + 85) ∧
  σ.2.2 x 4 = some (x + 127) ∧
  σ.2.2 x 5 = some (x + 297) ∧
  isPl σ (x + 1) ∧
  isPl σ (x + 43) ∧
  isPl σ (x + 85) ∧
  isHi σ (x + 127) ∧
  isOr σ (x + 297)
theorem tw_k {σ : pT} {x : Nat} (h : isTW σ x) : (σ.2.1 x).1 = 8 := h.1
theorem tw_r0 {σ : pT} {x : Nat} (h : isTW σ x) : σ.2.2 x 0 = some (x + 1) := h.2.1
theorem tw_r1 {σ : pT} {x : Nat} (h : isTW σ x) : σ.2.2 x 1 = some (x + 43) := h.2.2.1
theorem tw_r2 {σ : pT} {x : Nat} (h : isTW σ x) : σ.2.2 x 2 = some (x + 85) := h.2.2.2.1
theorem tw_r4 {σ : pT} {x : Nat} (h : isTW σ x) : σ.2.2 x 4 = some (x + 127) := h.2.2.2.2.1
theorem tw_r5 {σ : pT} {x : Nat} (h : isTW σ x) : σ.2.2 x 5 = some (x + 297) := h.2.2.2.2.2.1
theorem tw_now {σ : pT} {x : Nat} (h : isTW σ x) : isPl σ (x + 1) := h.2.2.2.2.2.2.1
theorem tw_bef {σ : pT} {x : Nat} (h : isTW σ x) : isPl σ (x + 43) := h.2.2.2.2.2.2.2.1
theorem tw_kept {σ : pT} {x : Nat} (h : isTW σ x) : isPl σ (x + 85) := h.2.2.2.2.2.2.2.2.1
theorem tw_hi {σ : pT} {x : Nat} (h : isTW σ x) : isHi σ (x + 127) := h.2.2.2.2.2.2.2.2.2.1
theorem tw_or {σ : pT} {x : Nat} (h : isTW σ x) : isOr σ (x + 297) := h.2.2.2.2.2.2.2.2.2.2
/-! the model at m: its seven rows from m+1 -/
def isMo (σ : pT) (m : Nat) : Prop :=
  (σ.2.1 m).1 = 9 ∧
  σ.2.2 m 0 = some (m + 1) ∧
  σ.2.2 m 1 = some (m + 2) ∧
  σ.2.2 m 2 = some (m + 3) ∧
  σ.2.2 m 3 = some (m + 4) ∧
  σ.2.2 m 4 = some (m + 5) ∧
  σ.2.2 m 5 = some (m + 6) ∧
  σ.2.2 m 8 = some (m + 7) ∧
  σ.2.1 (m + 1) = (20, 491) ∧
  σ.2.1 (m + 2) = (22, 8) ∧
  σ.2.1 (m + 3) = (22, 8) ∧
  σ.2.1 (m + 4) = (20, 2946) ∧
  σ.2.1 (m + 5) = (22, 48) ∧
  σ.2.1 (m + 6) = (22, 48) ∧
  σ.2.1 (m + 7) = (20, 60)
theorem mo_k {σ : pT} {m : Nat} (h : isMo σ m) : (σ.2.1 m).1 = 9 := h.1
theorem mo_r1 {σ : pT} {m : Nat} (h : isMo σ m) : σ.2.2 m 0 = some (m + 1) := h.2.1
theorem mo_r2 {σ : pT} {m : Nat} (h : isMo σ m) : σ.2.2 m 1 = some (m + 2) := h.2.2.1
theorem mo_r3 {σ : pT} {m : Nat} (h : isMo σ m) : σ.2.2 m 2 = some (m + 3) := h.2.2.2.1
theorem mo_r4 {σ : pT} {m : Nat} (h : isMo σ m) : σ.2.2 m 3 = some (m + 4) := h.2.2.2.2.1
theorem mo_r5 {σ : pT} {m : Nat} (h : isMo σ m) : σ.2.2 m 4 = some (m + 5) := h.2.2.2.2.2.1
theorem mo_r6 {σ : pT} {m : Nat} (h : isMo σ m) : σ.2.2 m 5 = some (m + 6) := h.2.2.2.2.2.2.1
theorem mo_r7 {σ : pT} {m : Nat} (h : isMo σ m) : σ.2.2 m 8 = some (m + 7) := h.2.2.2.2.2.2.2.1
theorem mo_k1 {σ : pT} {m : Nat} (h : isMo σ m) : σ.2.1 (m + 1) = (20, 491) := h.2.2.2.2.2.2.2.2.1
theorem mo_k2 {σ : pT} {m : Nat} (h : isMo σ m) : σ.2.1 (m + 2) = (22, 8) := h.2.2.2.2.2.2.2.2.2.1
theorem mo_k3 {σ : pT} {m : Nat} (h : isMo σ m) : σ.2.1 (m + 3) = (22, 8) := h.2.2.2.2.2.2.2.2.2.2.1
theorem mo_k4 {σ : pT} {m : Nat} (h : isMo σ m) : σ.2.1 (m + 4) = (20, 2946) := h.2.2.2.2.2.2.2.2.2.2.2.1
theorem mo_k5 {σ : pT} {m : Nat} (h : isMo σ m) : σ.2.1 (m + 5) = (22, 48) := h.2.2.2.2.2.2.2.2.2.2.2.2.1
theorem mo_k6 {σ : pT} {m : Nat} (h : isMo σ m) : σ.2.1 (m + 6) = (22, 48) := h.2.2.2.2.2.2.2.2.2.2.2.2.2.1
theorem mo_k7 {σ : pT} {m : Nat} (h : isMo σ m) : σ.2.1 (m + 7) = (20, 60) := h.2.2.2.2.2.2.2.2.2.2.2.2.2.2

