section
-- ===== PART A: goes FIRST, ahead of the names: the tables' words, and 'selects' of the private methods out of them =====
/-- a private method of a class that the tables say can be made, by its rows of tables_1 -/
def lw_okq (q : MethodName × Nat) : Prop := (q.1.cls ≠ "java/lang/invoke/MethodHandle" ∧ q.1.cls ≠ "java/lang/invoke/VarHandle") ∧ Cond.instantiable q.1.cls q.2 ∈ tables_1 ∧ Cond.privateMethod q.1 ∈ tables_1 ∧ Cond.instanceMethod q.1 ∈ tables_1
theorem lw_p0 : lw_okq (⟨"TagWindows", "recorded", "(I)I"⟩, 6) := ⟨⟨by decide +kernel, by decide +kernel⟩, List.mem_of_getElem? (i := 11) (by decide +kernel), List.mem_of_getElem? (i := 286) (by decide +kernel), List.mem_of_getElem? (i := 287) (by decide +kernel)⟩
theorem lw_p1 : lw_okq (⟨"TagWindows$Plant", "doBar", "(II)Z"⟩, 8) := ⟨⟨by decide +kernel, by decide +kernel⟩, List.mem_of_getElem? (i := 19) (by decide +kernel), List.mem_of_getElem? (i := 424) (by decide +kernel), List.mem_of_getElem? (i := 425) (by decide +kernel)⟩
theorem lw_p2 : lw_okq (⟨"TagWindows$Plant", "areNear", "(II)Z"⟩, 8) := ⟨⟨by decide +kernel, by decide +kernel⟩, List.mem_of_getElem? (i := 19) (by decide +kernel), List.mem_of_getElem? (i := 428) (by decide +kernel), List.mem_of_getElem? (i := 429) (by decide +kernel)⟩
theorem lw_p3 : lw_okq (⟨"TagWindows$Plant", "canServe", "(ILTagWindows$Task;)Z"⟩, 8) := ⟨⟨by decide +kernel, by decide +kernel⟩, List.mem_of_getElem? (i := 19) (by decide +kernel), List.mem_of_getElem? (i := 507) (by decide +kernel), List.mem_of_getElem? (i := 508) (by decide +kernel)⟩
theorem lw_p4 : lw_okq (⟨"TagWindows$Plant", "isRunning", "(I)Z"⟩, 8) := ⟨⟨by decide +kernel, by decide +kernel⟩, List.mem_of_getElem? (i := 19) (by decide +kernel), List.mem_of_getElem? (i := 525) (by decide +kernel), List.mem_of_getElem? (i := 526) (by decide +kernel)⟩
theorem lw_p5 : lw_okq (⟨"TagWindows$Plant", "runAssets", "()V"⟩, 8) := ⟨⟨by decide +kernel, by decide +kernel⟩, List.mem_of_getElem? (i := 19) (by decide +kernel), List.mem_of_getElem? (i := 563) (by decide +kernel), List.mem_of_getElem? (i := 564) (by decide +kernel)⟩
theorem lw_p6 : lw_okq (⟨"TagWindows$Plant", "workOnTasks", "()I"⟩, 8) := ⟨⟨by decide +kernel, by decide +kernel⟩, List.mem_of_getElem? (i := 19) (by decide +kernel), List.mem_of_getElem? (i := 571) (by decide +kernel), List.mem_of_getElem? (i := 572) (by decide +kernel)⟩
theorem lw_p7 : lw_okq (⟨"TagWindows$Plant", "mendAsset", "(I)V"⟩, 8) := ⟨⟨by decide +kernel, by decide +kernel⟩, List.mem_of_getElem? (i := 19) (by decide +kernel), List.mem_of_getElem? (i := 575) (by decide +kernel), List.mem_of_getElem? (i := 576) (by decide +kernel)⟩
theorem lw_p8 : lw_okq (⟨"TagWindows$Plant", "slipTasks", "()V"⟩, 8) := ⟨⟨by decide +kernel, by decide +kernel⟩, List.mem_of_getElem? (i := 19) (by decide +kernel), List.mem_of_getElem? (i := 584) (by decide +kernel), List.mem_of_getElem? (i := 585) (by decide +kernel)⟩
def lw_privs_1 : List (MethodName × Nat) := [(⟨"TagWindows", "recorded", "(I)I"⟩, 6), (⟨"TagWindows$Plant", "doBar", "(II)Z"⟩, 8), (⟨"TagWindows$Plant", "areNear", "(II)Z"⟩, 8), (⟨"TagWindows$Plant", "canServe", "(ILTagWindows$Task;)Z"⟩, 8), (⟨"TagWindows$Plant", "isRunning", "(I)Z"⟩, 8), (⟨"TagWindows$Plant", "runAssets", "()V"⟩, 8), (⟨"TagWindows$Plant", "workOnTasks", "()I"⟩, 8), (⟨"TagWindows$Plant", "mendAsset", "(I)V"⟩, 8), (⟨"TagWindows$Plant", "slipTasks", "()V"⟩, 8)]
theorem lw_r1 : ∀ q ∈ lw_privs_1, lw_okq q := List.forall_mem_cons.mpr ⟨lw_p0, List.forall_mem_cons.mpr ⟨lw_p1, List.forall_mem_cons.mpr ⟨lw_p2, List.forall_mem_cons.mpr ⟨lw_p3, List.forall_mem_cons.mpr ⟨lw_p4, List.forall_mem_cons.mpr ⟨lw_p5, List.forall_mem_cons.mpr ⟨lw_p6, List.forall_mem_cons.mpr ⟨lw_p7, List.forall_mem_cons.mpr ⟨lw_p8, fun _ h => absurd h List.not_mem_nil⟩⟩⟩⟩⟩⟩⟩⟩⟩
def lw_privs : List (MethodName × Nat) := lw_privs_1
def lw_tbl : List Cond := k2_sels lw_privs ++ tables_1
theorem lw_privs_ok : ∀ q ∈ lw_privs, lw_okq q := lw_r1
/-- the streams that the claim lets the run draw from -/
abbrev lw_cs : List Choice := [Jvm.Choice.named "NaN.bits"]
theorem lw_bits : nanBits ∈ lw_cs := by first | decide | exact List.mem_cons_self | simp [lw_cs, nanBits]
-- ===== end of PART A; then your names; then what follows =====
/-! ===== BEGIN words of one list among another's, by their places ===== -/
theorem goodIn_r {big : List Cond} (ws : List Cond) (ps : List Nat) (hp : ws = ps.filterMap (fun i => big[i]?)) (h : ws.all goodWord = true) : GoodIn big ws := by
  intro w hw
  have h1 := List.all_eq_true.mp h w hw
  rw [hp] at hw
  obtain ⟨i, -, hi⟩ := List.mem_filterMap.mp hw
  have hm : w ∈ big := by first | exact List.mem_of_getElem? hi | exact List.getElem?_mem hi
  exact ⟨hm, good_of_word h1⟩
theorem goodIn_app {big a b : List Cond} (ha : GoodIn big a) (hb : GoodIn big b) : GoodIn big (a ++ b) := fun w h => (List.mem_append.mp h).elim (ha w) (hb w)
theorem goodIn_ca {big a b : List Cond} {c : Cond} (ha : GoodIn big (c :: a)) (hb : GoodIn big b) : GoodIn big (c :: (a ++ b)) := fun w h => (List.mem_cons.mp h).elim (fun e => ha w (List.mem_cons.mpr (Or.inl e))) (fun h => (List.mem_append.mp h).elim (fun h => ha w (List.mem_cons.mpr (Or.inr h))) (hb w))
theorem goodIn_sub {big ws : List Cond} (hm : ∀ w ∈ ws, w ∈ big) (h : ws.all goodWord = true) : GoodIn big ws := fun w hw => ⟨hm w hw, good_of_word (List.all_eq_true.mp h w hw)⟩
/-! ===== END ===== -/

/-! ===== BEGIN printed: names, fields, word lists, decode rows ===== -/
def RX0 : String := "TagWindows$Asset"
def TX0 : u_T := fun k => match k with
  | 0 => ("TagWindows$Asset", "rate", "I", false)
  | 1 => ("TagWindows$Asset", "wear", "F", false)
  | 2 => ("TagWindows$Asset", "health", "F", false)
  | 3 => ("TagWindows$Asset", "output", "F", false)
  | 4 => ("TagWindows$Asset", "runs", "Z", false)
  | _ => ("TagWindows$Asset", "links", "I", false)
def tyX0 : Nat → FieldType := fun k => match k with
  | 0 => .int
  | 1 => .float
  | 2 => .float
  | 3 => .float
  | 4 => .boolean
  | _ => .int
abbrev wsX00 : List Cond := u_ws RX0 TX0 6
theorem nmX0 : ∀ a, a < 6 → ∀ b, b < 6 → a ≠ b → (TX0 a).2.1 ≠ (TX0 b).2.1 := by decide +kernel
theorem tyX0_ok : ∀ k, k < 6 → parseFieldDescriptor (TX0 k).2.2.1 = some (tyX0 k) := by decide +kernel
abbrev cX0_init : ByteArray := prog_2_method_1_code
def yX0_init : MethodName := ⟨RX0, "<init>", "()V"⟩
abbrev cX0_setUp : ByteArray := prog_2_method_2_code
def yX0_setUp : MethodName := ⟨RX0, "setUp", "(II)V"⟩
abbrev cX0_copyFrom : ByteArray := prog_2_method_3_code
def yX0_copyFrom : MethodName := ⟨RX0, "copyFrom", "(LTagWindows$Asset;)V"⟩
abbrev cX0_isLinkedTo : ByteArray := prog_2_method_4_code
def yX0_isLinkedTo : MethodName := ⟨RX0, "isLinkedTo", "(I)Z"⟩
abbrev cX0_runForAnHour : ByteArray := prog_2_method_5_code
def yX0_runForAnHour : MethodName := ⟨RX0, "runForAnHour", "()V"⟩
abbrev cX0_mend : ByteArray := prog_2_method_6_code
def yX0_mend : MethodName := ⟨RX0, "mend", "()V"⟩
abbrev cX0_afterAnHour : ByteArray := prog_2_method_7_code
def yX0_afterAnHour : MethodName := ⟨RX0, "afterAnHour", "(F)F"⟩
abbrev cX0_hoursUntilBelow : ByteArray := prog_2_method_9_code
def yX0_hoursUntilBelow : MethodName := ⟨RX0, "hoursUntilBelow", "(F)I"⟩
def RX1 : String := "TagWindows$Crew"
def TX1 : u_T := fun k => match k with
  | 0 => ("TagWindows$Crew", "people", "I", false)
  | _ => ("TagWindows$Crew", "skills", "I", false)
def tyX1 : Nat → FieldType := fun k => match k with
  | 0 => .int
  | _ => .int
abbrev wsX10 : List Cond := u_ws RX1 TX1 2
theorem nmX1 : ∀ a, a < 2 → ∀ b, b < 2 → a ≠ b → (TX1 a).2.1 ≠ (TX1 b).2.1 := by decide +kernel
theorem tyX1_ok : ∀ k, k < 2 → parseFieldDescriptor (TX1 k).2.2.1 = some (tyX1 k) := by decide +kernel
abbrev cX1_init : ByteArray := prog_3_method_1_code
def yX1_init : MethodName := ⟨RX1, "<init>", "()V"⟩
abbrev cX1_setUp : ByteArray := prog_3_method_2_code
def yX1_setUp : MethodName := ⟨RX1, "setUp", "(II)V"⟩
abbrev cX1_copyFrom : ByteArray := prog_3_method_3_code
def yX1_copyFrom : MethodName := ⟨RX1, "copyFrom", "(LTagWindows$Crew;)V"⟩
abbrev cX1_has : ByteArray := prog_3_method_4_code
def yX1_has : MethodName := ⟨RX1, "has", "(I)Z"⟩
def RX2 : String := "TagWindows$History"
def TX2 : u_T := fun k => match k with
  | 0 => ("TagWindows$History", "states", "[LTagWindows$Plant;", true)
  | 1 => ("TagWindows$History", "oldest", "I", false)
  | _ => ("TagWindows$History", "size", "I", false)
def tyX2 : Nat → FieldType := fun k => match k with
  | 0 => .array (.object "TagWindows$Plant")
  | 1 => .int
  | _ => .int
abbrev wsX20 : List Cond := u_ws RX2 TX2 3
theorem nmX2 : ∀ a, a < 3 → ∀ b, b < 3 → a ≠ b → (TX2 a).2.1 ≠ (TX2 b).2.1 := by decide +kernel
theorem tyX2_ok : ∀ k, k < 3 → parseFieldDescriptor (TX2 k).2.2.1 = some (tyX2 k) := by decide +kernel
abbrev cX2_init : ByteArray := prog_4_method_1_code
def yX2_init : MethodName := ⟨RX2, "<init>", "()V"⟩
abbrev cX2_add : ByteArray := prog_4_method_2_code
def yX2_add : MethodName := ⟨RX2, "add", "(LTagWindows$Plant;)V"⟩
abbrev cX2_takeBack : ByteArray := prog_4_method_3_code
def yX2_takeBack : MethodName := ⟨RX2, "takeBack", "(LTagWindows$Plant;)I"⟩
def RX3 : String := "TagWindows$Order"
def TX3 : u_T := fun k => match k with
  | 0 => ("TagWindows$Order", "verb", "C", false)
  | 1 => ("TagWindows$Order", "number", "I", false)
  | _ => ("TagWindows$Order", "crew", "I", false)
def tyX3 : Nat → FieldType := fun k => match k with
  | 0 => .char
  | 1 => .int
  | _ => .int
abbrev wsX30 : List Cond := u_ws RX3 TX3 3
theorem nmX3 : ∀ a, a < 3 → ∀ b, b < 3 → a ≠ b → (TX3 a).2.1 ≠ (TX3 b).2.1 := by decide +kernel
theorem tyX3_ok : ∀ k, k < 3 → parseFieldDescriptor (TX3 k).2.2.1 = some (tyX3 k) := by decide +kernel
abbrev cX3_init : ByteArray := prog_5_method_1_code
def yX3_init : MethodName := ⟨RX3, "<init>", "()V"⟩
def RX4 : String := "TagWindows$Orders"
def TX4 : u_T := fun k => match k with
  | 0 => ("TagWindows$Orders", "text", "[C", true)
  | 1 => ("TagWindows$Orders", "length", "I", false)
  | 2 => ("TagWindows$Orders", "rows", "[LTagWindows$Order;", true)
  | 3 => ("TagWindows$Orders", "count", "I", false)
  | _ => ("TagWindows$Orders", "at", "I", false)
def tyX4 : Nat → FieldType := fun k => match k with
  | 0 => .array .char
  | 1 => .int
  | 2 => .array (.object "TagWindows$Order")
  | 3 => .int
  | _ => .int
abbrev wsX40 : List Cond := u_ws RX4 TX4 5
theorem nmX4 : ∀ a, a < 5 → ∀ b, b < 5 → a ≠ b → (TX4 a).2.1 ≠ (TX4 b).2.1 := by decide +kernel
theorem tyX4_ok : ∀ k, k < 5 → parseFieldDescriptor (TX4 k).2.2.1 = some (tyX4 k) := by decide +kernel
abbrev cX4_init : ByteArray := prog_6_method_1_code
def yX4_init : MethodName := ⟨RX4, "<init>", "()V"⟩
def RX5 : String := "TagWindows$Plant"
def TX5 : u_T := fun k => match k with
  | 0 => ("TagWindows$Plant", "assets", "[LTagWindows$Asset;", true)
  | 1 => ("TagWindows$Plant", "crews", "[LTagWindows$Crew;", true)
  | 2 => ("TagWindows$Plant", "tasks", "[LTagWindows$Task;", true)
  | 3 => ("TagWindows$Plant", "bars", "[I", true)
  | 4 => ("TagWindows$Plant", "assetCount", "I", false)
  | 5 => ("TagWindows$Plant", "crewCount", "I", false)
  | 6 => ("TagWindows$Plant", "taskCount", "I", false)
  | _ => ("TagWindows$Plant", "hour", "I", false)
def tyX5 : Nat → FieldType := fun k => match k with
  | 0 => .array (.object "TagWindows$Asset")
  | 1 => .array (.object "TagWindows$Crew")
  | 2 => .array (.object "TagWindows$Task")
  | 3 => .array .int
  | 4 => .int
  | 5 => .int
  | 6 => .int
  | _ => .int
abbrev wsX50 : List Cond := u_ws RX5 TX5 8
theorem nmX5 : ∀ a, a < 8 → ∀ b, b < 8 → a ≠ b → (TX5 a).2.1 ≠ (TX5 b).2.1 := by decide +kernel
theorem tyX5_ok : ∀ k, k < 8 → parseFieldDescriptor (TX5 k).2.2.1 = some (tyX5 k) := by decide +kernel
abbrev cX5_init : ByteArray := prog_7_method_1_code
def yX5_init : MethodName := ⟨RX5, "<init>", "()V"⟩
abbrev cX5_copyFrom : ByteArray := prog_7_method_2_code
def yX5_copyFrom : MethodName := ⟨RX5, "copyFrom", "(LTagWindows$Plant;)V"⟩
abbrev cX5_hasAsset : ByteArray := prog_7_method_3_code
def yX5_hasAsset : MethodName := ⟨RX5, "hasAsset", "(I)Z"⟩
abbrev cX5_hasCrew : ByteArray := prog_7_method_4_code
def yX5_hasCrew : MethodName := ⟨RX5, "hasCrew", "(I)Z"⟩
abbrev cX5_hasTask : ByteArray := prog_7_method_5_code
def yX5_hasTask : MethodName := ⟨RX5, "hasTask", "(I)Z"⟩
abbrev cX5_newAsset : ByteArray := prog_7_method_6_code
def yX5_newAsset : MethodName := ⟨RX5, "newAsset", "(II)I"⟩
abbrev cX5_setLink : ByteArray := prog_7_method_7_code
def yX5_setLink : MethodName := ⟨RX5, "setLink", "(IIZ)I"⟩
abbrev cX5_setBar : ByteArray := prog_7_method_8_code
def yX5_setBar : MethodName := ⟨RX5, "setBar", "(IIZ)I"⟩
abbrev cX5_newCrew : ByteArray := prog_7_method_9_code
def yX5_newCrew : MethodName := ⟨RX5, "newCrew", "(II)I"⟩
abbrev cX5_newTask : ByteArray := prog_7_method_10_code
def yX5_newTask : MethodName := ⟨RX5, "newTask", "(IIIIII)I"⟩
abbrev cX5_startAsset : ByteArray := prog_7_method_11_code
def yX5_startAsset : MethodName := ⟨RX5, "startAsset", "(I)I"⟩
abbrev cX5_stopAsset : ByteArray := prog_7_method_12_code
def yX5_stopAsset : MethodName := ⟨RX5, "stopAsset", "(I)I"⟩
abbrev cX5_hangTag : ByteArray := prog_7_method_13_code
def yX5_hangTag : MethodName := ⟨RX5, "hangTag", "(II)I"⟩
abbrev cX5_beginTask : ByteArray := prog_7_method_14_code
def yX5_beginTask : MethodName := ⟨RX5, "beginTask", "(I)I"⟩
abbrev cX5_liftTag : ByteArray := prog_7_method_15_code
def yX5_liftTag : MethodName := ⟨RX5, "liftTag", "(II)I"⟩
abbrev cX5_cancelTask : ByteArray := prog_7_method_16_code
def yX5_cancelTask : MethodName := ⟨RX5, "cancelTask", "(I)I"⟩
abbrev cX5_passHours : ByteArray := prog_7_method_17_code
def yX5_passHours : MethodName := ⟨RX5, "passHours", "(I)I"⟩
abbrev cX5_runAssets : ByteArray := prog_7_method_18_code
def yX5_runAssets : MethodName := ⟨RX5, "runAssets", "()V"⟩
abbrev cX5_workOnTasks : ByteArray := prog_7_method_19_code
def yX5_workOnTasks : MethodName := ⟨RX5, "workOnTasks", "()I"⟩
abbrev cX5_mendAsset : ByteArray := prog_7_method_20_code
def yX5_mendAsset : MethodName := ⟨RX5, "mendAsset", "(I)V"⟩
abbrev cX5_slipTasks : ByteArray := prog_7_method_21_code
def yX5_slipTasks : MethodName := ⟨RX5, "slipTasks", "()V"⟩
abbrev cX5_reasonAgainst : ByteArray := prog_7_method_22_code
def yX5_reasonAgainst : MethodName := ⟨RX5, "reasonAgainst", "(I)I"⟩
abbrev cX5_barrierOf : ByteArray := prog_7_method_23_code
def yX5_barrierOf : MethodName := ⟨RX5, "barrierOf", "(I)I"⟩
abbrev cX5_doBar : ByteArray := prog_7_method_24_code
def yX5_doBar : MethodName := ⟨RX5, "doBar", "(II)Z"⟩
abbrev cX5_areNear : ByteArray := prog_7_method_25_code
def yX5_areNear : MethodName := ⟨RX5, "areNear", "(II)Z"⟩
abbrev cX5_isRunning : ByteArray := prog_7_method_26_code
def yX5_isRunning : MethodName := ⟨RX5, "isRunning", "(I)Z"⟩
abbrev cX5_canServe : ByteArray := prog_7_method_27_code
def yX5_canServe : MethodName := ⟨RX5, "canServe", "(ILTagWindows$Task;)Z"⟩
abbrev cX5_firstCrewFor : ByteArray := prog_7_method_28_code
def yX5_firstCrewFor : MethodName := ⟨RX5, "firstCrewFor", "(I)I"⟩
abbrev cX5_tagsHanging : ByteArray := prog_7_method_29_code
def yX5_tagsHanging : MethodName := ⟨RX5, "tagsHanging", "(I)I"⟩
abbrev cX5_taskOfTag : ByteArray := prog_7_method_30_code
def yX5_taskOfTag : MethodName := ⟨RX5, "taskOfTag", "(II)I"⟩
abbrev cX5_tasksOfAsset : ByteArray := prog_7_method_31_code
def yX5_tasksOfAsset : MethodName := ⟨RX5, "tasksOfAsset", "(III)I"⟩
abbrev cX5_tasksOfCrew : ByteArray := prog_7_method_32_code
def yX5_tasksOfCrew : MethodName := ⟨RX5, "tasksOfCrew", "(III)I"⟩
abbrev cX5_tasksIn : ByteArray := prog_7_method_33_code
def yX5_tasksIn : MethodName := ⟨RX5, "tasksIn", "(II)I"⟩
abbrev cX5_busyPeople : ByteArray := prog_7_method_34_code
def yX5_busyPeople : MethodName := ⟨RX5, "busyPeople", "(I)I"⟩
abbrev cX5_allBusyPeople : ByteArray := prog_7_method_35_code
def yX5_allBusyPeople : MethodName := ⟨RX5, "allBusyPeople", "()I"⟩
abbrev cX5_assetsRunning : ByteArray := prog_7_method_36_code
def yX5_assetsRunning : MethodName := ⟨RX5, "assetsRunning", "()I"⟩
abbrev cX5_slipsSoFar : ByteArray := prog_7_method_37_code
def yX5_slipsSoFar : MethodName := ⟨RX5, "slipsSoFar", "()I"⟩
def RX6 : String := "TagWindows$Task"
def TX6 : u_T := fun k => match k with
  | 0 => ("TagWindows$Task", "asset", "I", false)
  | 1 => ("TagWindows$Task", "skill", "I", false)
  | 2 => ("TagWindows$Task", "people", "I", false)
  | 3 => ("TagWindows$Task", "kind", "I", false)
  | 4 => ("TagWindows$Task", "hours", "I", false)
  | 5 => ("TagWindows$Task", "from", "I", false)
  | 6 => ("TagWindows$Task", "end", "I", false)
  | 7 => ("TagWindows$Task", "state", "I", false)
  | 8 => ("TagWindows$Task", "crew", "I", false)
  | 9 => ("TagWindows$Task", "left", "I", false)
  | 10 => ("TagWindows$Task", "slips", "I", false)
  | _ => ("TagWindows$Task", "height", "I", false)
def tyX6 : Nat → FieldType := fun k => match k with
  | 0 => .int
  | 1 => .int
  | 2 => .int
  | 3 => .int
  | 4 => .int
  | 5 => .int
  | 6 => .int
  | 7 => .int
  | 8 => .int
  | 9 => .int
  | 10 => .int
  | _ => .int
abbrev wsX60 : List Cond := u_ws RX6 TX6 12
theorem nmX6 : ∀ a, a < 12 → ∀ b, b < 12 → a ≠ b → (TX6 a).2.1 ≠ (TX6 b).2.1 := by decide +kernel
theorem tyX6_ok : ∀ k, k < 12 → parseFieldDescriptor (TX6 k).2.2.1 = some (tyX6 k) := by decide +kernel
abbrev cX6_init : ByteArray := prog_8_method_1_code
def yX6_init : MethodName := ⟨RX6, "<init>", "()V"⟩
abbrev cX6_setUp : ByteArray := prog_8_method_2_code
def yX6_setUp : MethodName := ⟨RX6, "setUp", "(IIIIII)V"⟩
abbrev cX6_copyFrom : ByteArray := prog_8_method_3_code
def yX6_copyFrom : MethodName := ⟨RX6, "copyFrom", "(LTagWindows$Task;)V"⟩
abbrev cX6_isIn : ByteArray := prog_8_method_4_code
def yX6_isIn : MethodName := ⟨RX6, "isIn", "(II)Z"⟩
abbrev cX6_tagHangs : ByteArray := prog_8_method_5_code
def yX6_tagHangs : MethodName := ⟨RX6, "tagHangs", "()Z"⟩
abbrev cX6_isTooLateAt : ByteArray := prog_8_method_6_code
def yX6_isTooLateAt : MethodName := ⟨RX6, "isTooLateAt", "(I)Z"⟩
abbrev cX6_slip : ByteArray := prog_8_method_7_code
def yX6_slip : MethodName := ⟨RX6, "slip", "()V"⟩
def RX7 : String := "TagWindows"
def TX7 : u_T := fun k => match k with
  | 0 => ("TagWindows", "now", "LTagWindows$Plant;", true)
  | 1 => ("TagWindows", "before", "LTagWindows$Plant;", true)
  | 2 => ("TagWindows", "kept", "LTagWindows$Plant;", true)
  | 3 => ("TagWindows", "hasKept", "Z", false)
  | 4 => ("TagWindows", "history", "LTagWindows$History;", true)
  | _ => ("TagWindows", "orders", "LTagWindows$Orders;", true)
def tyX7 : Nat → FieldType := fun k => match k with
  | 0 => .object "TagWindows$Plant"
  | 1 => .object "TagWindows$Plant"
  | 2 => .object "TagWindows$Plant"
  | 3 => .boolean
  | 4 => .object "TagWindows$History"
  | _ => .object "TagWindows$Orders"
abbrev wsX70 : List Cond := u_ws RX7 TX7 6
theorem nmX7 : ∀ a, a < 6 → ∀ b, b < 6 → a ≠ b → (TX7 a).2.1 ≠ (TX7 b).2.1 := by decide +kernel
theorem tyX7_ok : ∀ k, k < 6 → parseFieldDescriptor (TX7 k).2.2.1 = some (tyX7 k) := by decide +kernel
abbrev cX7_init : ByteArray := prog_1_method_1_code
def yX7_init : MethodName := ⟨RX7, "<init>", "()V"⟩
abbrev cX7_addAsset : ByteArray := prog_1_method_2_code
def yX7_addAsset : MethodName := ⟨RX7, "addAsset", "(II)I"⟩
abbrev cX7_link : ByteArray := prog_1_method_3_code
def yX7_link : MethodName := ⟨RX7, "link", "(IIZ)I"⟩
abbrev cX7_bar : ByteArray := prog_1_method_4_code
def yX7_bar : MethodName := ⟨RX7, "bar", "(IIZ)I"⟩
abbrev cX7_addCrew : ByteArray := prog_1_method_5_code
def yX7_addCrew : MethodName := ⟨RX7, "addCrew", "(II)I"⟩
abbrev cX7_addTask : ByteArray := prog_1_method_6_code
def yX7_addTask : MethodName := ⟨RX7, "addTask", "(IIIIII)I"⟩
abbrev cX7_run : ByteArray := prog_1_method_7_code
def yX7_run : MethodName := ⟨RX7, "run", "(I)I"⟩
abbrev cX7_stop : ByteArray := prog_1_method_8_code
def yX7_stop : MethodName := ⟨RX7, "stop", "(I)I"⟩
abbrev cX7_hang : ByteArray := prog_1_method_9_code
def yX7_hang : MethodName := ⟨RX7, "hang", "(II)I"⟩
abbrev cX7_begin : ByteArray := prog_1_method_10_code
def yX7_begin : MethodName := ⟨RX7, "begin", "(I)I"⟩
abbrev cX7_lift : ByteArray := prog_1_method_11_code
def yX7_lift : MethodName := ⟨RX7, "lift", "(II)I"⟩
abbrev cX7_cancel : ByteArray := prog_1_method_12_code
def yX7_cancel : MethodName := ⟨RX7, "cancel", "(I)I"⟩
abbrev cX7_pass : ByteArray := prog_1_method_13_code
def yX7_pass : MethodName := ⟨RX7, "pass", "(I)I"⟩
abbrev cX7_undo : ByteArray := prog_1_method_17_code
def yX7_undo : MethodName := ⟨RX7, "undo", "()I"⟩
abbrev cX7_keep : ByteArray := prog_1_method_18_code
def yX7_keep : MethodName := ⟨RX7, "keep", "()I"⟩
abbrev cX7_restore : ByteArray := prog_1_method_19_code
def yX7_restore : MethodName := ⟨RX7, "restore", "()I"⟩
abbrev cX7_real : ByteArray := prog_1_method_20_code
def yX7_real : MethodName := ⟨RX7, "real", "(II)F"⟩
abbrev cX7_hoursTo : ByteArray := prog_1_method_22_code
def yX7_hoursTo : MethodName := ⟨RX7, "hoursTo", "(II)I"⟩
abbrev cX7_asset : ByteArray := prog_1_method_23_code
def yX7_asset : MethodName := ⟨RX7, "asset", "(II)I"⟩
abbrev cX7_tagAt : ByteArray := prog_1_method_24_code
def yX7_tagAt : MethodName := ⟨RX7, "tagAt", "(II)I"⟩
abbrev cX7_crew : ByteArray := prog_1_method_25_code
def yX7_crew : MethodName := ⟨RX7, "crew", "(II)I"⟩
abbrev cX7_task : ByteArray := prog_1_method_26_code
def yX7_task : MethodName := ⟨RX7, "task", "(II)I"⟩
abbrev cX7_crewFor : ByteArray := prog_1_method_27_code
def yX7_crewFor : MethodName := ⟨RX7, "crewFor", "(I)I"⟩
abbrev cX7_count : ByteArray := prog_1_method_28_code
def yX7_count : MethodName := ⟨RX7, "count", "(I)I"⟩
abbrev cX7_recorded : ByteArray := prog_1_method_29_code
def yX7_recorded : MethodName := ⟨RX7, "recorded", "(I)I"⟩
abbrev cX7_within : ByteArray := prog_1_method_31_code
def yX7_within : MethodName := ⟨RX7, "within", "(III)Z"⟩
def RX8 : String := "TagWindowsModel"
def TX8 : u_T := fun k => match k with
  | _ => ("", "", "", false)
def tyX8 : Nat → FieldType := fun k => match k with
  | _ => .int
abbrev wsX80 : List Cond := u_ws RX8 TX8 0
theorem nmX8 : ∀ a, a < 0 → ∀ b, b < 0 → a ≠ b → (TX8 a).2.1 ≠ (TX8 b).2.1 := by decide +kernel
theorem tyX8_ok : ∀ k, k < 0 → parseFieldDescriptor (TX8 k).2.2.1 = some (tyX8 k) := by decide +kernel
def RJ6 : String := "java/lang/Integer"
def TJ6 : u_T := fun k => match k with
  | _ => ("", "", "", false)
def tyJ6 : Nat → FieldType := fun k => match k with
  | _ => .int
abbrev wsJ60 : List Cond := u_ws RJ6 TJ6 0
theorem nmJ6 : ∀ a, a < 0 → ∀ b, b < 0 → a ≠ b → (TJ6 a).2.1 ≠ (TJ6 b).2.1 := by decide +kernel
theorem tyJ6_ok : ∀ k, k < 0 → parseFieldDescriptor (TJ6 k).2.2.1 = some (tyJ6 k) := by decide +kernel
abbrev cJ6_bitCount_0f7a4 : ByteArray := prog_11_method_49_code
def yJ6_bitCount_0f7a4 : MethodName := ⟨RJ6, "bitCount", "(I)I"⟩
def RL : String := "TagWindowsLaw"
abbrev cL_cell : ByteArray := method_2_code
def yL_cell : MethodName := ⟨RL, "cell", "([II)I"⟩
abbrev cL_up : ByteArray := method_3_code
def yL_up : MethodName := ⟨RL, "up", "(II)I"⟩
abbrev cL_view : ByteArray := method_4_code
def yL_view : MethodName := ⟨RL, "view", "(LTagWindows;)J"⟩
abbrev cL_any : ByteArray := method_5_code
def yL_any : MethodName := ⟨RL, "any", "(LTagWindows;II)I"⟩
abbrev cL_setsUp : ByteArray := method_6_code
def yL_setsUp : MethodName := ⟨RL, "setsUp", "(LTagWindows;II)I"⟩
abbrev cL_turn : ByteArray := method_7_code
def yL_turn : MethodName := ⟨RL, "turn", "(LTagWindows;III)I"⟩
abbrev cL_isTask : ByteArray := method_8_code
def yL_isTask : MethodName := ⟨RL, "isTask", "(LTagWindows;I)Z"⟩
abbrev cL_isAsset : ByteArray := method_9_code
def yL_isAsset : MethodName := ⟨RL, "isAsset", "(LTagWindows;I)Z"⟩
abbrev cL_areRight : ByteArray := method_10_code
def yL_areRight : MethodName := ⟨RL, "areRight", "(LTagWindows;)Z"⟩
abbrev cL_isUndone : ByteArray := method_11_code
def yL_isUndone : MethodName := ⟨RL, "isUndone", "(LTagWindows;IIIIJ)Z"⟩
abbrev cL_isKept : ByteArray := method_12_code
def yL_isKept : MethodName := ⟨RL, "isKept", "(LTagWindows;II)Z"⟩
abbrev cL_law : ByteArray := code
def yL_law : MethodName := ⟨RL, "law", "([I)Z"⟩
abbrev vwCl : List vw_C := [(RX0, TX0, 6), (RX1, TX1, 2), (RX2, TX2, 3), (RX3, TX3, 3), (RX4, TX4, 5), (RX5, TX5, 8), (RX6, TX6, 12), (RX7, TX7, 6)]
theorem fl_good : Jvm.FP.Core.Good Jvm.FP.Core.b32 := Jvm.FP.Core.good_b32
end
section
theorem dX0_init_0 : decode cX0_init 0 = .ok (.aload_n 0, 1) := by decide +kernel
theorem dX0_init_1 : decode cX0_init 1 = .ok (.invokespecial 3, 3) := by decide +kernel
theorem dX0_init_4 : decode cX0_init 4 = .ok (.aload_n 0, 1) := by decide +kernel
theorem dX0_init_5 : decode cX0_init 5 = .ok (.iconst 0, 1) := by decide +kernel
theorem dX0_init_6 : decode cX0_init 6 = .ok (.putfield 9, 3) := by decide +kernel
theorem dX0_init_9 : decode cX0_init 9 = .ok (.aload_n 0, 1) := by decide +kernel
theorem dX0_init_10 : decode cX0_init 10 = .ok (.fconst 0, 1) := by decide +kernel
theorem dX0_init_11 : decode cX0_init 11 = .ok (.putfield 15, 3) := by decide +kernel
theorem dX0_init_14 : decode cX0_init 14 = .ok (.aload_n 0, 1) := by decide +kernel
theorem dX0_init_15 : decode cX0_init 15 = .ok (.fconst 1, 1) := by decide +kernel
theorem dX0_init_16 : decode cX0_init 16 = .ok (.putfield 19, 3) := by decide +kernel
theorem dX0_init_19 : decode cX0_init 19 = .ok (.aload_n 0, 1) := by decide +kernel
theorem dX0_init_20 : decode cX0_init 20 = .ok (.fconst 0, 1) := by decide +kernel
theorem dX0_init_21 : decode cX0_init 21 = .ok (.putfield 22, 3) := by decide +kernel
theorem dX0_init_24 : decode cX0_init 24 = .ok (.aload_n 0, 1) := by decide +kernel
theorem dX0_init_25 : decode cX0_init 25 = .ok (.iconst 0, 1) := by decide +kernel
theorem dX0_init_26 : decode cX0_init 26 = .ok (.putfield 25, 3) := by decide +kernel
theorem dX0_init_29 : decode cX0_init 29 = .ok (.aload_n 0, 1) := by decide +kernel
theorem dX0_init_30 : decode cX0_init 30 = .ok (.iconst 0, 1) := by decide +kernel
theorem dX0_init_31 : decode cX0_init 31 = .ok (.putfield 29, 3) := by decide +kernel
theorem dX0_init_34 : decode cX0_init 34 = .ok (.return_, 1) := by decide +kernel
theorem dX0_setUp_0 : decode cX0_setUp 0 = .ok (.aload_n 0, 1) := by decide +kernel
theorem dX0_setUp_1 : decode cX0_setUp 1 = .ok (.iload_n 1, 1) := by decide +kernel
theorem dX0_setUp_2 : decode cX0_setUp 2 = .ok (.putfield 9, 3) := by decide +kernel
theorem dX0_setUp_5 : decode cX0_setUp 5 = .ok (.aload_n 0, 1) := by decide +kernel
theorem dX0_setUp_6 : decode cX0_setUp 6 = .ok (.iload_n 2, 1) := by decide +kernel
theorem dX0_setUp_7 : decode cX0_setUp 7 = .ok (.i2f, 1) := by decide +kernel
theorem dX0_setUp_8 : decode cX0_setUp 8 = .ok (.ldc 32, 2) := by decide +kernel
theorem dX0_setUp_10 : decode cX0_setUp 10 = .ok (.fdiv, 1) := by decide +kernel
theorem dX0_setUp_11 : decode cX0_setUp 11 = .ok (.putfield 15, 3) := by decide +kernel
theorem dX0_setUp_14 : decode cX0_setUp 14 = .ok (.aload_n 0, 1) := by decide +kernel
theorem dX0_setUp_15 : decode cX0_setUp 15 = .ok (.fconst 1, 1) := by decide +kernel
theorem dX0_setUp_16 : decode cX0_setUp 16 = .ok (.putfield 19, 3) := by decide +kernel
theorem dX0_setUp_19 : decode cX0_setUp 19 = .ok (.aload_n 0, 1) := by decide +kernel
theorem dX0_setUp_20 : decode cX0_setUp 20 = .ok (.fconst 0, 1) := by decide +kernel
theorem dX0_setUp_21 : decode cX0_setUp 21 = .ok (.putfield 22, 3) := by decide +kernel
theorem dX0_setUp_24 : decode cX0_setUp 24 = .ok (.aload_n 0, 1) := by decide +kernel
theorem dX0_setUp_25 : decode cX0_setUp 25 = .ok (.iconst 0, 1) := by decide +kernel
theorem dX0_setUp_26 : decode cX0_setUp 26 = .ok (.putfield 25, 3) := by decide +kernel
theorem dX0_setUp_29 : decode cX0_setUp 29 = .ok (.aload_n 0, 1) := by decide +kernel
theorem dX0_setUp_30 : decode cX0_setUp 30 = .ok (.iconst 0, 1) := by decide +kernel
theorem dX0_setUp_31 : decode cX0_setUp 31 = .ok (.putfield 29, 3) := by decide +kernel
theorem dX0_setUp_34 : decode cX0_setUp 34 = .ok (.return_, 1) := by decide +kernel
theorem dX0_copyFrom_0 : decode cX0_copyFrom 0 = .ok (.aload_n 0, 1) := by decide +kernel
theorem dX0_copyFrom_1 : decode cX0_copyFrom 1 = .ok (.aload_n 1, 1) := by decide +kernel
theorem dX0_copyFrom_2 : decode cX0_copyFrom 2 = .ok (.getfield 9, 3) := by decide +kernel
theorem dX0_copyFrom_5 : decode cX0_copyFrom 5 = .ok (.putfield 9, 3) := by decide +kernel
theorem dX0_copyFrom_8 : decode cX0_copyFrom 8 = .ok (.aload_n 0, 1) := by decide +kernel
theorem dX0_copyFrom_9 : decode cX0_copyFrom 9 = .ok (.aload_n 1, 1) := by decide +kernel
theorem dX0_copyFrom_10 : decode cX0_copyFrom 10 = .ok (.getfield 15, 3) := by decide +kernel
theorem dX0_copyFrom_13 : decode cX0_copyFrom 13 = .ok (.putfield 15, 3) := by decide +kernel
theorem dX0_copyFrom_16 : decode cX0_copyFrom 16 = .ok (.aload_n 0, 1) := by decide +kernel
theorem dX0_copyFrom_17 : decode cX0_copyFrom 17 = .ok (.aload_n 1, 1) := by decide +kernel
theorem dX0_copyFrom_18 : decode cX0_copyFrom 18 = .ok (.getfield 19, 3) := by decide +kernel
theorem dX0_copyFrom_21 : decode cX0_copyFrom 21 = .ok (.putfield 19, 3) := by decide +kernel
theorem dX0_copyFrom_24 : decode cX0_copyFrom 24 = .ok (.aload_n 0, 1) := by decide +kernel
theorem dX0_copyFrom_25 : decode cX0_copyFrom 25 = .ok (.aload_n 1, 1) := by decide +kernel
theorem dX0_copyFrom_26 : decode cX0_copyFrom 26 = .ok (.getfield 22, 3) := by decide +kernel
theorem dX0_copyFrom_29 : decode cX0_copyFrom 29 = .ok (.putfield 22, 3) := by decide +kernel
theorem dX0_copyFrom_32 : decode cX0_copyFrom 32 = .ok (.aload_n 0, 1) := by decide +kernel
theorem dX0_copyFrom_33 : decode cX0_copyFrom 33 = .ok (.aload_n 1, 1) := by decide +kernel
theorem dX0_copyFrom_34 : decode cX0_copyFrom 34 = .ok (.getfield 25, 3) := by decide +kernel
theorem dX0_copyFrom_37 : decode cX0_copyFrom 37 = .ok (.putfield 25, 3) := by decide +kernel
theorem dX0_copyFrom_40 : decode cX0_copyFrom 40 = .ok (.aload_n 0, 1) := by decide +kernel
theorem dX0_copyFrom_41 : decode cX0_copyFrom 41 = .ok (.aload_n 1, 1) := by decide +kernel
theorem dX0_copyFrom_42 : decode cX0_copyFrom 42 = .ok (.getfield 29, 3) := by decide +kernel
theorem dX0_copyFrom_45 : decode cX0_copyFrom 45 = .ok (.putfield 29, 3) := by decide +kernel
theorem dX0_copyFrom_48 : decode cX0_copyFrom 48 = .ok (.return_, 1) := by decide +kernel
theorem dX0_isLinkedTo_0 : decode cX0_isLinkedTo 0 = .ok (.aload_n 0, 1) := by decide +kernel
theorem dX0_isLinkedTo_1 : decode cX0_isLinkedTo 1 = .ok (.getfield 29, 3) := by decide +kernel
theorem dX0_isLinkedTo_4 : decode cX0_isLinkedTo 4 = .ok (.iload_n 1, 1) := by decide +kernel
theorem dX0_isLinkedTo_5 : decode cX0_isLinkedTo 5 = .ok (.ishr, 1) := by decide +kernel
theorem dX0_isLinkedTo_6 : decode cX0_isLinkedTo 6 = .ok (.iconst 1, 1) := by decide +kernel
theorem dX0_isLinkedTo_7 : decode cX0_isLinkedTo 7 = .ok (.iand, 1) := by decide +kernel
theorem dX0_isLinkedTo_8 : decode cX0_isLinkedTo 8 = .ok (.iconst 1, 1) := by decide +kernel
theorem dX0_isLinkedTo_9 : decode cX0_isLinkedTo 9 = .ok (.if_icmp .ne 7, 3) := by decide +kernel
theorem dX0_isLinkedTo_12 : decode cX0_isLinkedTo 12 = .ok (.iconst 1, 1) := by decide +kernel
theorem dX0_isLinkedTo_13 : decode cX0_isLinkedTo 13 = .ok (.goto 4, 3) := by decide +kernel
theorem dX0_isLinkedTo_16 : decode cX0_isLinkedTo 16 = .ok (.iconst 0, 1) := by decide +kernel
theorem dX0_isLinkedTo_17 : decode cX0_isLinkedTo 17 = .ok (.ireturn, 1) := by decide +kernel
theorem dX0_runForAnHour_0 : decode cX0_runForAnHour 0 = .ok (.aload_n 0, 1) := by decide +kernel
theorem dX0_runForAnHour_1 : decode cX0_runForAnHour 1 = .ok (.aload_n 0, 1) := by decide +kernel
theorem dX0_runForAnHour_2 : decode cX0_runForAnHour 2 = .ok (.getfield 22, 3) := by decide +kernel
theorem dX0_runForAnHour_5 : decode cX0_runForAnHour 5 = .ok (.aload_n 0, 1) := by decide +kernel
theorem dX0_runForAnHour_6 : decode cX0_runForAnHour 6 = .ok (.getfield 9, 3) := by decide +kernel
theorem dX0_runForAnHour_9 : decode cX0_runForAnHour 9 = .ok (.i2f, 1) := by decide +kernel
theorem dX0_runForAnHour_10 : decode cX0_runForAnHour 10 = .ok (.aload_n 0, 1) := by decide +kernel
theorem dX0_runForAnHour_11 : decode cX0_runForAnHour 11 = .ok (.getfield 19, 3) := by decide +kernel
theorem dX0_runForAnHour_14 : decode cX0_runForAnHour 14 = .ok (.fmul, 1) := by decide +kernel
theorem dX0_runForAnHour_15 : decode cX0_runForAnHour 15 = .ok (.fadd, 1) := by decide +kernel
theorem dX0_runForAnHour_16 : decode cX0_runForAnHour 16 = .ok (.putfield 22, 3) := by decide +kernel
theorem dX0_runForAnHour_19 : decode cX0_runForAnHour 19 = .ok (.aload_n 0, 1) := by decide +kernel
theorem dX0_runForAnHour_20 : decode cX0_runForAnHour 20 = .ok (.aload_n 0, 1) := by decide +kernel
theorem dX0_runForAnHour_21 : decode cX0_runForAnHour 21 = .ok (.aload_n 0, 1) := by decide +kernel
theorem dX0_runForAnHour_22 : decode cX0_runForAnHour 22 = .ok (.getfield 19, 3) := by decide +kernel
theorem dX0_runForAnHour_25 : decode cX0_runForAnHour 25 = .ok (.invokevirtual 33, 3) := by decide +kernel
theorem dX0_runForAnHour_28 : decode cX0_runForAnHour 28 = .ok (.putfield 19, 3) := by decide +kernel
theorem dX0_runForAnHour_31 : decode cX0_runForAnHour 31 = .ok (.return_, 1) := by decide +kernel
theorem dX0_mend_0 : decode cX0_mend 0 = .ok (.aload_n 0, 1) := by decide +kernel
theorem dX0_mend_1 : decode cX0_mend 1 = .ok (.aload_n 0, 1) := by decide +kernel
theorem dX0_mend_2 : decode cX0_mend 2 = .ok (.getfield 19, 3) := by decide +kernel
theorem dX0_mend_5 : decode cX0_mend 5 = .ok (.fconst 1, 1) := by decide +kernel
theorem dX0_mend_6 : decode cX0_mend 6 = .ok (.aload_n 0, 1) := by decide +kernel
theorem dX0_mend_7 : decode cX0_mend 7 = .ok (.getfield 19, 3) := by decide +kernel
theorem dX0_mend_10 : decode cX0_mend 10 = .ok (.fsub, 1) := by decide +kernel
theorem dX0_mend_11 : decode cX0_mend 11 = .ok (.ldc 37, 2) := by decide +kernel
theorem dX0_mend_13 : decode cX0_mend 13 = .ok (.fmul, 1) := by decide +kernel
theorem dX0_mend_14 : decode cX0_mend 14 = .ok (.fadd, 1) := by decide +kernel
theorem dX0_mend_15 : decode cX0_mend 15 = .ok (.putfield 19, 3) := by decide +kernel
theorem dX0_mend_18 : decode cX0_mend 18 = .ok (.return_, 1) := by decide +kernel
theorem dX0_afterAnHour_0 : decode cX0_afterAnHour 0 = .ok (.fload_n 1, 1) := by decide +kernel
theorem dX0_afterAnHour_1 : decode cX0_afterAnHour 1 = .ok (.fload_n 1, 1) := by decide +kernel
theorem dX0_afterAnHour_2 : decode cX0_afterAnHour 2 = .ok (.aload_n 0, 1) := by decide +kernel
theorem dX0_afterAnHour_3 : decode cX0_afterAnHour 3 = .ok (.getfield 15, 3) := by decide +kernel
theorem dX0_afterAnHour_6 : decode cX0_afterAnHour 6 = .ok (.fmul, 1) := by decide +kernel
theorem dX0_afterAnHour_7 : decode cX0_afterAnHour 7 = .ok (.fsub, 1) := by decide +kernel
theorem dX0_afterAnHour_8 : decode cX0_afterAnHour 8 = .ok (.fstore_n 2, 1) := by decide +kernel
theorem dX0_afterAnHour_9 : decode cX0_afterAnHour 9 = .ok (.fload_n 2, 1) := by decide +kernel
theorem dX0_afterAnHour_10 : decode cX0_afterAnHour 10 = .ok (.ldc 38, 2) := by decide +kernel
theorem dX0_afterAnHour_12 : decode cX0_afterAnHour 12 = .ok (.fcmp .g, 1) := by decide +kernel
theorem dX0_afterAnHour_13 : decode cX0_afterAnHour 13 = .ok (.ifCond .ge 8, 3) := by decide +kernel
theorem dX0_afterAnHour_16 : decode cX0_afterAnHour 16 = .ok (.ldc 38, 2) := by decide +kernel
theorem dX0_afterAnHour_18 : decode cX0_afterAnHour 18 = .ok (.goto 4, 3) := by decide +kernel
theorem dX0_afterAnHour_21 : decode cX0_afterAnHour 21 = .ok (.fload_n 2, 1) := by decide +kernel
theorem dX0_afterAnHour_22 : decode cX0_afterAnHour 22 = .ok (.freturn, 1) := by decide +kernel
theorem dX0_hoursUntilBelow_0 : decode cX0_hoursUntilBelow 0 = .ok (.aload_n 0, 1) := by decide +kernel
theorem dX0_hoursUntilBelow_1 : decode cX0_hoursUntilBelow 1 = .ok (.getfield 19, 3) := by decide +kernel
theorem dX0_hoursUntilBelow_4 : decode cX0_hoursUntilBelow 4 = .ok (.fstore_n 2, 1) := by decide +kernel
theorem dX0_hoursUntilBelow_5 : decode cX0_hoursUntilBelow 5 = .ok (.iconst 0, 1) := by decide +kernel
theorem dX0_hoursUntilBelow_6 : decode cX0_hoursUntilBelow 6 = .ok (.istore_n 3, 1) := by decide +kernel
theorem dX0_hoursUntilBelow_7 : decode cX0_hoursUntilBelow 7 = .ok (.iload_n 3, 1) := by decide +kernel
theorem dX0_hoursUntilBelow_8 : decode cX0_hoursUntilBelow 8 = .ok (.sipush 200, 3) := by decide +kernel
theorem dX0_hoursUntilBelow_11 : decode cX0_hoursUntilBelow 11 = .ok (.if_icmp .gt 23, 3) := by decide +kernel
theorem dX0_hoursUntilBelow_14 : decode cX0_hoursUntilBelow 14 = .ok (.fload_n 2, 1) := by decide +kernel
theorem dX0_hoursUntilBelow_15 : decode cX0_hoursUntilBelow 15 = .ok (.fload_n 1, 1) := by decide +kernel
theorem dX0_hoursUntilBelow_16 : decode cX0_hoursUntilBelow 16 = .ok (.fcmp .g, 1) := by decide +kernel
theorem dX0_hoursUntilBelow_17 : decode cX0_hoursUntilBelow 17 = .ok (.ifCond .ge 5, 3) := by decide +kernel
theorem dX0_hoursUntilBelow_20 : decode cX0_hoursUntilBelow 20 = .ok (.iload_n 3, 1) := by decide +kernel
theorem dX0_hoursUntilBelow_21 : decode cX0_hoursUntilBelow 21 = .ok (.ireturn, 1) := by decide +kernel
theorem dX0_hoursUntilBelow_22 : decode cX0_hoursUntilBelow 22 = .ok (.aload_n 0, 1) := by decide +kernel
theorem dX0_hoursUntilBelow_23 : decode cX0_hoursUntilBelow 23 = .ok (.fload_n 2, 1) := by decide +kernel
theorem dX0_hoursUntilBelow_24 : decode cX0_hoursUntilBelow 24 = .ok (.invokevirtual 33, 3) := by decide +kernel
theorem dX0_hoursUntilBelow_27 : decode cX0_hoursUntilBelow 27 = .ok (.fstore_n 2, 1) := by decide +kernel
theorem dX0_hoursUntilBelow_28 : decode cX0_hoursUntilBelow 28 = .ok (.iinc 3 1, 3) := by decide +kernel
theorem dX0_hoursUntilBelow_31 : decode cX0_hoursUntilBelow 31 = .ok (.goto (-24), 3) := by decide +kernel
theorem dX0_hoursUntilBelow_34 : decode cX0_hoursUntilBelow 34 = .ok (.bipush (-5), 2) := by decide +kernel
theorem dX0_hoursUntilBelow_36 : decode cX0_hoursUntilBelow 36 = .ok (.ireturn, 1) := by decide +kernel
theorem dX1_init_0 : decode cX1_init 0 = .ok (.aload_n 0, 1) := by decide +kernel
theorem dX1_init_1 : decode cX1_init 1 = .ok (.invokespecial 1, 3) := by decide +kernel
theorem dX1_init_4 : decode cX1_init 4 = .ok (.aload_n 0, 1) := by decide +kernel
theorem dX1_init_5 : decode cX1_init 5 = .ok (.iconst 0, 1) := by decide +kernel
theorem dX1_init_6 : decode cX1_init 6 = .ok (.putfield 7, 3) := by decide +kernel
theorem dX1_init_9 : decode cX1_init 9 = .ok (.aload_n 0, 1) := by decide +kernel
theorem dX1_init_10 : decode cX1_init 10 = .ok (.iconst 0, 1) := by decide +kernel
theorem dX1_init_11 : decode cX1_init 11 = .ok (.putfield 13, 3) := by decide +kernel
theorem dX1_init_14 : decode cX1_init 14 = .ok (.return_, 1) := by decide +kernel
theorem dX1_setUp_0 : decode cX1_setUp 0 = .ok (.aload_n 0, 1) := by decide +kernel
theorem dX1_setUp_1 : decode cX1_setUp 1 = .ok (.iload_n 1, 1) := by decide +kernel
theorem dX1_setUp_2 : decode cX1_setUp 2 = .ok (.putfield 7, 3) := by decide +kernel
theorem dX1_setUp_5 : decode cX1_setUp 5 = .ok (.aload_n 0, 1) := by decide +kernel
theorem dX1_setUp_6 : decode cX1_setUp 6 = .ok (.iload_n 2, 1) := by decide +kernel
theorem dX1_setUp_7 : decode cX1_setUp 7 = .ok (.putfield 13, 3) := by decide +kernel
theorem dX1_setUp_10 : decode cX1_setUp 10 = .ok (.return_, 1) := by decide +kernel
theorem dX1_copyFrom_0 : decode cX1_copyFrom 0 = .ok (.aload_n 0, 1) := by decide +kernel
theorem dX1_copyFrom_1 : decode cX1_copyFrom 1 = .ok (.aload_n 1, 1) := by decide +kernel
theorem dX1_copyFrom_2 : decode cX1_copyFrom 2 = .ok (.getfield 7, 3) := by decide +kernel
theorem dX1_copyFrom_5 : decode cX1_copyFrom 5 = .ok (.putfield 7, 3) := by decide +kernel
theorem dX1_copyFrom_8 : decode cX1_copyFrom 8 = .ok (.aload_n 0, 1) := by decide +kernel
theorem dX1_copyFrom_9 : decode cX1_copyFrom 9 = .ok (.aload_n 1, 1) := by decide +kernel
theorem dX1_copyFrom_10 : decode cX1_copyFrom 10 = .ok (.getfield 13, 3) := by decide +kernel
theorem dX1_copyFrom_13 : decode cX1_copyFrom 13 = .ok (.putfield 13, 3) := by decide +kernel
theorem dX1_copyFrom_16 : decode cX1_copyFrom 16 = .ok (.return_, 1) := by decide +kernel
theorem dX1_has_0 : decode cX1_has 0 = .ok (.aload_n 0, 1) := by decide +kernel
theorem dX1_has_1 : decode cX1_has 1 = .ok (.getfield 13, 3) := by decide +kernel
theorem dX1_has_4 : decode cX1_has 4 = .ok (.iload_n 1, 1) := by decide +kernel
theorem dX1_has_5 : decode cX1_has 5 = .ok (.ishr, 1) := by decide +kernel
theorem dX1_has_6 : decode cX1_has 6 = .ok (.iconst 1, 1) := by decide +kernel
theorem dX1_has_7 : decode cX1_has 7 = .ok (.iand, 1) := by decide +kernel
theorem dX1_has_8 : decode cX1_has 8 = .ok (.iconst 1, 1) := by decide +kernel
theorem dX1_has_9 : decode cX1_has 9 = .ok (.if_icmp .ne 7, 3) := by decide +kernel
theorem dX1_has_12 : decode cX1_has 12 = .ok (.iconst 1, 1) := by decide +kernel
theorem dX1_has_13 : decode cX1_has 13 = .ok (.goto 4, 3) := by decide +kernel
theorem dX1_has_16 : decode cX1_has 16 = .ok (.iconst 0, 1) := by decide +kernel
theorem dX1_has_17 : decode cX1_has 17 = .ok (.ireturn, 1) := by decide +kernel
theorem dX2_init_0 : decode cX2_init 0 = .ok (.aload_n 0, 1) := by decide +kernel
theorem dX2_init_1 : decode cX2_init 1 = .ok (.invokespecial 3, 3) := by decide +kernel
theorem dX2_init_4 : decode cX2_init 4 = .ok (.aload_n 0, 1) := by decide +kernel
theorem dX2_init_5 : decode cX2_init 5 = .ok (.iconst 4, 1) := by decide +kernel
theorem dX2_init_6 : decode cX2_init 6 = .ok (.anewarray 9, 3) := by decide +kernel
theorem dX2_init_9 : decode cX2_init 9 = .ok (.putfield 11, 3) := by decide +kernel
theorem dX2_init_12 : decode cX2_init 12 = .ok (.aload_n 0, 1) := by decide +kernel
theorem dX2_init_13 : decode cX2_init 13 = .ok (.iconst 0, 1) := by decide +kernel
theorem dX2_init_14 : decode cX2_init 14 = .ok (.putfield 17, 3) := by decide +kernel
theorem dX2_init_17 : decode cX2_init 17 = .ok (.aload_n 0, 1) := by decide +kernel
theorem dX2_init_18 : decode cX2_init 18 = .ok (.iconst 0, 1) := by decide +kernel
theorem dX2_init_19 : decode cX2_init 19 = .ok (.putfield 21, 3) := by decide +kernel
theorem dX2_init_22 : decode cX2_init 22 = .ok (.iconst 0, 1) := by decide +kernel
theorem dX2_init_23 : decode cX2_init 23 = .ok (.istore_n 1, 1) := by decide +kernel
theorem dX2_init_24 : decode cX2_init 24 = .ok (.iload_n 1, 1) := by decide +kernel
theorem dX2_init_25 : decode cX2_init 25 = .ok (.aload_n 0, 1) := by decide +kernel
theorem dX2_init_26 : decode cX2_init 26 = .ok (.getfield 11, 3) := by decide +kernel
theorem dX2_init_29 : decode cX2_init 29 = .ok (.arraylength, 1) := by decide +kernel
theorem dX2_init_30 : decode cX2_init 30 = .ok (.if_icmp .ge 22, 3) := by decide +kernel
theorem dX2_init_33 : decode cX2_init 33 = .ok (.aload_n 0, 1) := by decide +kernel
theorem dX2_init_34 : decode cX2_init 34 = .ok (.getfield 11, 3) := by decide +kernel
theorem dX2_init_37 : decode cX2_init 37 = .ok (.iload_n 1, 1) := by decide +kernel
theorem dX2_init_38 : decode cX2_init 38 = .ok (.new 9, 3) := by decide +kernel
theorem dX2_init_41 : decode cX2_init 41 = .ok (.dup, 1) := by decide +kernel
theorem dX2_init_42 : decode cX2_init 42 = .ok (.invokespecial 24, 3) := by decide +kernel
theorem dX2_init_45 : decode cX2_init 45 = .ok (.aastore, 1) := by decide +kernel
theorem dX2_init_46 : decode cX2_init 46 = .ok (.iinc 1 1, 3) := by decide +kernel
theorem dX2_init_49 : decode cX2_init 49 = .ok (.goto (-25), 3) := by decide +kernel
theorem dX2_init_52 : decode cX2_init 52 = .ok (.return_, 1) := by decide +kernel
theorem dX2_add_0 : decode cX2_add 0 = .ok (.aload_n 0, 1) := by decide +kernel
theorem dX2_add_1 : decode cX2_add 1 = .ok (.getfield 11, 3) := by decide +kernel
theorem dX2_add_4 : decode cX2_add 4 = .ok (.aload_n 0, 1) := by decide +kernel
theorem dX2_add_5 : decode cX2_add 5 = .ok (.getfield 17, 3) := by decide +kernel
theorem dX2_add_8 : decode cX2_add 8 = .ok (.aload_n 0, 1) := by decide +kernel
theorem dX2_add_9 : decode cX2_add 9 = .ok (.getfield 21, 3) := by decide +kernel
theorem dX2_add_12 : decode cX2_add 12 = .ok (.iadd, 1) := by decide +kernel
theorem dX2_add_13 : decode cX2_add 13 = .ok (.iconst 4, 1) := by decide +kernel
theorem dX2_add_14 : decode cX2_add 14 = .ok (.irem, 1) := by decide +kernel
theorem dX2_add_15 : decode cX2_add 15 = .ok (.aaload, 1) := by decide +kernel
theorem dX2_add_16 : decode cX2_add 16 = .ok (.aload_n 1, 1) := by decide +kernel
theorem dX2_add_17 : decode cX2_add 17 = .ok (.invokevirtual 25, 3) := by decide +kernel
theorem dX2_add_20 : decode cX2_add 20 = .ok (.aload_n 0, 1) := by decide +kernel
theorem dX2_add_21 : decode cX2_add 21 = .ok (.getfield 21, 3) := by decide +kernel
theorem dX2_add_24 : decode cX2_add 24 = .ok (.iconst 4, 1) := by decide +kernel
theorem dX2_add_25 : decode cX2_add 25 = .ok (.if_icmp .ge 16, 3) := by decide +kernel
theorem dX2_add_28 : decode cX2_add 28 = .ok (.aload_n 0, 1) := by decide +kernel
theorem dX2_add_29 : decode cX2_add 29 = .ok (.dup, 1) := by decide +kernel
theorem dX2_add_30 : decode cX2_add 30 = .ok (.getfield 21, 3) := by decide +kernel
theorem dX2_add_33 : decode cX2_add 33 = .ok (.iconst 1, 1) := by decide +kernel
theorem dX2_add_34 : decode cX2_add 34 = .ok (.iadd, 1) := by decide +kernel
theorem dX2_add_35 : decode cX2_add 35 = .ok (.putfield 21, 3) := by decide +kernel
theorem dX2_add_38 : decode cX2_add 38 = .ok (.goto 15, 3) := by decide +kernel
theorem dX2_add_41 : decode cX2_add 41 = .ok (.aload_n 0, 1) := by decide +kernel
theorem dX2_add_42 : decode cX2_add 42 = .ok (.aload_n 0, 1) := by decide +kernel
theorem dX2_add_43 : decode cX2_add 43 = .ok (.getfield 17, 3) := by decide +kernel
theorem dX2_add_46 : decode cX2_add 46 = .ok (.iconst 1, 1) := by decide +kernel
theorem dX2_add_47 : decode cX2_add 47 = .ok (.iadd, 1) := by decide +kernel
theorem dX2_add_48 : decode cX2_add 48 = .ok (.iconst 4, 1) := by decide +kernel
theorem dX2_add_49 : decode cX2_add 49 = .ok (.irem, 1) := by decide +kernel
theorem dX2_add_50 : decode cX2_add 50 = .ok (.putfield 17, 3) := by decide +kernel
theorem dX2_add_53 : decode cX2_add 53 = .ok (.return_, 1) := by decide +kernel
theorem dX2_takeBack_0 : decode cX2_takeBack 0 = .ok (.aload_n 0, 1) := by decide +kernel
theorem dX2_takeBack_1 : decode cX2_takeBack 1 = .ok (.getfield 21, 3) := by decide +kernel
theorem dX2_takeBack_4 : decode cX2_takeBack 4 = .ok (.ifCond .gt 6, 3) := by decide +kernel
theorem dX2_takeBack_7 : decode cX2_takeBack 7 = .ok (.bipush (-5), 2) := by decide +kernel
theorem dX2_takeBack_9 : decode cX2_takeBack 9 = .ok (.ireturn, 1) := by decide +kernel
theorem dX2_takeBack_10 : decode cX2_takeBack 10 = .ok (.aload_n 0, 1) := by decide +kernel
theorem dX2_takeBack_11 : decode cX2_takeBack 11 = .ok (.dup, 1) := by decide +kernel
theorem dX2_takeBack_12 : decode cX2_takeBack 12 = .ok (.getfield 21, 3) := by decide +kernel
theorem dX2_takeBack_15 : decode cX2_takeBack 15 = .ok (.iconst 1, 1) := by decide +kernel
theorem dX2_takeBack_16 : decode cX2_takeBack 16 = .ok (.isub, 1) := by decide +kernel
theorem dX2_takeBack_17 : decode cX2_takeBack 17 = .ok (.putfield 21, 3) := by decide +kernel
theorem dX2_takeBack_20 : decode cX2_takeBack 20 = .ok (.aload_n 1, 1) := by decide +kernel
theorem dX2_takeBack_21 : decode cX2_takeBack 21 = .ok (.aload_n 0, 1) := by decide +kernel
theorem dX2_takeBack_22 : decode cX2_takeBack 22 = .ok (.getfield 11, 3) := by decide +kernel
theorem dX2_takeBack_25 : decode cX2_takeBack 25 = .ok (.aload_n 0, 1) := by decide +kernel
theorem dX2_takeBack_26 : decode cX2_takeBack 26 = .ok (.getfield 17, 3) := by decide +kernel
theorem dX2_takeBack_29 : decode cX2_takeBack 29 = .ok (.aload_n 0, 1) := by decide +kernel
theorem dX2_takeBack_30 : decode cX2_takeBack 30 = .ok (.getfield 21, 3) := by decide +kernel
theorem dX2_takeBack_33 : decode cX2_takeBack 33 = .ok (.iadd, 1) := by decide +kernel
theorem dX2_takeBack_34 : decode cX2_takeBack 34 = .ok (.iconst 4, 1) := by decide +kernel
theorem dX2_takeBack_35 : decode cX2_takeBack 35 = .ok (.irem, 1) := by decide +kernel
theorem dX2_takeBack_36 : decode cX2_takeBack 36 = .ok (.aaload, 1) := by decide +kernel
theorem dX2_takeBack_37 : decode cX2_takeBack 37 = .ok (.invokevirtual 25, 3) := by decide +kernel
theorem dX2_takeBack_40 : decode cX2_takeBack 40 = .ok (.aload_n 0, 1) := by decide +kernel
theorem dX2_takeBack_41 : decode cX2_takeBack 41 = .ok (.getfield 21, 3) := by decide +kernel
theorem dX2_takeBack_44 : decode cX2_takeBack 44 = .ok (.ireturn, 1) := by decide +kernel
theorem dX3_init_0 : decode cX3_init 0 = .ok (.aload_n 0, 1) := by decide +kernel
theorem dX3_init_1 : decode cX3_init 1 = .ok (.invokespecial 1, 3) := by decide +kernel
theorem dX3_init_4 : decode cX3_init 4 = .ok (.aload_n 0, 1) := by decide +kernel
theorem dX3_init_5 : decode cX3_init 5 = .ok (.bipush 112, 2) := by decide +kernel
theorem dX3_init_7 : decode cX3_init 7 = .ok (.putfield 7, 3) := by decide +kernel
theorem dX3_init_10 : decode cX3_init 10 = .ok (.aload_n 0, 1) := by decide +kernel
theorem dX3_init_11 : decode cX3_init 11 = .ok (.iconst 0, 1) := by decide +kernel
theorem dX3_init_12 : decode cX3_init 12 = .ok (.putfield 13, 3) := by decide +kernel
theorem dX3_init_15 : decode cX3_init 15 = .ok (.aload_n 0, 1) := by decide +kernel
theorem dX3_init_16 : decode cX3_init 16 = .ok (.iconst 0, 1) := by decide +kernel
theorem dX3_init_17 : decode cX3_init 17 = .ok (.putfield 17, 3) := by decide +kernel
theorem dX3_init_20 : decode cX3_init 20 = .ok (.return_, 1) := by decide +kernel
theorem dX4_init_0 : decode cX4_init 0 = .ok (.aload_n 0, 1) := by decide +kernel
theorem dX4_init_1 : decode cX4_init 1 = .ok (.invokespecial 3, 3) := by decide +kernel
theorem dX4_init_4 : decode cX4_init 4 = .ok (.aload_n 0, 1) := by decide +kernel
theorem dX4_init_5 : decode cX4_init 5 = .ok (.bipush 60, 2) := by decide +kernel
theorem dX4_init_7 : decode cX4_init 7 = .ok (.newarray .char, 2) := by decide +kernel
theorem dX4_init_9 : decode cX4_init 9 = .ok (.putfield 9, 3) := by decide +kernel
theorem dX4_init_12 : decode cX4_init 12 = .ok (.aload_n 0, 1) := by decide +kernel
theorem dX4_init_13 : decode cX4_init 13 = .ok (.iconst 0, 1) := by decide +kernel
theorem dX4_init_14 : decode cX4_init 14 = .ok (.putfield 15, 3) := by decide +kernel
theorem dX4_init_17 : decode cX4_init 17 = .ok (.aload_n 0, 1) := by decide +kernel
theorem dX4_init_18 : decode cX4_init 18 = .ok (.bipush 20, 2) := by decide +kernel
theorem dX4_init_20 : decode cX4_init 20 = .ok (.anewarray 19, 3) := by decide +kernel
theorem dX4_init_23 : decode cX4_init 23 = .ok (.putfield 21, 3) := by decide +kernel
theorem dX4_init_26 : decode cX4_init 26 = .ok (.aload_n 0, 1) := by decide +kernel
theorem dX4_init_27 : decode cX4_init 27 = .ok (.iconst 0, 1) := by decide +kernel
theorem dX4_init_28 : decode cX4_init 28 = .ok (.putfield 25, 3) := by decide +kernel
theorem dX4_init_31 : decode cX4_init 31 = .ok (.aload_n 0, 1) := by decide +kernel
theorem dX4_init_32 : decode cX4_init 32 = .ok (.iconst 0, 1) := by decide +kernel
theorem dX4_init_33 : decode cX4_init 33 = .ok (.putfield 28, 3) := by decide +kernel
theorem dX4_init_36 : decode cX4_init 36 = .ok (.iconst 0, 1) := by decide +kernel
theorem dX4_init_37 : decode cX4_init 37 = .ok (.istore_n 1, 1) := by decide +kernel
theorem dX4_init_38 : decode cX4_init 38 = .ok (.iload_n 1, 1) := by decide +kernel
theorem dX4_init_39 : decode cX4_init 39 = .ok (.aload_n 0, 1) := by decide +kernel
theorem dX4_init_40 : decode cX4_init 40 = .ok (.getfield 21, 3) := by decide +kernel
theorem dX4_init_43 : decode cX4_init 43 = .ok (.arraylength, 1) := by decide +kernel
theorem dX4_init_44 : decode cX4_init 44 = .ok (.if_icmp .ge 22, 3) := by decide +kernel
theorem dX4_init_47 : decode cX4_init 47 = .ok (.aload_n 0, 1) := by decide +kernel
theorem dX4_init_48 : decode cX4_init 48 = .ok (.getfield 21, 3) := by decide +kernel
theorem dX4_init_51 : decode cX4_init 51 = .ok (.iload_n 1, 1) := by decide +kernel
theorem dX4_init_52 : decode cX4_init 52 = .ok (.new 19, 3) := by decide +kernel
theorem dX4_init_55 : decode cX4_init 55 = .ok (.dup, 1) := by decide +kernel
theorem dX4_init_56 : decode cX4_init 56 = .ok (.invokespecial 31, 3) := by decide +kernel
theorem dX4_init_59 : decode cX4_init 59 = .ok (.aastore, 1) := by decide +kernel
theorem dX4_init_60 : decode cX4_init 60 = .ok (.iinc 1 1, 3) := by decide +kernel
theorem dX4_init_63 : decode cX4_init 63 = .ok (.goto (-25), 3) := by decide +kernel
theorem dX4_init_66 : decode cX4_init 66 = .ok (.return_, 1) := by decide +kernel
theorem dX5_init_0 : decode cX5_init 0 = .ok (.aload_n 0, 1) := by decide +kernel
theorem dX5_init_1 : decode cX5_init 1 = .ok (.invokespecial 3, 3) := by decide +kernel
theorem dX5_init_4 : decode cX5_init 4 = .ok (.aload_n 0, 1) := by decide +kernel
theorem dX5_init_5 : decode cX5_init 5 = .ok (.bipush 8, 2) := by decide +kernel
theorem dX5_init_7 : decode cX5_init 7 = .ok (.anewarray 9, 3) := by decide +kernel
theorem dX5_init_10 : decode cX5_init 10 = .ok (.putfield 11, 3) := by decide +kernel
theorem dX5_init_13 : decode cX5_init 13 = .ok (.aload_n 0, 1) := by decide +kernel
theorem dX5_init_14 : decode cX5_init 14 = .ok (.iconst 5, 1) := by decide +kernel
theorem dX5_init_15 : decode cX5_init 15 = .ok (.anewarray 17, 3) := by decide +kernel
theorem dX5_init_18 : decode cX5_init 18 = .ok (.putfield 19, 3) := by decide +kernel
theorem dX5_init_21 : decode cX5_init 21 = .ok (.aload_n 0, 1) := by decide +kernel
theorem dX5_init_22 : decode cX5_init 22 = .ok (.bipush 24, 2) := by decide +kernel
theorem dX5_init_24 : decode cX5_init 24 = .ok (.anewarray 23, 3) := by decide +kernel
theorem dX5_init_27 : decode cX5_init 27 = .ok (.putfield 25, 3) := by decide +kernel
theorem dX5_init_30 : decode cX5_init 30 = .ok (.aload_n 0, 1) := by decide +kernel
theorem dX5_init_31 : decode cX5_init 31 = .ok (.iconst 5, 1) := by decide +kernel
theorem dX5_init_32 : decode cX5_init 32 = .ok (.newarray .int, 2) := by decide +kernel
theorem dX5_init_34 : decode cX5_init 34 = .ok (.putfield 29, 3) := by decide +kernel
theorem dX5_init_37 : decode cX5_init 37 = .ok (.aload_n 0, 1) := by decide +kernel
theorem dX5_init_38 : decode cX5_init 38 = .ok (.iconst 0, 1) := by decide +kernel
theorem dX5_init_39 : decode cX5_init 39 = .ok (.putfield 33, 3) := by decide +kernel
theorem dX5_init_42 : decode cX5_init 42 = .ok (.aload_n 0, 1) := by decide +kernel
theorem dX5_init_43 : decode cX5_init 43 = .ok (.iconst 0, 1) := by decide +kernel
theorem dX5_init_44 : decode cX5_init 44 = .ok (.putfield 37, 3) := by decide +kernel
theorem dX5_init_47 : decode cX5_init 47 = .ok (.aload_n 0, 1) := by decide +kernel
theorem dX5_init_48 : decode cX5_init 48 = .ok (.iconst 0, 1) := by decide +kernel
theorem dX5_init_49 : decode cX5_init 49 = .ok (.putfield 40, 3) := by decide +kernel
theorem dX5_init_52 : decode cX5_init 52 = .ok (.aload_n 0, 1) := by decide +kernel
theorem dX5_init_53 : decode cX5_init 53 = .ok (.iconst 0, 1) := by decide +kernel
theorem dX5_init_54 : decode cX5_init 54 = .ok (.putfield 43, 3) := by decide +kernel
theorem dX5_init_57 : decode cX5_init 57 = .ok (.iconst 0, 1) := by decide +kernel
theorem dX5_init_58 : decode cX5_init 58 = .ok (.istore_n 1, 1) := by decide +kernel
theorem dX5_init_59 : decode cX5_init 59 = .ok (.iload_n 1, 1) := by decide +kernel
theorem dX5_init_60 : decode cX5_init 60 = .ok (.aload_n 0, 1) := by decide +kernel
theorem dX5_init_61 : decode cX5_init 61 = .ok (.getfield 11, 3) := by decide +kernel
theorem dX5_init_64 : decode cX5_init 64 = .ok (.arraylength, 1) := by decide +kernel
theorem dX5_init_65 : decode cX5_init 65 = .ok (.if_icmp .ge 22, 3) := by decide +kernel
theorem dX5_init_68 : decode cX5_init 68 = .ok (.aload_n 0, 1) := by decide +kernel
theorem dX5_init_69 : decode cX5_init 69 = .ok (.getfield 11, 3) := by decide +kernel
theorem dX5_init_72 : decode cX5_init 72 = .ok (.iload_n 1, 1) := by decide +kernel
theorem dX5_init_73 : decode cX5_init 73 = .ok (.new 9, 3) := by decide +kernel
theorem dX5_init_76 : decode cX5_init 76 = .ok (.dup, 1) := by decide +kernel
theorem dX5_init_77 : decode cX5_init 77 = .ok (.invokespecial 46, 3) := by decide +kernel
theorem dX5_init_80 : decode cX5_init 80 = .ok (.aastore, 1) := by decide +kernel
theorem dX5_init_81 : decode cX5_init 81 = .ok (.iinc 1 1, 3) := by decide +kernel
theorem dX5_init_84 : decode cX5_init 84 = .ok (.goto (-25), 3) := by decide +kernel
theorem dX5_init_87 : decode cX5_init 87 = .ok (.iconst 0, 1) := by decide +kernel
theorem dX5_init_88 : decode cX5_init 88 = .ok (.istore_n 1, 1) := by decide +kernel
theorem dX5_init_89 : decode cX5_init 89 = .ok (.iload_n 1, 1) := by decide +kernel
theorem dX5_init_90 : decode cX5_init 90 = .ok (.aload_n 0, 1) := by decide +kernel
theorem dX5_init_91 : decode cX5_init 91 = .ok (.getfield 19, 3) := by decide +kernel
theorem dX5_init_94 : decode cX5_init 94 = .ok (.arraylength, 1) := by decide +kernel
theorem dX5_init_95 : decode cX5_init 95 = .ok (.if_icmp .ge 22, 3) := by decide +kernel
theorem dX5_init_98 : decode cX5_init 98 = .ok (.aload_n 0, 1) := by decide +kernel
theorem dX5_init_99 : decode cX5_init 99 = .ok (.getfield 19, 3) := by decide +kernel
theorem dX5_init_102 : decode cX5_init 102 = .ok (.iload_n 1, 1) := by decide +kernel
theorem dX5_init_103 : decode cX5_init 103 = .ok (.new 17, 3) := by decide +kernel
theorem dX5_init_106 : decode cX5_init 106 = .ok (.dup, 1) := by decide +kernel
theorem dX5_init_107 : decode cX5_init 107 = .ok (.invokespecial 47, 3) := by decide +kernel
theorem dX5_init_110 : decode cX5_init 110 = .ok (.aastore, 1) := by decide +kernel
theorem dX5_init_111 : decode cX5_init 111 = .ok (.iinc 1 1, 3) := by decide +kernel
theorem dX5_init_114 : decode cX5_init 114 = .ok (.goto (-25), 3) := by decide +kernel
theorem dX5_init_117 : decode cX5_init 117 = .ok (.iconst 0, 1) := by decide +kernel
theorem dX5_init_118 : decode cX5_init 118 = .ok (.istore_n 1, 1) := by decide +kernel
theorem dX5_init_119 : decode cX5_init 119 = .ok (.iload_n 1, 1) := by decide +kernel
theorem dX5_init_120 : decode cX5_init 120 = .ok (.aload_n 0, 1) := by decide +kernel
theorem dX5_init_121 : decode cX5_init 121 = .ok (.getfield 25, 3) := by decide +kernel
theorem dX5_init_124 : decode cX5_init 124 = .ok (.arraylength, 1) := by decide +kernel
theorem dX5_init_125 : decode cX5_init 125 = .ok (.if_icmp .ge 22, 3) := by decide +kernel
theorem dX5_init_128 : decode cX5_init 128 = .ok (.aload_n 0, 1) := by decide +kernel
theorem dX5_init_129 : decode cX5_init 129 = .ok (.getfield 25, 3) := by decide +kernel
theorem dX5_init_132 : decode cX5_init 132 = .ok (.iload_n 1, 1) := by decide +kernel
theorem dX5_init_133 : decode cX5_init 133 = .ok (.new 23, 3) := by decide +kernel
theorem dX5_init_136 : decode cX5_init 136 = .ok (.dup, 1) := by decide +kernel
theorem dX5_init_137 : decode cX5_init 137 = .ok (.invokespecial 48, 3) := by decide +kernel
theorem dX5_init_140 : decode cX5_init 140 = .ok (.aastore, 1) := by decide +kernel
theorem dX5_init_141 : decode cX5_init 141 = .ok (.iinc 1 1, 3) := by decide +kernel
theorem dX5_init_144 : decode cX5_init 144 = .ok (.goto (-25), 3) := by decide +kernel
theorem dX5_init_147 : decode cX5_init 147 = .ok (.return_, 1) := by decide +kernel
theorem dX5_copyFrom_0 : decode cX5_copyFrom 0 = .ok (.iconst 0, 1) := by decide +kernel
theorem dX5_copyFrom_1 : decode cX5_copyFrom 1 = .ok (.istore_n 2, 1) := by decide +kernel
theorem dX5_copyFrom_2 : decode cX5_copyFrom 2 = .ok (.iload_n 2, 1) := by decide +kernel
theorem dX5_copyFrom_3 : decode cX5_copyFrom 3 = .ok (.aload_n 0, 1) := by decide +kernel
theorem dX5_copyFrom_4 : decode cX5_copyFrom 4 = .ok (.getfield 11, 3) := by decide +kernel
theorem dX5_copyFrom_7 : decode cX5_copyFrom 7 = .ok (.arraylength, 1) := by decide +kernel
theorem dX5_copyFrom_8 : decode cX5_copyFrom 8 = .ok (.if_icmp .ge 24, 3) := by decide +kernel
theorem dX5_copyFrom_11 : decode cX5_copyFrom 11 = .ok (.aload_n 0, 1) := by decide +kernel
theorem dX5_copyFrom_12 : decode cX5_copyFrom 12 = .ok (.getfield 11, 3) := by decide +kernel
theorem dX5_copyFrom_15 : decode cX5_copyFrom 15 = .ok (.iload_n 2, 1) := by decide +kernel
theorem dX5_copyFrom_16 : decode cX5_copyFrom 16 = .ok (.aaload, 1) := by decide +kernel
theorem dX5_copyFrom_17 : decode cX5_copyFrom 17 = .ok (.aload_n 1, 1) := by decide +kernel
theorem dX5_copyFrom_18 : decode cX5_copyFrom 18 = .ok (.getfield 11, 3) := by decide +kernel
theorem dX5_copyFrom_21 : decode cX5_copyFrom 21 = .ok (.iload_n 2, 1) := by decide +kernel
theorem dX5_copyFrom_22 : decode cX5_copyFrom 22 = .ok (.aaload, 1) := by decide +kernel
theorem dX5_copyFrom_23 : decode cX5_copyFrom 23 = .ok (.invokevirtual 49, 3) := by decide +kernel
theorem dX5_copyFrom_26 : decode cX5_copyFrom 26 = .ok (.iinc 2 1, 3) := by decide +kernel
theorem dX5_copyFrom_29 : decode cX5_copyFrom 29 = .ok (.goto (-27), 3) := by decide +kernel
theorem dX5_copyFrom_32 : decode cX5_copyFrom 32 = .ok (.iconst 0, 1) := by decide +kernel
theorem dX5_copyFrom_33 : decode cX5_copyFrom 33 = .ok (.istore_n 2, 1) := by decide +kernel
theorem dX5_copyFrom_34 : decode cX5_copyFrom 34 = .ok (.iload_n 2, 1) := by decide +kernel
theorem dX5_copyFrom_35 : decode cX5_copyFrom 35 = .ok (.aload_n 0, 1) := by decide +kernel
theorem dX5_copyFrom_36 : decode cX5_copyFrom 36 = .ok (.getfield 19, 3) := by decide +kernel
theorem dX5_copyFrom_39 : decode cX5_copyFrom 39 = .ok (.arraylength, 1) := by decide +kernel
theorem dX5_copyFrom_40 : decode cX5_copyFrom 40 = .ok (.if_icmp .ge 24, 3) := by decide +kernel
theorem dX5_copyFrom_43 : decode cX5_copyFrom 43 = .ok (.aload_n 0, 1) := by decide +kernel
theorem dX5_copyFrom_44 : decode cX5_copyFrom 44 = .ok (.getfield 19, 3) := by decide +kernel
theorem dX5_copyFrom_47 : decode cX5_copyFrom 47 = .ok (.iload_n 2, 1) := by decide +kernel
theorem dX5_copyFrom_48 : decode cX5_copyFrom 48 = .ok (.aaload, 1) := by decide +kernel
theorem dX5_copyFrom_49 : decode cX5_copyFrom 49 = .ok (.aload_n 1, 1) := by decide +kernel
theorem dX5_copyFrom_50 : decode cX5_copyFrom 50 = .ok (.getfield 19, 3) := by decide +kernel
theorem dX5_copyFrom_53 : decode cX5_copyFrom 53 = .ok (.iload_n 2, 1) := by decide +kernel
theorem dX5_copyFrom_54 : decode cX5_copyFrom 54 = .ok (.aaload, 1) := by decide +kernel
theorem dX5_copyFrom_55 : decode cX5_copyFrom 55 = .ok (.invokevirtual 53, 3) := by decide +kernel
theorem dX5_copyFrom_58 : decode cX5_copyFrom 58 = .ok (.iinc 2 1, 3) := by decide +kernel
theorem dX5_copyFrom_61 : decode cX5_copyFrom 61 = .ok (.goto (-27), 3) := by decide +kernel
theorem dX5_copyFrom_64 : decode cX5_copyFrom 64 = .ok (.iconst 0, 1) := by decide +kernel
theorem dX5_copyFrom_65 : decode cX5_copyFrom 65 = .ok (.istore_n 2, 1) := by decide +kernel
theorem dX5_copyFrom_66 : decode cX5_copyFrom 66 = .ok (.iload_n 2, 1) := by decide +kernel
theorem dX5_copyFrom_67 : decode cX5_copyFrom 67 = .ok (.aload_n 0, 1) := by decide +kernel
theorem dX5_copyFrom_68 : decode cX5_copyFrom 68 = .ok (.getfield 25, 3) := by decide +kernel
theorem dX5_copyFrom_71 : decode cX5_copyFrom 71 = .ok (.arraylength, 1) := by decide +kernel
theorem dX5_copyFrom_72 : decode cX5_copyFrom 72 = .ok (.if_icmp .ge 24, 3) := by decide +kernel
theorem dX5_copyFrom_75 : decode cX5_copyFrom 75 = .ok (.aload_n 0, 1) := by decide +kernel
theorem dX5_copyFrom_76 : decode cX5_copyFrom 76 = .ok (.getfield 25, 3) := by decide +kernel
theorem dX5_copyFrom_79 : decode cX5_copyFrom 79 = .ok (.iload_n 2, 1) := by decide +kernel
theorem dX5_copyFrom_80 : decode cX5_copyFrom 80 = .ok (.aaload, 1) := by decide +kernel
theorem dX5_copyFrom_81 : decode cX5_copyFrom 81 = .ok (.aload_n 1, 1) := by decide +kernel
theorem dX5_copyFrom_82 : decode cX5_copyFrom 82 = .ok (.getfield 25, 3) := by decide +kernel
theorem dX5_copyFrom_85 : decode cX5_copyFrom 85 = .ok (.iload_n 2, 1) := by decide +kernel
theorem dX5_copyFrom_86 : decode cX5_copyFrom 86 = .ok (.aaload, 1) := by decide +kernel
theorem dX5_copyFrom_87 : decode cX5_copyFrom 87 = .ok (.invokevirtual 56, 3) := by decide +kernel
theorem dX5_copyFrom_90 : decode cX5_copyFrom 90 = .ok (.iinc 2 1, 3) := by decide +kernel
theorem dX5_copyFrom_93 : decode cX5_copyFrom 93 = .ok (.goto (-27), 3) := by decide +kernel
theorem dX5_copyFrom_96 : decode cX5_copyFrom 96 = .ok (.iconst 0, 1) := by decide +kernel
theorem dX5_copyFrom_97 : decode cX5_copyFrom 97 = .ok (.istore_n 2, 1) := by decide +kernel
theorem dX5_copyFrom_98 : decode cX5_copyFrom 98 = .ok (.iload_n 2, 1) := by decide +kernel
theorem dX5_copyFrom_99 : decode cX5_copyFrom 99 = .ok (.aload_n 0, 1) := by decide +kernel
theorem dX5_copyFrom_100 : decode cX5_copyFrom 100 = .ok (.getfield 29, 3) := by decide +kernel
theorem dX5_copyFrom_103 : decode cX5_copyFrom 103 = .ok (.arraylength, 1) := by decide +kernel
theorem dX5_copyFrom_104 : decode cX5_copyFrom 104 = .ok (.if_icmp .ge 21, 3) := by decide +kernel
theorem dX5_copyFrom_107 : decode cX5_copyFrom 107 = .ok (.aload_n 0, 1) := by decide +kernel
theorem dX5_copyFrom_108 : decode cX5_copyFrom 108 = .ok (.getfield 29, 3) := by decide +kernel
theorem dX5_copyFrom_111 : decode cX5_copyFrom 111 = .ok (.iload_n 2, 1) := by decide +kernel
theorem dX5_copyFrom_112 : decode cX5_copyFrom 112 = .ok (.aload_n 1, 1) := by decide +kernel
theorem dX5_copyFrom_113 : decode cX5_copyFrom 113 = .ok (.getfield 29, 3) := by decide +kernel
theorem dX5_copyFrom_116 : decode cX5_copyFrom 116 = .ok (.iload_n 2, 1) := by decide +kernel
theorem dX5_copyFrom_117 : decode cX5_copyFrom 117 = .ok (.iaload, 1) := by decide +kernel
theorem dX5_copyFrom_118 : decode cX5_copyFrom 118 = .ok (.iastore, 1) := by decide +kernel
theorem dX5_copyFrom_119 : decode cX5_copyFrom 119 = .ok (.iinc 2 1, 3) := by decide +kernel
theorem dX5_copyFrom_122 : decode cX5_copyFrom 122 = .ok (.goto (-24), 3) := by decide +kernel
theorem dX5_copyFrom_125 : decode cX5_copyFrom 125 = .ok (.aload_n 0, 1) := by decide +kernel
theorem dX5_copyFrom_126 : decode cX5_copyFrom 126 = .ok (.aload_n 1, 1) := by decide +kernel
theorem dX5_copyFrom_127 : decode cX5_copyFrom 127 = .ok (.getfield 33, 3) := by decide +kernel
theorem dX5_copyFrom_130 : decode cX5_copyFrom 130 = .ok (.putfield 33, 3) := by decide +kernel
theorem dX5_copyFrom_133 : decode cX5_copyFrom 133 = .ok (.aload_n 0, 1) := by decide +kernel
theorem dX5_copyFrom_134 : decode cX5_copyFrom 134 = .ok (.aload_n 1, 1) := by decide +kernel
theorem dX5_copyFrom_135 : decode cX5_copyFrom 135 = .ok (.getfield 37, 3) := by decide +kernel
theorem dX5_copyFrom_138 : decode cX5_copyFrom 138 = .ok (.putfield 37, 3) := by decide +kernel
theorem dX5_copyFrom_141 : decode cX5_copyFrom 141 = .ok (.aload_n 0, 1) := by decide +kernel
theorem dX5_copyFrom_142 : decode cX5_copyFrom 142 = .ok (.aload_n 1, 1) := by decide +kernel
theorem dX5_copyFrom_143 : decode cX5_copyFrom 143 = .ok (.getfield 40, 3) := by decide +kernel
theorem dX5_copyFrom_146 : decode cX5_copyFrom 146 = .ok (.putfield 40, 3) := by decide +kernel
theorem dX5_copyFrom_149 : decode cX5_copyFrom 149 = .ok (.aload_n 0, 1) := by decide +kernel
theorem dX5_copyFrom_150 : decode cX5_copyFrom 150 = .ok (.aload_n 1, 1) := by decide +kernel
theorem dX5_copyFrom_151 : decode cX5_copyFrom 151 = .ok (.getfield 43, 3) := by decide +kernel
theorem dX5_copyFrom_154 : decode cX5_copyFrom 154 = .ok (.putfield 43, 3) := by decide +kernel
theorem dX5_copyFrom_157 : decode cX5_copyFrom 157 = .ok (.return_, 1) := by decide +kernel
theorem dX5_hasAsset_0 : decode cX5_hasAsset 0 = .ok (.iload_n 1, 1) := by decide +kernel
theorem dX5_hasAsset_1 : decode cX5_hasAsset 1 = .ok (.ifCond .lt 15, 3) := by decide +kernel
theorem dX5_hasAsset_4 : decode cX5_hasAsset 4 = .ok (.iload_n 1, 1) := by decide +kernel
theorem dX5_hasAsset_5 : decode cX5_hasAsset 5 = .ok (.aload_n 0, 1) := by decide +kernel
theorem dX5_hasAsset_6 : decode cX5_hasAsset 6 = .ok (.getfield 33, 3) := by decide +kernel
theorem dX5_hasAsset_9 : decode cX5_hasAsset 9 = .ok (.if_icmp .ge 7, 3) := by decide +kernel
theorem dX5_hasAsset_12 : decode cX5_hasAsset 12 = .ok (.iconst 1, 1) := by decide +kernel
theorem dX5_hasAsset_13 : decode cX5_hasAsset 13 = .ok (.goto 4, 3) := by decide +kernel
theorem dX5_hasAsset_16 : decode cX5_hasAsset 16 = .ok (.iconst 0, 1) := by decide +kernel
theorem dX5_hasAsset_17 : decode cX5_hasAsset 17 = .ok (.ireturn, 1) := by decide +kernel
theorem dX5_hasCrew_0 : decode cX5_hasCrew 0 = .ok (.iload_n 1, 1) := by decide +kernel
theorem dX5_hasCrew_1 : decode cX5_hasCrew 1 = .ok (.ifCond .lt 15, 3) := by decide +kernel
theorem dX5_hasCrew_4 : decode cX5_hasCrew 4 = .ok (.iload_n 1, 1) := by decide +kernel
theorem dX5_hasCrew_5 : decode cX5_hasCrew 5 = .ok (.aload_n 0, 1) := by decide +kernel
theorem dX5_hasCrew_6 : decode cX5_hasCrew 6 = .ok (.getfield 37, 3) := by decide +kernel
theorem dX5_hasCrew_9 : decode cX5_hasCrew 9 = .ok (.if_icmp .ge 7, 3) := by decide +kernel
theorem dX5_hasCrew_12 : decode cX5_hasCrew 12 = .ok (.iconst 1, 1) := by decide +kernel
theorem dX5_hasCrew_13 : decode cX5_hasCrew 13 = .ok (.goto 4, 3) := by decide +kernel
theorem dX5_hasCrew_16 : decode cX5_hasCrew 16 = .ok (.iconst 0, 1) := by decide +kernel
theorem dX5_hasCrew_17 : decode cX5_hasCrew 17 = .ok (.ireturn, 1) := by decide +kernel
theorem dX5_hasTask_0 : decode cX5_hasTask 0 = .ok (.iload_n 1, 1) := by decide +kernel
theorem dX5_hasTask_1 : decode cX5_hasTask 1 = .ok (.ifCond .lt 15, 3) := by decide +kernel
theorem dX5_hasTask_4 : decode cX5_hasTask 4 = .ok (.iload_n 1, 1) := by decide +kernel
theorem dX5_hasTask_5 : decode cX5_hasTask 5 = .ok (.aload_n 0, 1) := by decide +kernel
theorem dX5_hasTask_6 : decode cX5_hasTask 6 = .ok (.getfield 40, 3) := by decide +kernel
theorem dX5_hasTask_9 : decode cX5_hasTask 9 = .ok (.if_icmp .ge 7, 3) := by decide +kernel
theorem dX5_hasTask_12 : decode cX5_hasTask 12 = .ok (.iconst 1, 1) := by decide +kernel
theorem dX5_hasTask_13 : decode cX5_hasTask 13 = .ok (.goto 4, 3) := by decide +kernel
theorem dX5_hasTask_16 : decode cX5_hasTask 16 = .ok (.iconst 0, 1) := by decide +kernel
theorem dX5_hasTask_17 : decode cX5_hasTask 17 = .ok (.ireturn, 1) := by decide +kernel
theorem dX5_newAsset_0 : decode cX5_newAsset 0 = .ok (.iload_n 1, 1) := by decide +kernel
theorem dX5_newAsset_1 : decode cX5_newAsset 1 = .ok (.iconst 1, 1) := by decide +kernel
theorem dX5_newAsset_2 : decode cX5_newAsset 2 = .ok (.bipush 100, 2) := by decide +kernel
theorem dX5_newAsset_4 : decode cX5_newAsset 4 = .ok (.invokestatic 59, 3) := by decide +kernel
theorem dX5_newAsset_7 : decode cX5_newAsset 7 = .ok (.ifCond .eq 14, 3) := by decide +kernel
theorem dX5_newAsset_10 : decode cX5_newAsset 10 = .ok (.iload_n 2, 1) := by decide +kernel
theorem dX5_newAsset_11 : decode cX5_newAsset 11 = .ok (.iconst 1, 1) := by decide +kernel
theorem dX5_newAsset_12 : decode cX5_newAsset 12 = .ok (.sipush 200, 3) := by decide +kernel
theorem dX5_newAsset_15 : decode cX5_newAsset 15 = .ok (.invokestatic 59, 3) := by decide +kernel
theorem dX5_newAsset_18 : decode cX5_newAsset 18 = .ok (.ifCond .ne 6, 3) := by decide +kernel
theorem dX5_newAsset_21 : decode cX5_newAsset 21 = .ok (.bipush (-2), 2) := by decide +kernel
theorem dX5_newAsset_23 : decode cX5_newAsset 23 = .ok (.ireturn, 1) := by decide +kernel
theorem dX5_newAsset_24 : decode cX5_newAsset 24 = .ok (.aload_n 0, 1) := by decide +kernel
theorem dX5_newAsset_25 : decode cX5_newAsset 25 = .ok (.getfield 33, 3) := by decide +kernel
theorem dX5_newAsset_28 : decode cX5_newAsset 28 = .ok (.aload_n 0, 1) := by decide +kernel
theorem dX5_newAsset_29 : decode cX5_newAsset 29 = .ok (.getfield 11, 3) := by decide +kernel
theorem dX5_newAsset_32 : decode cX5_newAsset 32 = .ok (.arraylength, 1) := by decide +kernel
theorem dX5_newAsset_33 : decode cX5_newAsset 33 = .ok (.if_icmp .lt 6, 3) := by decide +kernel
theorem dX5_newAsset_36 : decode cX5_newAsset 36 = .ok (.bipush (-3), 2) := by decide +kernel
theorem dX5_newAsset_38 : decode cX5_newAsset 38 = .ok (.ireturn, 1) := by decide +kernel
theorem dX5_newAsset_39 : decode cX5_newAsset 39 = .ok (.aload_n 0, 1) := by decide +kernel
theorem dX5_newAsset_40 : decode cX5_newAsset 40 = .ok (.getfield 11, 3) := by decide +kernel
theorem dX5_newAsset_43 : decode cX5_newAsset 43 = .ok (.aload_n 0, 1) := by decide +kernel
theorem dX5_newAsset_44 : decode cX5_newAsset 44 = .ok (.getfield 33, 3) := by decide +kernel
theorem dX5_newAsset_47 : decode cX5_newAsset 47 = .ok (.aaload, 1) := by decide +kernel
theorem dX5_newAsset_48 : decode cX5_newAsset 48 = .ok (.iload_n 1, 1) := by decide +kernel
theorem dX5_newAsset_49 : decode cX5_newAsset 49 = .ok (.iload_n 2, 1) := by decide +kernel
theorem dX5_newAsset_50 : decode cX5_newAsset 50 = .ok (.invokevirtual 63, 3) := by decide +kernel
theorem dX5_newAsset_53 : decode cX5_newAsset 53 = .ok (.aload_n 0, 1) := by decide +kernel
theorem dX5_newAsset_54 : decode cX5_newAsset 54 = .ok (.dup, 1) := by decide +kernel
theorem dX5_newAsset_55 : decode cX5_newAsset 55 = .ok (.getfield 33, 3) := by decide +kernel
theorem dX5_newAsset_58 : decode cX5_newAsset 58 = .ok (.iconst 1, 1) := by decide +kernel
theorem dX5_newAsset_59 : decode cX5_newAsset 59 = .ok (.iadd, 1) := by decide +kernel
theorem dX5_newAsset_60 : decode cX5_newAsset 60 = .ok (.putfield 33, 3) := by decide +kernel
theorem dX5_newAsset_63 : decode cX5_newAsset 63 = .ok (.aload_n 0, 1) := by decide +kernel
theorem dX5_newAsset_64 : decode cX5_newAsset 64 = .ok (.getfield 33, 3) := by decide +kernel
theorem dX5_newAsset_67 : decode cX5_newAsset 67 = .ok (.iconst 1, 1) := by decide +kernel
theorem dX5_newAsset_68 : decode cX5_newAsset 68 = .ok (.isub, 1) := by decide +kernel
theorem dX5_newAsset_69 : decode cX5_newAsset 69 = .ok (.ireturn, 1) := by decide +kernel
theorem dX5_setLink_0 : decode cX5_setLink 0 = .ok (.aload_n 0, 1) := by decide +kernel
theorem dX5_setLink_1 : decode cX5_setLink 1 = .ok (.iload_n 1, 1) := by decide +kernel
theorem dX5_setLink_2 : decode cX5_setLink 2 = .ok (.invokevirtual 67, 3) := by decide +kernel
theorem dX5_setLink_5 : decode cX5_setLink 5 = .ok (.ifCond .eq 11, 3) := by decide +kernel
theorem dX5_setLink_8 : decode cX5_setLink 8 = .ok (.aload_n 0, 1) := by decide +kernel
theorem dX5_setLink_9 : decode cX5_setLink 9 = .ok (.iload_n 2, 1) := by decide +kernel
theorem dX5_setLink_10 : decode cX5_setLink 10 = .ok (.invokevirtual 67, 3) := by decide +kernel
theorem dX5_setLink_13 : decode cX5_setLink 13 = .ok (.ifCond .ne 5, 3) := by decide +kernel
theorem dX5_setLink_16 : decode cX5_setLink 16 = .ok (.iconst (-1), 1) := by decide +kernel
theorem dX5_setLink_17 : decode cX5_setLink 17 = .ok (.ireturn, 1) := by decide +kernel
theorem dX5_setLink_18 : decode cX5_setLink 18 = .ok (.iload_n 1, 1) := by decide +kernel
theorem dX5_setLink_19 : decode cX5_setLink 19 = .ok (.iload_n 2, 1) := by decide +kernel
theorem dX5_setLink_20 : decode cX5_setLink 20 = .ok (.if_icmp .ne 6, 3) := by decide +kernel
theorem dX5_setLink_23 : decode cX5_setLink 23 = .ok (.bipush (-2), 2) := by decide +kernel
theorem dX5_setLink_25 : decode cX5_setLink 25 = .ok (.ireturn, 1) := by decide +kernel
theorem dX5_setLink_26 : decode cX5_setLink 26 = .ok (.aload_n 0, 1) := by decide +kernel
theorem dX5_setLink_27 : decode cX5_setLink 27 = .ok (.getfield 11, 3) := by decide +kernel
theorem dX5_setLink_30 : decode cX5_setLink 30 = .ok (.iload_n 1, 1) := by decide +kernel
theorem dX5_setLink_31 : decode cX5_setLink 31 = .ok (.aaload, 1) := by decide +kernel
theorem dX5_setLink_32 : decode cX5_setLink 32 = .ok (.iload_n 2, 1) := by decide +kernel
theorem dX5_setLink_33 : decode cX5_setLink 33 = .ok (.invokevirtual 71, 3) := by decide +kernel
theorem dX5_setLink_36 : decode cX5_setLink 36 = .ok (.iload_n 3, 1) := by decide +kernel
theorem dX5_setLink_37 : decode cX5_setLink 37 = .ok (.if_icmp .ne 6, 3) := by decide +kernel
theorem dX5_setLink_40 : decode cX5_setLink 40 = .ok (.bipush (-5), 2) := by decide +kernel
theorem dX5_setLink_42 : decode cX5_setLink 42 = .ok (.ireturn, 1) := by decide +kernel
theorem dX5_setLink_43 : decode cX5_setLink 43 = .ok (.aload_n 0, 1) := by decide +kernel
theorem dX5_setLink_44 : decode cX5_setLink 44 = .ok (.getfield 11, 3) := by decide +kernel
theorem dX5_setLink_47 : decode cX5_setLink 47 = .ok (.iload_n 1, 1) := by decide +kernel
theorem dX5_setLink_48 : decode cX5_setLink 48 = .ok (.aaload, 1) := by decide +kernel
theorem dX5_setLink_49 : decode cX5_setLink 49 = .ok (.dup, 1) := by decide +kernel
theorem dX5_setLink_50 : decode cX5_setLink 50 = .ok (.getfield 74, 3) := by decide +kernel
theorem dX5_setLink_53 : decode cX5_setLink 53 = .ok (.iconst 1, 1) := by decide +kernel
theorem dX5_setLink_54 : decode cX5_setLink 54 = .ok (.iload_n 2, 1) := by decide +kernel
theorem dX5_setLink_55 : decode cX5_setLink 55 = .ok (.ishl, 1) := by decide +kernel
theorem dX5_setLink_56 : decode cX5_setLink 56 = .ok (.ixor, 1) := by decide +kernel
theorem dX5_setLink_57 : decode cX5_setLink 57 = .ok (.putfield 74, 3) := by decide +kernel
theorem dX5_setLink_60 : decode cX5_setLink 60 = .ok (.aload_n 0, 1) := by decide +kernel
theorem dX5_setLink_61 : decode cX5_setLink 61 = .ok (.getfield 11, 3) := by decide +kernel
theorem dX5_setLink_64 : decode cX5_setLink 64 = .ok (.iload_n 2, 1) := by decide +kernel
theorem dX5_setLink_65 : decode cX5_setLink 65 = .ok (.aaload, 1) := by decide +kernel
theorem dX5_setLink_66 : decode cX5_setLink 66 = .ok (.dup, 1) := by decide +kernel
theorem dX5_setLink_67 : decode cX5_setLink 67 = .ok (.getfield 74, 3) := by decide +kernel
theorem dX5_setLink_70 : decode cX5_setLink 70 = .ok (.iconst 1, 1) := by decide +kernel
theorem dX5_setLink_71 : decode cX5_setLink 71 = .ok (.iload_n 1, 1) := by decide +kernel
theorem dX5_setLink_72 : decode cX5_setLink 72 = .ok (.ishl, 1) := by decide +kernel
theorem dX5_setLink_73 : decode cX5_setLink 73 = .ok (.ixor, 1) := by decide +kernel
theorem dX5_setLink_74 : decode cX5_setLink 74 = .ok (.putfield 74, 3) := by decide +kernel
theorem dX5_setLink_77 : decode cX5_setLink 77 = .ok (.aload_n 0, 1) := by decide +kernel
theorem dX5_setLink_78 : decode cX5_setLink 78 = .ok (.getfield 11, 3) := by decide +kernel
theorem dX5_setLink_81 : decode cX5_setLink 81 = .ok (.iload_n 1, 1) := by decide +kernel
theorem dX5_setLink_82 : decode cX5_setLink 82 = .ok (.aaload, 1) := by decide +kernel
theorem dX5_setLink_83 : decode cX5_setLink 83 = .ok (.getfield 74, 3) := by decide +kernel
theorem dX5_setLink_86 : decode cX5_setLink 86 = .ok (.invokestatic 77, 3) := by decide +kernel
theorem dX5_setLink_89 : decode cX5_setLink 89 = .ok (.ireturn, 1) := by decide +kernel
theorem dX5_setBar_0 : decode cX5_setBar 0 = .ok (.iload_n 1, 1) := by decide +kernel
theorem dX5_setBar_1 : decode cX5_setBar 1 = .ok (.iconst 0, 1) := by decide +kernel
theorem dX5_setBar_2 : decode cX5_setBar 2 = .ok (.aload_n 0, 1) := by decide +kernel
theorem dX5_setBar_3 : decode cX5_setBar 3 = .ok (.getfield 29, 3) := by decide +kernel
theorem dX5_setBar_6 : decode cX5_setBar 6 = .ok (.arraylength, 1) := by decide +kernel
theorem dX5_setBar_7 : decode cX5_setBar 7 = .ok (.iconst 1, 1) := by decide +kernel
theorem dX5_setBar_8 : decode cX5_setBar 8 = .ok (.isub, 1) := by decide +kernel
theorem dX5_setBar_9 : decode cX5_setBar 9 = .ok (.invokestatic 59, 3) := by decide +kernel
theorem dX5_setBar_12 : decode cX5_setBar 12 = .ok (.ifCond .eq 18, 3) := by decide +kernel
theorem dX5_setBar_15 : decode cX5_setBar 15 = .ok (.iload_n 2, 1) := by decide +kernel
theorem dX5_setBar_16 : decode cX5_setBar 16 = .ok (.iconst 0, 1) := by decide +kernel
theorem dX5_setBar_17 : decode cX5_setBar 17 = .ok (.aload_n 0, 1) := by decide +kernel
theorem dX5_setBar_18 : decode cX5_setBar 18 = .ok (.getfield 29, 3) := by decide +kernel
theorem dX5_setBar_21 : decode cX5_setBar 21 = .ok (.arraylength, 1) := by decide +kernel
theorem dX5_setBar_22 : decode cX5_setBar 22 = .ok (.iconst 1, 1) := by decide +kernel
theorem dX5_setBar_23 : decode cX5_setBar 23 = .ok (.isub, 1) := by decide +kernel
theorem dX5_setBar_24 : decode cX5_setBar 24 = .ok (.invokestatic 59, 3) := by decide +kernel
theorem dX5_setBar_27 : decode cX5_setBar 27 = .ok (.ifCond .ne 6, 3) := by decide +kernel
theorem dX5_setBar_30 : decode cX5_setBar 30 = .ok (.bipush (-2), 2) := by decide +kernel
theorem dX5_setBar_32 : decode cX5_setBar 32 = .ok (.ireturn, 1) := by decide +kernel
theorem dX5_setBar_33 : decode cX5_setBar 33 = .ok (.aload_n 0, 1) := by decide +kernel
theorem dX5_setBar_34 : decode cX5_setBar 34 = .ok (.iload_n 1, 1) := by decide +kernel
theorem dX5_setBar_35 : decode cX5_setBar 35 = .ok (.iload_n 2, 1) := by decide +kernel
theorem dX5_setBar_36 : decode cX5_setBar 36 = .ok (.invokevirtual 83, 3) := by decide +kernel
theorem dX5_setBar_39 : decode cX5_setBar 39 = .ok (.iload_n 3, 1) := by decide +kernel
theorem dX5_setBar_40 : decode cX5_setBar 40 = .ok (.if_icmp .ne 6, 3) := by decide +kernel
theorem dX5_setBar_43 : decode cX5_setBar 43 = .ok (.bipush (-5), 2) := by decide +kernel
theorem dX5_setBar_45 : decode cX5_setBar 45 = .ok (.ireturn, 1) := by decide +kernel
theorem dX5_setBar_46 : decode cX5_setBar 46 = .ok (.aload_n 0, 1) := by decide +kernel
theorem dX5_setBar_47 : decode cX5_setBar 47 = .ok (.getfield 29, 3) := by decide +kernel
theorem dX5_setBar_50 : decode cX5_setBar 50 = .ok (.iload_n 1, 1) := by decide +kernel
theorem dX5_setBar_51 : decode cX5_setBar 51 = .ok (.dup2, 1) := by decide +kernel
theorem dX5_setBar_52 : decode cX5_setBar 52 = .ok (.iaload, 1) := by decide +kernel
theorem dX5_setBar_53 : decode cX5_setBar 53 = .ok (.iconst 1, 1) := by decide +kernel
theorem dX5_setBar_54 : decode cX5_setBar 54 = .ok (.iload_n 2, 1) := by decide +kernel
theorem dX5_setBar_55 : decode cX5_setBar 55 = .ok (.ishl, 1) := by decide +kernel
theorem dX5_setBar_56 : decode cX5_setBar 56 = .ok (.ixor, 1) := by decide +kernel
theorem dX5_setBar_57 : decode cX5_setBar 57 = .ok (.iastore, 1) := by decide +kernel
theorem dX5_setBar_58 : decode cX5_setBar 58 = .ok (.iload_n 1, 1) := by decide +kernel
theorem dX5_setBar_59 : decode cX5_setBar 59 = .ok (.iload_n 2, 1) := by decide +kernel
theorem dX5_setBar_60 : decode cX5_setBar 60 = .ok (.if_icmp .eq 15, 3) := by decide +kernel
theorem dX5_setBar_63 : decode cX5_setBar 63 = .ok (.aload_n 0, 1) := by decide +kernel
theorem dX5_setBar_64 : decode cX5_setBar 64 = .ok (.getfield 29, 3) := by decide +kernel
theorem dX5_setBar_67 : decode cX5_setBar 67 = .ok (.iload_n 2, 1) := by decide +kernel
theorem dX5_setBar_68 : decode cX5_setBar 68 = .ok (.dup2, 1) := by decide +kernel
theorem dX5_setBar_69 : decode cX5_setBar 69 = .ok (.iaload, 1) := by decide +kernel
theorem dX5_setBar_70 : decode cX5_setBar 70 = .ok (.iconst 1, 1) := by decide +kernel
theorem dX5_setBar_71 : decode cX5_setBar 71 = .ok (.iload_n 1, 1) := by decide +kernel
theorem dX5_setBar_72 : decode cX5_setBar 72 = .ok (.ishl, 1) := by decide +kernel
theorem dX5_setBar_73 : decode cX5_setBar 73 = .ok (.ixor, 1) := by decide +kernel
theorem dX5_setBar_74 : decode cX5_setBar 74 = .ok (.iastore, 1) := by decide +kernel
theorem dX5_setBar_75 : decode cX5_setBar 75 = .ok (.aload_n 0, 1) := by decide +kernel
theorem dX5_setBar_76 : decode cX5_setBar 76 = .ok (.getfield 29, 3) := by decide +kernel
theorem dX5_setBar_79 : decode cX5_setBar 79 = .ok (.iload_n 1, 1) := by decide +kernel
theorem dX5_setBar_80 : decode cX5_setBar 80 = .ok (.iaload, 1) := by decide +kernel
theorem dX5_setBar_81 : decode cX5_setBar 81 = .ok (.invokestatic 77, 3) := by decide +kernel
theorem dX5_setBar_84 : decode cX5_setBar 84 = .ok (.ireturn, 1) := by decide +kernel
theorem dX5_newCrew_0 : decode cX5_newCrew 0 = .ok (.iload_n 1, 1) := by decide +kernel
theorem dX5_newCrew_1 : decode cX5_newCrew 1 = .ok (.iconst 1, 1) := by decide +kernel
theorem dX5_newCrew_2 : decode cX5_newCrew 2 = .ok (.bipush 6, 2) := by decide +kernel
theorem dX5_newCrew_4 : decode cX5_newCrew 4 = .ok (.invokestatic 59, 3) := by decide +kernel
theorem dX5_newCrew_7 : decode cX5_newCrew 7 = .ok (.ifCond .eq 13, 3) := by decide +kernel
theorem dX5_newCrew_10 : decode cX5_newCrew 10 = .ok (.iload_n 2, 1) := by decide +kernel
theorem dX5_newCrew_11 : decode cX5_newCrew 11 = .ok (.iconst 0, 1) := by decide +kernel
theorem dX5_newCrew_12 : decode cX5_newCrew 12 = .ok (.bipush 15, 2) := by decide +kernel
theorem dX5_newCrew_14 : decode cX5_newCrew 14 = .ok (.invokestatic 59, 3) := by decide +kernel
theorem dX5_newCrew_17 : decode cX5_newCrew 17 = .ok (.ifCond .ne 6, 3) := by decide +kernel
theorem dX5_newCrew_20 : decode cX5_newCrew 20 = .ok (.bipush (-2), 2) := by decide +kernel
theorem dX5_newCrew_22 : decode cX5_newCrew 22 = .ok (.ireturn, 1) := by decide +kernel
theorem dX5_newCrew_23 : decode cX5_newCrew 23 = .ok (.aload_n 0, 1) := by decide +kernel
theorem dX5_newCrew_24 : decode cX5_newCrew 24 = .ok (.getfield 37, 3) := by decide +kernel
theorem dX5_newCrew_27 : decode cX5_newCrew 27 = .ok (.aload_n 0, 1) := by decide +kernel
theorem dX5_newCrew_28 : decode cX5_newCrew 28 = .ok (.getfield 19, 3) := by decide +kernel
theorem dX5_newCrew_31 : decode cX5_newCrew 31 = .ok (.arraylength, 1) := by decide +kernel
theorem dX5_newCrew_32 : decode cX5_newCrew 32 = .ok (.if_icmp .lt 6, 3) := by decide +kernel
theorem dX5_newCrew_35 : decode cX5_newCrew 35 = .ok (.bipush (-3), 2) := by decide +kernel
theorem dX5_newCrew_37 : decode cX5_newCrew 37 = .ok (.ireturn, 1) := by decide +kernel
theorem dX5_newCrew_38 : decode cX5_newCrew 38 = .ok (.aload_n 0, 1) := by decide +kernel
theorem dX5_newCrew_39 : decode cX5_newCrew 39 = .ok (.getfield 19, 3) := by decide +kernel
theorem dX5_newCrew_42 : decode cX5_newCrew 42 = .ok (.aload_n 0, 1) := by decide +kernel
theorem dX5_newCrew_43 : decode cX5_newCrew 43 = .ok (.getfield 37, 3) := by decide +kernel
theorem dX5_newCrew_46 : decode cX5_newCrew 46 = .ok (.aaload, 1) := by decide +kernel
theorem dX5_newCrew_47 : decode cX5_newCrew 47 = .ok (.iload_n 1, 1) := by decide +kernel
theorem dX5_newCrew_48 : decode cX5_newCrew 48 = .ok (.iload_n 2, 1) := by decide +kernel
theorem dX5_newCrew_49 : decode cX5_newCrew 49 = .ok (.invokevirtual 87, 3) := by decide +kernel
theorem dX5_newCrew_52 : decode cX5_newCrew 52 = .ok (.aload_n 0, 1) := by decide +kernel
theorem dX5_newCrew_53 : decode cX5_newCrew 53 = .ok (.dup, 1) := by decide +kernel
theorem dX5_newCrew_54 : decode cX5_newCrew 54 = .ok (.getfield 37, 3) := by decide +kernel
theorem dX5_newCrew_57 : decode cX5_newCrew 57 = .ok (.iconst 1, 1) := by decide +kernel
theorem dX5_newCrew_58 : decode cX5_newCrew 58 = .ok (.iadd, 1) := by decide +kernel
theorem dX5_newCrew_59 : decode cX5_newCrew 59 = .ok (.putfield 37, 3) := by decide +kernel
theorem dX5_newCrew_62 : decode cX5_newCrew 62 = .ok (.aload_n 0, 1) := by decide +kernel
theorem dX5_newCrew_63 : decode cX5_newCrew 63 = .ok (.getfield 37, 3) := by decide +kernel
theorem dX5_newCrew_66 : decode cX5_newCrew 66 = .ok (.iconst 1, 1) := by decide +kernel
theorem dX5_newCrew_67 : decode cX5_newCrew 67 = .ok (.isub, 1) := by decide +kernel
theorem dX5_newCrew_68 : decode cX5_newCrew 68 = .ok (.ireturn, 1) := by decide +kernel
theorem dX5_newTask_0 : decode cX5_newTask 0 = .ok (.aload_n 0, 1) := by decide +kernel
theorem dX5_newTask_1 : decode cX5_newTask 1 = .ok (.iload_n 1, 1) := by decide +kernel
theorem dX5_newTask_2 : decode cX5_newTask 2 = .ok (.invokevirtual 67, 3) := by decide +kernel
theorem dX5_newTask_5 : decode cX5_newTask 5 = .ok (.ifCond .ne 5, 3) := by decide +kernel
theorem dX5_newTask_8 : decode cX5_newTask 8 = .ok (.iconst (-1), 1) := by decide +kernel
theorem dX5_newTask_9 : decode cX5_newTask 9 = .ok (.ireturn, 1) := by decide +kernel
theorem dX5_newTask_10 : decode cX5_newTask 10 = .ok (.iload_n 2, 1) := by decide +kernel
theorem dX5_newTask_11 : decode cX5_newTask 11 = .ok (.iconst 0, 1) := by decide +kernel
theorem dX5_newTask_12 : decode cX5_newTask 12 = .ok (.iconst 3, 1) := by decide +kernel
theorem dX5_newTask_13 : decode cX5_newTask 13 = .ok (.invokestatic 59, 3) := by decide +kernel
theorem dX5_newTask_16 : decode cX5_newTask 16 = .ok (.ifCond .eq 49, 3) := by decide +kernel
theorem dX5_newTask_19 : decode cX5_newTask 19 = .ok (.iload_n 3, 1) := by decide +kernel
theorem dX5_newTask_20 : decode cX5_newTask 20 = .ok (.iconst 1, 1) := by decide +kernel
theorem dX5_newTask_21 : decode cX5_newTask 21 = .ok (.bipush 6, 2) := by decide +kernel
theorem dX5_newTask_23 : decode cX5_newTask 23 = .ok (.invokestatic 59, 3) := by decide +kernel
theorem dX5_newTask_26 : decode cX5_newTask 26 = .ok (.ifCond .eq 39, 3) := by decide +kernel
theorem dX5_newTask_29 : decode cX5_newTask 29 = .ok (.iload 4, 2) := by decide +kernel
theorem dX5_newTask_31 : decode cX5_newTask 31 = .ok (.iconst 0, 1) := by decide +kernel
theorem dX5_newTask_32 : decode cX5_newTask 32 = .ok (.iconst 4, 1) := by decide +kernel
theorem dX5_newTask_33 : decode cX5_newTask 33 = .ok (.invokestatic 59, 3) := by decide +kernel
theorem dX5_newTask_36 : decode cX5_newTask 36 = .ok (.ifCond .eq 29, 3) := by decide +kernel
theorem dX5_newTask_39 : decode cX5_newTask 39 = .ok (.iload 5, 2) := by decide +kernel
theorem dX5_newTask_41 : decode cX5_newTask 41 = .ok (.iconst 1, 1) := by decide +kernel
theorem dX5_newTask_42 : decode cX5_newTask 42 = .ok (.bipush 48, 2) := by decide +kernel
theorem dX5_newTask_44 : decode cX5_newTask 44 = .ok (.invokestatic 59, 3) := by decide +kernel
theorem dX5_newTask_47 : decode cX5_newTask 47 = .ok (.ifCond .eq 18, 3) := by decide +kernel
theorem dX5_newTask_50 : decode cX5_newTask 50 = .ok (.iload 6, 2) := by decide +kernel
theorem dX5_newTask_52 : decode cX5_newTask 52 = .ok (.aload_n 0, 1) := by decide +kernel
theorem dX5_newTask_53 : decode cX5_newTask 53 = .ok (.getfield 43, 3) := by decide +kernel
theorem dX5_newTask_56 : decode cX5_newTask 56 = .ok (.sipush 2000, 3) := by decide +kernel
theorem dX5_newTask_59 : decode cX5_newTask 59 = .ok (.invokestatic 59, 3) := by decide +kernel
theorem dX5_newTask_62 : decode cX5_newTask 62 = .ok (.ifCond .ne 6, 3) := by decide +kernel
theorem dX5_newTask_65 : decode cX5_newTask 65 = .ok (.bipush (-2), 2) := by decide +kernel
theorem dX5_newTask_67 : decode cX5_newTask 67 = .ok (.ireturn, 1) := by decide +kernel
theorem dX5_newTask_68 : decode cX5_newTask 68 = .ok (.aload_n 0, 1) := by decide +kernel
theorem dX5_newTask_69 : decode cX5_newTask 69 = .ok (.getfield 40, 3) := by decide +kernel
theorem dX5_newTask_72 : decode cX5_newTask 72 = .ok (.aload_n 0, 1) := by decide +kernel
theorem dX5_newTask_73 : decode cX5_newTask 73 = .ok (.getfield 25, 3) := by decide +kernel
theorem dX5_newTask_76 : decode cX5_newTask 76 = .ok (.arraylength, 1) := by decide +kernel
theorem dX5_newTask_77 : decode cX5_newTask 77 = .ok (.if_icmp .lt 6, 3) := by decide +kernel
theorem dX5_newTask_80 : decode cX5_newTask 80 = .ok (.bipush (-3), 2) := by decide +kernel
theorem dX5_newTask_82 : decode cX5_newTask 82 = .ok (.ireturn, 1) := by decide +kernel
theorem dX5_newTask_83 : decode cX5_newTask 83 = .ok (.aload_n 0, 1) := by decide +kernel
theorem dX5_newTask_84 : decode cX5_newTask 84 = .ok (.getfield 25, 3) := by decide +kernel
theorem dX5_newTask_87 : decode cX5_newTask 87 = .ok (.aload_n 0, 1) := by decide +kernel
theorem dX5_newTask_88 : decode cX5_newTask 88 = .ok (.getfield 40, 3) := by decide +kernel
theorem dX5_newTask_91 : decode cX5_newTask 91 = .ok (.aaload, 1) := by decide +kernel
theorem dX5_newTask_92 : decode cX5_newTask 92 = .ok (.iload_n 1, 1) := by decide +kernel
theorem dX5_newTask_93 : decode cX5_newTask 93 = .ok (.iload_n 2, 1) := by decide +kernel
theorem dX5_newTask_94 : decode cX5_newTask 94 = .ok (.iload_n 3, 1) := by decide +kernel
theorem dX5_newTask_95 : decode cX5_newTask 95 = .ok (.iload 4, 2) := by decide +kernel
theorem dX5_newTask_97 : decode cX5_newTask 97 = .ok (.iload 5, 2) := by decide +kernel
theorem dX5_newTask_99 : decode cX5_newTask 99 = .ok (.iload 6, 2) := by decide +kernel
theorem dX5_newTask_101 : decode cX5_newTask 101 = .ok (.invokevirtual 88, 3) := by decide +kernel
theorem dX5_newTask_104 : decode cX5_newTask 104 = .ok (.aload_n 0, 1) := by decide +kernel
theorem dX5_newTask_105 : decode cX5_newTask 105 = .ok (.dup, 1) := by decide +kernel
theorem dX5_newTask_106 : decode cX5_newTask 106 = .ok (.getfield 40, 3) := by decide +kernel
theorem dX5_newTask_109 : decode cX5_newTask 109 = .ok (.iconst 1, 1) := by decide +kernel
theorem dX5_newTask_110 : decode cX5_newTask 110 = .ok (.iadd, 1) := by decide +kernel
theorem dX5_newTask_111 : decode cX5_newTask 111 = .ok (.putfield 40, 3) := by decide +kernel
theorem dX5_newTask_114 : decode cX5_newTask 114 = .ok (.aload_n 0, 1) := by decide +kernel
theorem dX5_newTask_115 : decode cX5_newTask 115 = .ok (.getfield 40, 3) := by decide +kernel
theorem dX5_newTask_118 : decode cX5_newTask 118 = .ok (.iconst 1, 1) := by decide +kernel
theorem dX5_newTask_119 : decode cX5_newTask 119 = .ok (.isub, 1) := by decide +kernel
theorem dX5_newTask_120 : decode cX5_newTask 120 = .ok (.ireturn, 1) := by decide +kernel
theorem dX5_startAsset_0 : decode cX5_startAsset 0 = .ok (.aload_n 0, 1) := by decide +kernel
theorem dX5_startAsset_1 : decode cX5_startAsset 1 = .ok (.iload_n 1, 1) := by decide +kernel
theorem dX5_startAsset_2 : decode cX5_startAsset 2 = .ok (.invokevirtual 67, 3) := by decide +kernel
theorem dX5_startAsset_5 : decode cX5_startAsset 5 = .ok (.ifCond .ne 5, 3) := by decide +kernel
theorem dX5_startAsset_8 : decode cX5_startAsset 8 = .ok (.iconst (-1), 1) := by decide +kernel
theorem dX5_startAsset_9 : decode cX5_startAsset 9 = .ok (.ireturn, 1) := by decide +kernel
theorem dX5_startAsset_10 : decode cX5_startAsset 10 = .ok (.aload_n 0, 1) := by decide +kernel
theorem dX5_startAsset_11 : decode cX5_startAsset 11 = .ok (.iload_n 1, 1) := by decide +kernel
theorem dX5_startAsset_12 : decode cX5_startAsset 12 = .ok (.invokevirtual 91, 3) := by decide +kernel
theorem dX5_startAsset_15 : decode cX5_startAsset 15 = .ok (.ifCond .le 6, 3) := by decide +kernel
theorem dX5_startAsset_18 : decode cX5_startAsset 18 = .ok (.bipush (-4), 2) := by decide +kernel
theorem dX5_startAsset_20 : decode cX5_startAsset 20 = .ok (.ireturn, 1) := by decide +kernel
theorem dX5_startAsset_21 : decode cX5_startAsset 21 = .ok (.aload_n 0, 1) := by decide +kernel
theorem dX5_startAsset_22 : decode cX5_startAsset 22 = .ok (.getfield 11, 3) := by decide +kernel
theorem dX5_startAsset_25 : decode cX5_startAsset 25 = .ok (.iload_n 1, 1) := by decide +kernel
theorem dX5_startAsset_26 : decode cX5_startAsset 26 = .ok (.aaload, 1) := by decide +kernel
theorem dX5_startAsset_27 : decode cX5_startAsset 27 = .ok (.getfield 94, 3) := by decide +kernel
theorem dX5_startAsset_30 : decode cX5_startAsset 30 = .ok (.ifCond .eq 6, 3) := by decide +kernel
theorem dX5_startAsset_33 : decode cX5_startAsset 33 = .ok (.bipush (-5), 2) := by decide +kernel
theorem dX5_startAsset_35 : decode cX5_startAsset 35 = .ok (.ireturn, 1) := by decide +kernel
theorem dX5_startAsset_36 : decode cX5_startAsset 36 = .ok (.aload_n 0, 1) := by decide +kernel
theorem dX5_startAsset_37 : decode cX5_startAsset 37 = .ok (.getfield 11, 3) := by decide +kernel
theorem dX5_startAsset_40 : decode cX5_startAsset 40 = .ok (.iload_n 1, 1) := by decide +kernel
theorem dX5_startAsset_41 : decode cX5_startAsset 41 = .ok (.aaload, 1) := by decide +kernel
theorem dX5_startAsset_42 : decode cX5_startAsset 42 = .ok (.iconst 1, 1) := by decide +kernel
theorem dX5_startAsset_43 : decode cX5_startAsset 43 = .ok (.putfield 94, 3) := by decide +kernel
theorem dX5_startAsset_46 : decode cX5_startAsset 46 = .ok (.aload_n 0, 1) := by decide +kernel
theorem dX5_startAsset_47 : decode cX5_startAsset 47 = .ok (.invokevirtual 98, 3) := by decide +kernel
theorem dX5_startAsset_50 : decode cX5_startAsset 50 = .ok (.ireturn, 1) := by decide +kernel
theorem dX5_stopAsset_0 : decode cX5_stopAsset 0 = .ok (.aload_n 0, 1) := by decide +kernel
theorem dX5_stopAsset_1 : decode cX5_stopAsset 1 = .ok (.iload_n 1, 1) := by decide +kernel
theorem dX5_stopAsset_2 : decode cX5_stopAsset 2 = .ok (.invokevirtual 67, 3) := by decide +kernel
theorem dX5_stopAsset_5 : decode cX5_stopAsset 5 = .ok (.ifCond .ne 5, 3) := by decide +kernel
theorem dX5_stopAsset_8 : decode cX5_stopAsset 8 = .ok (.iconst (-1), 1) := by decide +kernel
theorem dX5_stopAsset_9 : decode cX5_stopAsset 9 = .ok (.ireturn, 1) := by decide +kernel
theorem dX5_stopAsset_10 : decode cX5_stopAsset 10 = .ok (.aload_n 0, 1) := by decide +kernel
theorem dX5_stopAsset_11 : decode cX5_stopAsset 11 = .ok (.getfield 11, 3) := by decide +kernel
theorem dX5_stopAsset_14 : decode cX5_stopAsset 14 = .ok (.iload_n 1, 1) := by decide +kernel
theorem dX5_stopAsset_15 : decode cX5_stopAsset 15 = .ok (.aaload, 1) := by decide +kernel
theorem dX5_stopAsset_16 : decode cX5_stopAsset 16 = .ok (.getfield 94, 3) := by decide +kernel
theorem dX5_stopAsset_19 : decode cX5_stopAsset 19 = .ok (.ifCond .ne 6, 3) := by decide +kernel
theorem dX5_stopAsset_22 : decode cX5_stopAsset 22 = .ok (.bipush (-5), 2) := by decide +kernel
theorem dX5_stopAsset_24 : decode cX5_stopAsset 24 = .ok (.ireturn, 1) := by decide +kernel
theorem dX5_stopAsset_25 : decode cX5_stopAsset 25 = .ok (.aload_n 0, 1) := by decide +kernel
theorem dX5_stopAsset_26 : decode cX5_stopAsset 26 = .ok (.getfield 11, 3) := by decide +kernel
theorem dX5_stopAsset_29 : decode cX5_stopAsset 29 = .ok (.iload_n 1, 1) := by decide +kernel
theorem dX5_stopAsset_30 : decode cX5_stopAsset 30 = .ok (.aaload, 1) := by decide +kernel
theorem dX5_stopAsset_31 : decode cX5_stopAsset 31 = .ok (.iconst 0, 1) := by decide +kernel
theorem dX5_stopAsset_32 : decode cX5_stopAsset 32 = .ok (.putfield 94, 3) := by decide +kernel
theorem dX5_stopAsset_35 : decode cX5_stopAsset 35 = .ok (.aload_n 0, 1) := by decide +kernel
theorem dX5_stopAsset_36 : decode cX5_stopAsset 36 = .ok (.invokevirtual 98, 3) := by decide +kernel
theorem dX5_stopAsset_39 : decode cX5_stopAsset 39 = .ok (.ireturn, 1) := by decide +kernel
theorem dX5_hangTag_0 : decode cX5_hangTag 0 = .ok (.aload_n 0, 1) := by decide +kernel
theorem dX5_hangTag_1 : decode cX5_hangTag 1 = .ok (.iload_n 1, 1) := by decide +kernel
theorem dX5_hangTag_2 : decode cX5_hangTag 2 = .ok (.invokevirtual 102, 3) := by decide +kernel
theorem dX5_hangTag_5 : decode cX5_hangTag 5 = .ok (.ifCond .eq 11, 3) := by decide +kernel
theorem dX5_hangTag_8 : decode cX5_hangTag 8 = .ok (.aload_n 0, 1) := by decide +kernel
theorem dX5_hangTag_9 : decode cX5_hangTag 9 = .ok (.iload_n 2, 1) := by decide +kernel
theorem dX5_hangTag_10 : decode cX5_hangTag 10 = .ok (.invokevirtual 105, 3) := by decide +kernel
theorem dX5_hangTag_13 : decode cX5_hangTag 13 = .ok (.ifCond .ne 5, 3) := by decide +kernel
theorem dX5_hangTag_16 : decode cX5_hangTag 16 = .ok (.iconst (-1), 1) := by decide +kernel
theorem dX5_hangTag_17 : decode cX5_hangTag 17 = .ok (.ireturn, 1) := by decide +kernel
theorem dX5_hangTag_18 : decode cX5_hangTag 18 = .ok (.aload_n 0, 1) := by decide +kernel
theorem dX5_hangTag_19 : decode cX5_hangTag 19 = .ok (.getfield 25, 3) := by decide +kernel
theorem dX5_hangTag_22 : decode cX5_hangTag 22 = .ok (.iload_n 1, 1) := by decide +kernel
theorem dX5_hangTag_23 : decode cX5_hangTag 23 = .ok (.aaload, 1) := by decide +kernel
theorem dX5_hangTag_24 : decode cX5_hangTag 24 = .ok (.astore_n 3, 1) := by decide +kernel
theorem dX5_hangTag_25 : decode cX5_hangTag 25 = .ok (.aload_n 3, 1) := by decide +kernel
theorem dX5_hangTag_26 : decode cX5_hangTag 26 = .ok (.getfield 108, 3) := by decide +kernel
theorem dX5_hangTag_29 : decode cX5_hangTag 29 = .ok (.ifCond .ne 23, 3) := by decide +kernel
theorem dX5_hangTag_32 : decode cX5_hangTag 32 = .ok (.aload_n 0, 1) := by decide +kernel
theorem dX5_hangTag_33 : decode cX5_hangTag 33 = .ok (.aload_n 3, 1) := by decide +kernel
theorem dX5_hangTag_34 : decode cX5_hangTag 34 = .ok (.getfield 111, 3) := by decide +kernel
theorem dX5_hangTag_37 : decode cX5_hangTag 37 = .ok (.invokevirtual 114, 3) := by decide +kernel
theorem dX5_hangTag_40 : decode cX5_hangTag 40 = .ok (.ifCond .ne 12, 3) := by decide +kernel
theorem dX5_hangTag_43 : decode cX5_hangTag 43 = .ok (.aload_n 0, 1) := by decide +kernel
theorem dX5_hangTag_44 : decode cX5_hangTag 44 = .ok (.iload_n 2, 1) := by decide +kernel
theorem dX5_hangTag_45 : decode cX5_hangTag 45 = .ok (.aload_n 3, 1) := by decide +kernel
theorem dX5_hangTag_46 : decode cX5_hangTag 46 = .ok (.invokevirtual 117, 3) := by decide +kernel
theorem dX5_hangTag_49 : decode cX5_hangTag 49 = .ok (.ifCond .ne 6, 3) := by decide +kernel
theorem dX5_hangTag_52 : decode cX5_hangTag 52 = .ok (.bipush (-4), 2) := by decide +kernel
theorem dX5_hangTag_54 : decode cX5_hangTag 54 = .ok (.ireturn, 1) := by decide +kernel
theorem dX5_hangTag_55 : decode cX5_hangTag 55 = .ok (.aload_n 3, 1) := by decide +kernel
theorem dX5_hangTag_56 : decode cX5_hangTag 56 = .ok (.aload_n 0, 1) := by decide +kernel
theorem dX5_hangTag_57 : decode cX5_hangTag 57 = .ok (.aload_n 3, 1) := by decide +kernel
theorem dX5_hangTag_58 : decode cX5_hangTag 58 = .ok (.getfield 111, 3) := by decide +kernel
theorem dX5_hangTag_61 : decode cX5_hangTag 61 = .ok (.invokevirtual 91, 3) := by decide +kernel
theorem dX5_hangTag_64 : decode cX5_hangTag 64 = .ok (.putfield 121, 3) := by decide +kernel
theorem dX5_hangTag_67 : decode cX5_hangTag 67 = .ok (.aload_n 3, 1) := by decide +kernel
theorem dX5_hangTag_68 : decode cX5_hangTag 68 = .ok (.iconst 1, 1) := by decide +kernel
theorem dX5_hangTag_69 : decode cX5_hangTag 69 = .ok (.putfield 108, 3) := by decide +kernel
theorem dX5_hangTag_72 : decode cX5_hangTag 72 = .ok (.aload_n 3, 1) := by decide +kernel
theorem dX5_hangTag_73 : decode cX5_hangTag 73 = .ok (.iload_n 2, 1) := by decide +kernel
theorem dX5_hangTag_74 : decode cX5_hangTag 74 = .ok (.putfield 124, 3) := by decide +kernel
theorem dX5_hangTag_77 : decode cX5_hangTag 77 = .ok (.aload_n 3, 1) := by decide +kernel
theorem dX5_hangTag_78 : decode cX5_hangTag 78 = .ok (.getfield 121, 3) := by decide +kernel
theorem dX5_hangTag_81 : decode cX5_hangTag 81 = .ok (.iconst 1, 1) := by decide +kernel
theorem dX5_hangTag_82 : decode cX5_hangTag 82 = .ok (.iadd, 1) := by decide +kernel
theorem dX5_hangTag_83 : decode cX5_hangTag 83 = .ok (.ireturn, 1) := by decide +kernel
theorem dX5_beginTask_0 : decode cX5_beginTask 0 = .ok (.aload_n 0, 1) := by decide +kernel
theorem dX5_beginTask_1 : decode cX5_beginTask 1 = .ok (.iload_n 1, 1) := by decide +kernel
theorem dX5_beginTask_2 : decode cX5_beginTask 2 = .ok (.invokevirtual 102, 3) := by decide +kernel
theorem dX5_beginTask_5 : decode cX5_beginTask 5 = .ok (.ifCond .ne 5, 3) := by decide +kernel
theorem dX5_beginTask_8 : decode cX5_beginTask 8 = .ok (.iconst (-1), 1) := by decide +kernel
theorem dX5_beginTask_9 : decode cX5_beginTask 9 = .ok (.ireturn, 1) := by decide +kernel
theorem dX5_beginTask_10 : decode cX5_beginTask 10 = .ok (.aload_n 0, 1) := by decide +kernel
theorem dX5_beginTask_11 : decode cX5_beginTask 11 = .ok (.iload_n 1, 1) := by decide +kernel
theorem dX5_beginTask_12 : decode cX5_beginTask 12 = .ok (.invokevirtual 127, 3) := by decide +kernel
theorem dX5_beginTask_15 : decode cX5_beginTask 15 = .ok (.ifCond .eq 6, 3) := by decide +kernel
theorem dX5_beginTask_18 : decode cX5_beginTask 18 = .ok (.bipush (-4), 2) := by decide +kernel
theorem dX5_beginTask_20 : decode cX5_beginTask 20 = .ok (.ireturn, 1) := by decide +kernel
theorem dX5_beginTask_21 : decode cX5_beginTask 21 = .ok (.aload_n 0, 1) := by decide +kernel
theorem dX5_beginTask_22 : decode cX5_beginTask 22 = .ok (.getfield 25, 3) := by decide +kernel
theorem dX5_beginTask_25 : decode cX5_beginTask 25 = .ok (.iload_n 1, 1) := by decide +kernel
theorem dX5_beginTask_26 : decode cX5_beginTask 26 = .ok (.aaload, 1) := by decide +kernel
theorem dX5_beginTask_27 : decode cX5_beginTask 27 = .ok (.astore_n 2, 1) := by decide +kernel
theorem dX5_beginTask_28 : decode cX5_beginTask 28 = .ok (.aload_n 2, 1) := by decide +kernel
theorem dX5_beginTask_29 : decode cX5_beginTask 29 = .ok (.iconst 2, 1) := by decide +kernel
theorem dX5_beginTask_30 : decode cX5_beginTask 30 = .ok (.putfield 108, 3) := by decide +kernel
theorem dX5_beginTask_33 : decode cX5_beginTask 33 = .ok (.aload_n 2, 1) := by decide +kernel
theorem dX5_beginTask_34 : decode cX5_beginTask 34 = .ok (.aload_n 2, 1) := by decide +kernel
theorem dX5_beginTask_35 : decode cX5_beginTask 35 = .ok (.getfield 130, 3) := by decide +kernel
theorem dX5_beginTask_38 : decode cX5_beginTask 38 = .ok (.putfield 133, 3) := by decide +kernel
theorem dX5_beginTask_41 : decode cX5_beginTask 41 = .ok (.aload_n 0, 1) := by decide +kernel
theorem dX5_beginTask_42 : decode cX5_beginTask 42 = .ok (.getfield 43, 3) := by decide +kernel
theorem dX5_beginTask_45 : decode cX5_beginTask 45 = .ok (.aload_n 2, 1) := by decide +kernel
theorem dX5_beginTask_46 : decode cX5_beginTask 46 = .ok (.getfield 130, 3) := by decide +kernel
theorem dX5_beginTask_49 : decode cX5_beginTask 49 = .ok (.iadd, 1) := by decide +kernel
theorem dX5_beginTask_50 : decode cX5_beginTask 50 = .ok (.ireturn, 1) := by decide +kernel
theorem dX5_liftTag_0 : decode cX5_liftTag 0 = .ok (.aload_n 0, 1) := by decide +kernel
theorem dX5_liftTag_1 : decode cX5_liftTag 1 = .ok (.iload_n 1, 1) := by decide +kernel
theorem dX5_liftTag_2 : decode cX5_liftTag 2 = .ok (.invokevirtual 102, 3) := by decide +kernel
theorem dX5_liftTag_5 : decode cX5_liftTag 5 = .ok (.ifCond .eq 11, 3) := by decide +kernel
theorem dX5_liftTag_8 : decode cX5_liftTag 8 = .ok (.aload_n 0, 1) := by decide +kernel
theorem dX5_liftTag_9 : decode cX5_liftTag 9 = .ok (.iload_n 2, 1) := by decide +kernel
theorem dX5_liftTag_10 : decode cX5_liftTag 10 = .ok (.invokevirtual 105, 3) := by decide +kernel
theorem dX5_liftTag_13 : decode cX5_liftTag 13 = .ok (.ifCond .ne 5, 3) := by decide +kernel
theorem dX5_liftTag_16 : decode cX5_liftTag 16 = .ok (.iconst (-1), 1) := by decide +kernel
theorem dX5_liftTag_17 : decode cX5_liftTag 17 = .ok (.ireturn, 1) := by decide +kernel
theorem dX5_liftTag_18 : decode cX5_liftTag 18 = .ok (.aload_n 0, 1) := by decide +kernel
theorem dX5_liftTag_19 : decode cX5_liftTag 19 = .ok (.getfield 25, 3) := by decide +kernel
theorem dX5_liftTag_22 : decode cX5_liftTag 22 = .ok (.iload_n 1, 1) := by decide +kernel
theorem dX5_liftTag_23 : decode cX5_liftTag 23 = .ok (.aaload, 1) := by decide +kernel
theorem dX5_liftTag_24 : decode cX5_liftTag 24 = .ok (.astore_n 3, 1) := by decide +kernel
theorem dX5_liftTag_25 : decode cX5_liftTag 25 = .ok (.aload_n 3, 1) := by decide +kernel
theorem dX5_liftTag_26 : decode cX5_liftTag 26 = .ok (.getfield 108, 3) := by decide +kernel
theorem dX5_liftTag_29 : decode cX5_liftTag 29 = .ok (.iconst 1, 1) := by decide +kernel
theorem dX5_liftTag_30 : decode cX5_liftTag 30 = .ok (.if_icmp .eq 14, 3) := by decide +kernel
theorem dX5_liftTag_33 : decode cX5_liftTag 33 = .ok (.aload_n 3, 1) := by decide +kernel
theorem dX5_liftTag_34 : decode cX5_liftTag 34 = .ok (.getfield 108, 3) := by decide +kernel
theorem dX5_liftTag_37 : decode cX5_liftTag 37 = .ok (.iconst 3, 1) := by decide +kernel
theorem dX5_liftTag_38 : decode cX5_liftTag 38 = .ok (.if_icmp .eq 6, 3) := by decide +kernel
theorem dX5_liftTag_41 : decode cX5_liftTag 41 = .ok (.bipush (-4), 2) := by decide +kernel
theorem dX5_liftTag_43 : decode cX5_liftTag 43 = .ok (.ireturn, 1) := by decide +kernel
theorem dX5_liftTag_44 : decode cX5_liftTag 44 = .ok (.aload_n 3, 1) := by decide +kernel
theorem dX5_liftTag_45 : decode cX5_liftTag 45 = .ok (.getfield 124, 3) := by decide +kernel
theorem dX5_liftTag_48 : decode cX5_liftTag 48 = .ok (.iload_n 2, 1) := by decide +kernel
theorem dX5_liftTag_49 : decode cX5_liftTag 49 = .ok (.if_icmp .ne 16, 3) := by decide +kernel
theorem dX5_liftTag_52 : decode cX5_liftTag 52 = .ok (.aload_n 0, 1) := by decide +kernel
theorem dX5_liftTag_53 : decode cX5_liftTag 53 = .ok (.aload_n 3, 1) := by decide +kernel
theorem dX5_liftTag_54 : decode cX5_liftTag 54 = .ok (.getfield 111, 3) := by decide +kernel
theorem dX5_liftTag_57 : decode cX5_liftTag 57 = .ok (.iconst 0, 1) := by decide +kernel
theorem dX5_liftTag_58 : decode cX5_liftTag 58 = .ok (.invokevirtual 136, 3) := by decide +kernel
theorem dX5_liftTag_61 : decode cX5_liftTag 61 = .ok (.iload_n 1, 1) := by decide +kernel
theorem dX5_liftTag_62 : decode cX5_liftTag 62 = .ok (.if_icmp .eq 6, 3) := by decide +kernel
theorem dX5_liftTag_65 : decode cX5_liftTag 65 = .ok (.bipush (-4), 2) := by decide +kernel
theorem dX5_liftTag_67 : decode cX5_liftTag 67 = .ok (.ireturn, 1) := by decide +kernel
theorem dX5_liftTag_68 : decode cX5_liftTag 68 = .ok (.aload_n 3, 1) := by decide +kernel
theorem dX5_liftTag_69 : decode cX5_liftTag 69 = .ok (.getfield 108, 3) := by decide +kernel
theorem dX5_liftTag_72 : decode cX5_liftTag 72 = .ok (.iconst 3, 1) := by decide +kernel
theorem dX5_liftTag_73 : decode cX5_liftTag 73 = .ok (.if_icmp .ne 11, 3) := by decide +kernel
theorem dX5_liftTag_76 : decode cX5_liftTag 76 = .ok (.aload_n 3, 1) := by decide +kernel
theorem dX5_liftTag_77 : decode cX5_liftTag 77 = .ok (.iconst 4, 1) := by decide +kernel
theorem dX5_liftTag_78 : decode cX5_liftTag 78 = .ok (.putfield 108, 3) := by decide +kernel
theorem dX5_liftTag_81 : decode cX5_liftTag 81 = .ok (.goto 14, 3) := by decide +kernel
theorem dX5_liftTag_84 : decode cX5_liftTag 84 = .ok (.aload_n 3, 1) := by decide +kernel
theorem dX5_liftTag_85 : decode cX5_liftTag 85 = .ok (.iconst 0, 1) := by decide +kernel
theorem dX5_liftTag_86 : decode cX5_liftTag 86 = .ok (.putfield 108, 3) := by decide +kernel
theorem dX5_liftTag_89 : decode cX5_liftTag 89 = .ok (.aload_n 3, 1) := by decide +kernel
theorem dX5_liftTag_90 : decode cX5_liftTag 90 = .ok (.bipush (-5), 2) := by decide +kernel
theorem dX5_liftTag_92 : decode cX5_liftTag 92 = .ok (.putfield 124, 3) := by decide +kernel
theorem dX5_liftTag_95 : decode cX5_liftTag 95 = .ok (.aload_n 0, 1) := by decide +kernel
theorem dX5_liftTag_96 : decode cX5_liftTag 96 = .ok (.aload_n 3, 1) := by decide +kernel
theorem dX5_liftTag_97 : decode cX5_liftTag 97 = .ok (.getfield 111, 3) := by decide +kernel
theorem dX5_liftTag_100 : decode cX5_liftTag 100 = .ok (.invokevirtual 91, 3) := by decide +kernel
theorem dX5_liftTag_103 : decode cX5_liftTag 103 = .ok (.ireturn, 1) := by decide +kernel
theorem dX5_cancelTask_0 : decode cX5_cancelTask 0 = .ok (.aload_n 0, 1) := by decide +kernel
theorem dX5_cancelTask_1 : decode cX5_cancelTask 1 = .ok (.iload_n 1, 1) := by decide +kernel
theorem dX5_cancelTask_2 : decode cX5_cancelTask 2 = .ok (.invokevirtual 102, 3) := by decide +kernel
theorem dX5_cancelTask_5 : decode cX5_cancelTask 5 = .ok (.ifCond .ne 5, 3) := by decide +kernel
theorem dX5_cancelTask_8 : decode cX5_cancelTask 8 = .ok (.iconst (-1), 1) := by decide +kernel
theorem dX5_cancelTask_9 : decode cX5_cancelTask 9 = .ok (.ireturn, 1) := by decide +kernel
theorem dX5_cancelTask_10 : decode cX5_cancelTask 10 = .ok (.aload_n 0, 1) := by decide +kernel
theorem dX5_cancelTask_11 : decode cX5_cancelTask 11 = .ok (.getfield 25, 3) := by decide +kernel
theorem dX5_cancelTask_14 : decode cX5_cancelTask 14 = .ok (.iload_n 1, 1) := by decide +kernel
theorem dX5_cancelTask_15 : decode cX5_cancelTask 15 = .ok (.aaload, 1) := by decide +kernel
theorem dX5_cancelTask_16 : decode cX5_cancelTask 16 = .ok (.getfield 108, 3) := by decide +kernel
theorem dX5_cancelTask_19 : decode cX5_cancelTask 19 = .ok (.ifCond .eq 6, 3) := by decide +kernel
theorem dX5_cancelTask_22 : decode cX5_cancelTask 22 = .ok (.bipush (-4), 2) := by decide +kernel
theorem dX5_cancelTask_24 : decode cX5_cancelTask 24 = .ok (.ireturn, 1) := by decide +kernel
theorem dX5_cancelTask_25 : decode cX5_cancelTask 25 = .ok (.aload_n 0, 1) := by decide +kernel
theorem dX5_cancelTask_26 : decode cX5_cancelTask 26 = .ok (.getfield 25, 3) := by decide +kernel
theorem dX5_cancelTask_29 : decode cX5_cancelTask 29 = .ok (.iload_n 1, 1) := by decide +kernel
theorem dX5_cancelTask_30 : decode cX5_cancelTask 30 = .ok (.aaload, 1) := by decide +kernel
theorem dX5_cancelTask_31 : decode cX5_cancelTask 31 = .ok (.bipush 6, 2) := by decide +kernel
theorem dX5_cancelTask_33 : decode cX5_cancelTask 33 = .ok (.putfield 108, 3) := by decide +kernel
theorem dX5_cancelTask_36 : decode cX5_cancelTask 36 = .ok (.aload_n 0, 1) := by decide +kernel
theorem dX5_cancelTask_37 : decode cX5_cancelTask 37 = .ok (.getfield 25, 3) := by decide +kernel
theorem dX5_cancelTask_40 : decode cX5_cancelTask 40 = .ok (.iload_n 1, 1) := by decide +kernel
theorem dX5_cancelTask_41 : decode cX5_cancelTask 41 = .ok (.aaload, 1) := by decide +kernel
theorem dX5_cancelTask_42 : decode cX5_cancelTask 42 = .ok (.getfield 140, 3) := by decide +kernel
theorem dX5_cancelTask_45 : decode cX5_cancelTask 45 = .ok (.ireturn, 1) := by decide +kernel
theorem dX5_passHours_0 : decode cX5_passHours 0 = .ok (.iload_n 1, 1) := by decide +kernel
theorem dX5_passHours_1 : decode cX5_passHours 1 = .ok (.iconst 1, 1) := by decide +kernel
theorem dX5_passHours_2 : decode cX5_passHours 2 = .ok (.bipush 48, 2) := by decide +kernel
theorem dX5_passHours_4 : decode cX5_passHours 4 = .ok (.invokestatic 59, 3) := by decide +kernel
theorem dX5_passHours_7 : decode cX5_passHours 7 = .ok (.ifCond .ne 6, 3) := by decide +kernel
theorem dX5_passHours_10 : decode cX5_passHours 10 = .ok (.bipush (-2), 2) := by decide +kernel
theorem dX5_passHours_12 : decode cX5_passHours 12 = .ok (.ireturn, 1) := by decide +kernel
theorem dX5_passHours_13 : decode cX5_passHours 13 = .ok (.aload_n 0, 1) := by decide +kernel
theorem dX5_passHours_14 : decode cX5_passHours 14 = .ok (.getfield 43, 3) := by decide +kernel
theorem dX5_passHours_17 : decode cX5_passHours 17 = .ok (.iload_n 1, 1) := by decide +kernel
theorem dX5_passHours_18 : decode cX5_passHours 18 = .ok (.iadd, 1) := by decide +kernel
theorem dX5_passHours_19 : decode cX5_passHours 19 = .ok (.sipush 2000, 3) := by decide +kernel
theorem dX5_passHours_22 : decode cX5_passHours 22 = .ok (.if_icmp .le 6, 3) := by decide +kernel
theorem dX5_passHours_25 : decode cX5_passHours 25 = .ok (.bipush (-4), 2) := by decide +kernel
theorem dX5_passHours_27 : decode cX5_passHours 27 = .ok (.ireturn, 1) := by decide +kernel
theorem dX5_passHours_28 : decode cX5_passHours 28 = .ok (.iconst 0, 1) := by decide +kernel
theorem dX5_passHours_29 : decode cX5_passHours 29 = .ok (.istore_n 2, 1) := by decide +kernel
theorem dX5_passHours_30 : decode cX5_passHours 30 = .ok (.iconst 0, 1) := by decide +kernel
theorem dX5_passHours_31 : decode cX5_passHours 31 = .ok (.istore_n 3, 1) := by decide +kernel
theorem dX5_passHours_32 : decode cX5_passHours 32 = .ok (.iload_n 3, 1) := by decide +kernel
theorem dX5_passHours_33 : decode cX5_passHours 33 = .ok (.iload_n 1, 1) := by decide +kernel
theorem dX5_passHours_34 : decode cX5_passHours 34 = .ok (.if_icmp .ge 34, 3) := by decide +kernel
theorem dX5_passHours_37 : decode cX5_passHours 37 = .ok (.aload_n 0, 1) := by decide +kernel
theorem dX5_passHours_38 : decode cX5_passHours 38 = .ok (.invokevirtual 143, 3) := by decide +kernel
theorem dX5_passHours_41 : decode cX5_passHours 41 = .ok (.iload_n 2, 1) := by decide +kernel
theorem dX5_passHours_42 : decode cX5_passHours 42 = .ok (.aload_n 0, 1) := by decide +kernel
theorem dX5_passHours_43 : decode cX5_passHours 43 = .ok (.invokevirtual 146, 3) := by decide +kernel
theorem dX5_passHours_46 : decode cX5_passHours 46 = .ok (.iadd, 1) := by decide +kernel
theorem dX5_passHours_47 : decode cX5_passHours 47 = .ok (.istore_n 2, 1) := by decide +kernel
theorem dX5_passHours_48 : decode cX5_passHours 48 = .ok (.aload_n 0, 1) := by decide +kernel
theorem dX5_passHours_49 : decode cX5_passHours 49 = .ok (.dup, 1) := by decide +kernel
theorem dX5_passHours_50 : decode cX5_passHours 50 = .ok (.getfield 43, 3) := by decide +kernel
theorem dX5_passHours_53 : decode cX5_passHours 53 = .ok (.iconst 1, 1) := by decide +kernel
theorem dX5_passHours_54 : decode cX5_passHours 54 = .ok (.iadd, 1) := by decide +kernel
theorem dX5_passHours_55 : decode cX5_passHours 55 = .ok (.putfield 43, 3) := by decide +kernel
theorem dX5_passHours_58 : decode cX5_passHours 58 = .ok (.aload_n 0, 1) := by decide +kernel
theorem dX5_passHours_59 : decode cX5_passHours 59 = .ok (.invokevirtual 149, 3) := by decide +kernel
theorem dX5_passHours_62 : decode cX5_passHours 62 = .ok (.iinc 3 1, 3) := by decide +kernel
theorem dX5_passHours_65 : decode cX5_passHours 65 = .ok (.goto (-33), 3) := by decide +kernel
theorem dX5_passHours_68 : decode cX5_passHours 68 = .ok (.iload_n 2, 1) := by decide +kernel
theorem dX5_passHours_69 : decode cX5_passHours 69 = .ok (.ireturn, 1) := by decide +kernel
theorem dX5_runAssets_0 : decode cX5_runAssets 0 = .ok (.iconst 0, 1) := by decide +kernel
theorem dX5_runAssets_1 : decode cX5_runAssets 1 = .ok (.istore_n 1, 1) := by decide +kernel
theorem dX5_runAssets_2 : decode cX5_runAssets 2 = .ok (.iload_n 1, 1) := by decide +kernel
theorem dX5_runAssets_3 : decode cX5_runAssets 3 = .ok (.aload_n 0, 1) := by decide +kernel
theorem dX5_runAssets_4 : decode cX5_runAssets 4 = .ok (.getfield 33, 3) := by decide +kernel
theorem dX5_runAssets_7 : decode cX5_runAssets 7 = .ok (.if_icmp .ge 30, 3) := by decide +kernel
theorem dX5_runAssets_10 : decode cX5_runAssets 10 = .ok (.aload_n 0, 1) := by decide +kernel
theorem dX5_runAssets_11 : decode cX5_runAssets 11 = .ok (.getfield 11, 3) := by decide +kernel
theorem dX5_runAssets_14 : decode cX5_runAssets 14 = .ok (.iload_n 1, 1) := by decide +kernel
theorem dX5_runAssets_15 : decode cX5_runAssets 15 = .ok (.aaload, 1) := by decide +kernel
theorem dX5_runAssets_16 : decode cX5_runAssets 16 = .ok (.getfield 94, 3) := by decide +kernel
theorem dX5_runAssets_19 : decode cX5_runAssets 19 = .ok (.ifCond .eq 12, 3) := by decide +kernel
theorem dX5_runAssets_22 : decode cX5_runAssets 22 = .ok (.aload_n 0, 1) := by decide +kernel
theorem dX5_runAssets_23 : decode cX5_runAssets 23 = .ok (.getfield 11, 3) := by decide +kernel
theorem dX5_runAssets_26 : decode cX5_runAssets 26 = .ok (.iload_n 1, 1) := by decide +kernel
theorem dX5_runAssets_27 : decode cX5_runAssets 27 = .ok (.aaload, 1) := by decide +kernel
theorem dX5_runAssets_28 : decode cX5_runAssets 28 = .ok (.invokevirtual 152, 3) := by decide +kernel
theorem dX5_runAssets_31 : decode cX5_runAssets 31 = .ok (.iinc 1 1, 3) := by decide +kernel
theorem dX5_runAssets_34 : decode cX5_runAssets 34 = .ok (.goto (-32), 3) := by decide +kernel
theorem dX5_runAssets_37 : decode cX5_runAssets 37 = .ok (.return_, 1) := by decide +kernel
theorem dX5_workOnTasks_0 : decode cX5_workOnTasks 0 = .ok (.iconst 0, 1) := by decide +kernel
theorem dX5_workOnTasks_1 : decode cX5_workOnTasks 1 = .ok (.istore_n 1, 1) := by decide +kernel
theorem dX5_workOnTasks_2 : decode cX5_workOnTasks 2 = .ok (.iconst 0, 1) := by decide +kernel
theorem dX5_workOnTasks_3 : decode cX5_workOnTasks 3 = .ok (.istore_n 2, 1) := by decide +kernel
theorem dX5_workOnTasks_4 : decode cX5_workOnTasks 4 = .ok (.iload_n 2, 1) := by decide +kernel
theorem dX5_workOnTasks_5 : decode cX5_workOnTasks 5 = .ok (.aload_n 0, 1) := by decide +kernel
theorem dX5_workOnTasks_6 : decode cX5_workOnTasks 6 = .ok (.getfield 40, 3) := by decide +kernel
theorem dX5_workOnTasks_9 : decode cX5_workOnTasks 9 = .ok (.if_icmp .ge 57, 3) := by decide +kernel
theorem dX5_workOnTasks_12 : decode cX5_workOnTasks 12 = .ok (.aload_n 0, 1) := by decide +kernel
theorem dX5_workOnTasks_13 : decode cX5_workOnTasks 13 = .ok (.getfield 25, 3) := by decide +kernel
theorem dX5_workOnTasks_16 : decode cX5_workOnTasks 16 = .ok (.iload_n 2, 1) := by decide +kernel
theorem dX5_workOnTasks_17 : decode cX5_workOnTasks 17 = .ok (.aaload, 1) := by decide +kernel
theorem dX5_workOnTasks_18 : decode cX5_workOnTasks 18 = .ok (.astore_n 3, 1) := by decide +kernel
theorem dX5_workOnTasks_19 : decode cX5_workOnTasks 19 = .ok (.aload_n 3, 1) := by decide +kernel
theorem dX5_workOnTasks_20 : decode cX5_workOnTasks 20 = .ok (.getfield 108, 3) := by decide +kernel
theorem dX5_workOnTasks_23 : decode cX5_workOnTasks 23 = .ok (.iconst 2, 1) := by decide +kernel
theorem dX5_workOnTasks_24 : decode cX5_workOnTasks 24 = .ok (.if_icmp .ne 36, 3) := by decide +kernel
theorem dX5_workOnTasks_27 : decode cX5_workOnTasks 27 = .ok (.aload_n 3, 1) := by decide +kernel
theorem dX5_workOnTasks_28 : decode cX5_workOnTasks 28 = .ok (.dup, 1) := by decide +kernel
theorem dX5_workOnTasks_29 : decode cX5_workOnTasks 29 = .ok (.getfield 133, 3) := by decide +kernel
theorem dX5_workOnTasks_32 : decode cX5_workOnTasks 32 = .ok (.iconst 1, 1) := by decide +kernel
theorem dX5_workOnTasks_33 : decode cX5_workOnTasks 33 = .ok (.isub, 1) := by decide +kernel
theorem dX5_workOnTasks_34 : decode cX5_workOnTasks 34 = .ok (.putfield 133, 3) := by decide +kernel
theorem dX5_workOnTasks_37 : decode cX5_workOnTasks 37 = .ok (.aload_n 3, 1) := by decide +kernel
theorem dX5_workOnTasks_38 : decode cX5_workOnTasks 38 = .ok (.getfield 133, 3) := by decide +kernel
theorem dX5_workOnTasks_41 : decode cX5_workOnTasks 41 = .ok (.ifCond .gt 19, 3) := by decide +kernel
theorem dX5_workOnTasks_44 : decode cX5_workOnTasks 44 = .ok (.aload_n 3, 1) := by decide +kernel
theorem dX5_workOnTasks_45 : decode cX5_workOnTasks 45 = .ok (.iconst 3, 1) := by decide +kernel
theorem dX5_workOnTasks_46 : decode cX5_workOnTasks 46 = .ok (.putfield 108, 3) := by decide +kernel
theorem dX5_workOnTasks_49 : decode cX5_workOnTasks 49 = .ok (.iinc 1 1, 3) := by decide +kernel
theorem dX5_workOnTasks_52 : decode cX5_workOnTasks 52 = .ok (.aload_n 0, 1) := by decide +kernel
theorem dX5_workOnTasks_53 : decode cX5_workOnTasks 53 = .ok (.aload_n 3, 1) := by decide +kernel
theorem dX5_workOnTasks_54 : decode cX5_workOnTasks 54 = .ok (.getfield 111, 3) := by decide +kernel
theorem dX5_workOnTasks_57 : decode cX5_workOnTasks 57 = .ok (.invokevirtual 155, 3) := by decide +kernel
theorem dX5_workOnTasks_60 : decode cX5_workOnTasks 60 = .ok (.iinc 2 1, 3) := by decide +kernel
theorem dX5_workOnTasks_63 : decode cX5_workOnTasks 63 = .ok (.goto (-59), 3) := by decide +kernel
theorem dX5_workOnTasks_66 : decode cX5_workOnTasks 66 = .ok (.iload_n 1, 1) := by decide +kernel
theorem dX5_workOnTasks_67 : decode cX5_workOnTasks 67 = .ok (.ireturn, 1) := by decide +kernel
theorem dX5_mendAsset_0 : decode cX5_mendAsset 0 = .ok (.aload_n 0, 1) := by decide +kernel
theorem dX5_mendAsset_1 : decode cX5_mendAsset 1 = .ok (.iload_n 1, 1) := by decide +kernel
theorem dX5_mendAsset_2 : decode cX5_mendAsset 2 = .ok (.invokevirtual 67, 3) := by decide +kernel
theorem dX5_mendAsset_5 : decode cX5_mendAsset 5 = .ok (.ifCond .eq 12, 3) := by decide +kernel
theorem dX5_mendAsset_8 : decode cX5_mendAsset 8 = .ok (.aload_n 0, 1) := by decide +kernel
theorem dX5_mendAsset_9 : decode cX5_mendAsset 9 = .ok (.getfield 11, 3) := by decide +kernel
theorem dX5_mendAsset_12 : decode cX5_mendAsset 12 = .ok (.iload_n 1, 1) := by decide +kernel
theorem dX5_mendAsset_13 : decode cX5_mendAsset 13 = .ok (.aaload, 1) := by decide +kernel
theorem dX5_mendAsset_14 : decode cX5_mendAsset 14 = .ok (.invokevirtual 159, 3) := by decide +kernel
theorem dX5_mendAsset_17 : decode cX5_mendAsset 17 = .ok (.return_, 1) := by decide +kernel
theorem dX5_slipTasks_0 : decode cX5_slipTasks 0 = .ok (.iconst 0, 1) := by decide +kernel
theorem dX5_slipTasks_1 : decode cX5_slipTasks 1 = .ok (.istore_n 1, 1) := by decide +kernel
theorem dX5_slipTasks_2 : decode cX5_slipTasks 2 = .ok (.iload_n 1, 1) := by decide +kernel
theorem dX5_slipTasks_3 : decode cX5_slipTasks 3 = .ok (.aload_n 0, 1) := by decide +kernel
theorem dX5_slipTasks_4 : decode cX5_slipTasks 4 = .ok (.getfield 40, 3) := by decide +kernel
theorem dX5_slipTasks_7 : decode cX5_slipTasks 7 = .ok (.if_icmp .ge 40, 3) := by decide +kernel
theorem dX5_slipTasks_10 : decode cX5_slipTasks 10 = .ok (.aload_n 0, 1) := by decide +kernel
theorem dX5_slipTasks_11 : decode cX5_slipTasks 11 = .ok (.getfield 25, 3) := by decide +kernel
theorem dX5_slipTasks_14 : decode cX5_slipTasks 14 = .ok (.iload_n 1, 1) := by decide +kernel
theorem dX5_slipTasks_15 : decode cX5_slipTasks 15 = .ok (.aaload, 1) := by decide +kernel
theorem dX5_slipTasks_16 : decode cX5_slipTasks 16 = .ok (.astore_n 2, 1) := by decide +kernel
theorem dX5_slipTasks_17 : decode cX5_slipTasks 17 = .ok (.aload_n 2, 1) := by decide +kernel
theorem dX5_slipTasks_18 : decode cX5_slipTasks 18 = .ok (.iconst 0, 1) := by decide +kernel
theorem dX5_slipTasks_19 : decode cX5_slipTasks 19 = .ok (.iconst 1, 1) := by decide +kernel
theorem dX5_slipTasks_20 : decode cX5_slipTasks 20 = .ok (.invokevirtual 162, 3) := by decide +kernel
theorem dX5_slipTasks_23 : decode cX5_slipTasks 23 = .ok (.ifCond .eq 18, 3) := by decide +kernel
theorem dX5_slipTasks_26 : decode cX5_slipTasks 26 = .ok (.aload_n 2, 1) := by decide +kernel
theorem dX5_slipTasks_27 : decode cX5_slipTasks 27 = .ok (.aload_n 0, 1) := by decide +kernel
theorem dX5_slipTasks_28 : decode cX5_slipTasks 28 = .ok (.getfield 43, 3) := by decide +kernel
theorem dX5_slipTasks_31 : decode cX5_slipTasks 31 = .ok (.invokevirtual 165, 3) := by decide +kernel
theorem dX5_slipTasks_34 : decode cX5_slipTasks 34 = .ok (.ifCond .eq 7, 3) := by decide +kernel
theorem dX5_slipTasks_37 : decode cX5_slipTasks 37 = .ok (.aload_n 2, 1) := by decide +kernel
theorem dX5_slipTasks_38 : decode cX5_slipTasks 38 = .ok (.invokevirtual 168, 3) := by decide +kernel
theorem dX5_slipTasks_41 : decode cX5_slipTasks 41 = .ok (.iinc 1 1, 3) := by decide +kernel
theorem dX5_slipTasks_44 : decode cX5_slipTasks 44 = .ok (.goto (-42), 3) := by decide +kernel
theorem dX5_slipTasks_47 : decode cX5_slipTasks 47 = .ok (.return_, 1) := by decide +kernel
theorem dX5_reasonAgainst_0 : decode cX5_reasonAgainst 0 = .ok (.aload_n 0, 1) := by decide +kernel
theorem dX5_reasonAgainst_1 : decode cX5_reasonAgainst 1 = .ok (.iload_n 1, 1) := by decide +kernel
theorem dX5_reasonAgainst_2 : decode cX5_reasonAgainst 2 = .ok (.invokevirtual 102, 3) := by decide +kernel
theorem dX5_reasonAgainst_5 : decode cX5_reasonAgainst 5 = .ok (.ifCond .ne 5, 3) := by decide +kernel
theorem dX5_reasonAgainst_8 : decode cX5_reasonAgainst 8 = .ok (.iconst 0, 1) := by decide +kernel
theorem dX5_reasonAgainst_9 : decode cX5_reasonAgainst 9 = .ok (.ireturn, 1) := by decide +kernel
theorem dX5_reasonAgainst_10 : decode cX5_reasonAgainst 10 = .ok (.aload_n 0, 1) := by decide +kernel
theorem dX5_reasonAgainst_11 : decode cX5_reasonAgainst 11 = .ok (.getfield 25, 3) := by decide +kernel
theorem dX5_reasonAgainst_14 : decode cX5_reasonAgainst 14 = .ok (.iload_n 1, 1) := by decide +kernel
theorem dX5_reasonAgainst_15 : decode cX5_reasonAgainst 15 = .ok (.aaload, 1) := by decide +kernel
theorem dX5_reasonAgainst_16 : decode cX5_reasonAgainst 16 = .ok (.astore_n 2, 1) := by decide +kernel
theorem dX5_reasonAgainst_17 : decode cX5_reasonAgainst 17 = .ok (.aload_n 2, 1) := by decide +kernel
theorem dX5_reasonAgainst_18 : decode cX5_reasonAgainst 18 = .ok (.getfield 108, 3) := by decide +kernel
theorem dX5_reasonAgainst_21 : decode cX5_reasonAgainst 21 = .ok (.iconst 1, 1) := by decide +kernel
theorem dX5_reasonAgainst_22 : decode cX5_reasonAgainst 22 = .ok (.if_icmp .eq 5, 3) := by decide +kernel
theorem dX5_reasonAgainst_25 : decode cX5_reasonAgainst 25 = .ok (.iconst 1, 1) := by decide +kernel
theorem dX5_reasonAgainst_26 : decode cX5_reasonAgainst 26 = .ok (.ireturn, 1) := by decide +kernel
theorem dX5_reasonAgainst_27 : decode cX5_reasonAgainst 27 = .ok (.aload_n 0, 1) := by decide +kernel
theorem dX5_reasonAgainst_28 : decode cX5_reasonAgainst 28 = .ok (.getfield 43, 3) := by decide +kernel
theorem dX5_reasonAgainst_31 : decode cX5_reasonAgainst 31 = .ok (.aload_n 2, 1) := by decide +kernel
theorem dX5_reasonAgainst_32 : decode cX5_reasonAgainst 32 = .ok (.getfield 171, 3) := by decide +kernel
theorem dX5_reasonAgainst_35 : decode cX5_reasonAgainst 35 = .ok (.if_icmp .ge 5, 3) := by decide +kernel
theorem dX5_reasonAgainst_38 : decode cX5_reasonAgainst 38 = .ok (.iconst 2, 1) := by decide +kernel
theorem dX5_reasonAgainst_39 : decode cX5_reasonAgainst 39 = .ok (.ireturn, 1) := by decide +kernel
theorem dX5_reasonAgainst_40 : decode cX5_reasonAgainst 40 = .ok (.aload_n 2, 1) := by decide +kernel
theorem dX5_reasonAgainst_41 : decode cX5_reasonAgainst 41 = .ok (.aload_n 0, 1) := by decide +kernel
theorem dX5_reasonAgainst_42 : decode cX5_reasonAgainst 42 = .ok (.getfield 43, 3) := by decide +kernel
theorem dX5_reasonAgainst_45 : decode cX5_reasonAgainst 45 = .ok (.invokevirtual 165, 3) := by decide +kernel
theorem dX5_reasonAgainst_48 : decode cX5_reasonAgainst 48 = .ok (.ifCond .eq 5, 3) := by decide +kernel
theorem dX5_reasonAgainst_51 : decode cX5_reasonAgainst 51 = .ok (.iconst 3, 1) := by decide +kernel
theorem dX5_reasonAgainst_52 : decode cX5_reasonAgainst 52 = .ok (.ireturn, 1) := by decide +kernel
theorem dX5_reasonAgainst_53 : decode cX5_reasonAgainst 53 = .ok (.aload_n 0, 1) := by decide +kernel
theorem dX5_reasonAgainst_54 : decode cX5_reasonAgainst 54 = .ok (.iload_n 1, 1) := by decide +kernel
theorem dX5_reasonAgainst_55 : decode cX5_reasonAgainst 55 = .ok (.invokevirtual 174, 3) := by decide +kernel
theorem dX5_reasonAgainst_58 : decode cX5_reasonAgainst 58 = .ok (.bipush (-5), 2) := by decide +kernel
theorem dX5_reasonAgainst_60 : decode cX5_reasonAgainst 60 = .ok (.if_icmp .eq 7, 3) := by decide +kernel
theorem dX5_reasonAgainst_63 : decode cX5_reasonAgainst 63 = .ok (.iconst 4, 1) := by decide +kernel
theorem dX5_reasonAgainst_64 : decode cX5_reasonAgainst 64 = .ok (.goto 4, 3) := by decide +kernel
theorem dX5_reasonAgainst_67 : decode cX5_reasonAgainst 67 = .ok (.iconst 0, 1) := by decide +kernel
theorem dX5_reasonAgainst_68 : decode cX5_reasonAgainst 68 = .ok (.ireturn, 1) := by decide +kernel
theorem dX5_barrierOf_0 : decode cX5_barrierOf 0 = .ok (.aload_n 0, 1) := by decide +kernel
theorem dX5_barrierOf_1 : decode cX5_barrierOf 1 = .ok (.iload_n 1, 1) := by decide +kernel
theorem dX5_barrierOf_2 : decode cX5_barrierOf 2 = .ok (.invokevirtual 102, 3) := by decide +kernel
theorem dX5_barrierOf_5 : decode cX5_barrierOf 5 = .ok (.ifCond .eq 16, 3) := by decide +kernel
theorem dX5_barrierOf_8 : decode cX5_barrierOf 8 = .ok (.aload_n 0, 1) := by decide +kernel
theorem dX5_barrierOf_9 : decode cX5_barrierOf 9 = .ok (.getfield 25, 3) := by decide +kernel
theorem dX5_barrierOf_12 : decode cX5_barrierOf 12 = .ok (.iload_n 1, 1) := by decide +kernel
theorem dX5_barrierOf_13 : decode cX5_barrierOf 13 = .ok (.aaload, 1) := by decide +kernel
theorem dX5_barrierOf_14 : decode cX5_barrierOf 14 = .ok (.getfield 108, 3) := by decide +kernel
theorem dX5_barrierOf_17 : decode cX5_barrierOf 17 = .ok (.iconst 2, 1) := by decide +kernel
theorem dX5_barrierOf_18 : decode cX5_barrierOf 18 = .ok (.if_icmp .ne 6, 3) := by decide +kernel
theorem dX5_barrierOf_21 : decode cX5_barrierOf 21 = .ok (.bipush (-5), 2) := by decide +kernel
theorem dX5_barrierOf_23 : decode cX5_barrierOf 23 = .ok (.ireturn, 1) := by decide +kernel
theorem dX5_barrierOf_24 : decode cX5_barrierOf 24 = .ok (.aload_n 0, 1) := by decide +kernel
theorem dX5_barrierOf_25 : decode cX5_barrierOf 25 = .ok (.getfield 25, 3) := by decide +kernel
theorem dX5_barrierOf_28 : decode cX5_barrierOf 28 = .ok (.iload_n 1, 1) := by decide +kernel
theorem dX5_barrierOf_29 : decode cX5_barrierOf 29 = .ok (.aaload, 1) := by decide +kernel
theorem dX5_barrierOf_30 : decode cX5_barrierOf 30 = .ok (.astore_n 2, 1) := by decide +kernel
theorem dX5_barrierOf_31 : decode cX5_barrierOf 31 = .ok (.iconst 0, 1) := by decide +kernel
theorem dX5_barrierOf_32 : decode cX5_barrierOf 32 = .ok (.istore_n 3, 1) := by decide +kernel
theorem dX5_barrierOf_33 : decode cX5_barrierOf 33 = .ok (.iload_n 3, 1) := by decide +kernel
theorem dX5_barrierOf_34 : decode cX5_barrierOf 34 = .ok (.aload_n 0, 1) := by decide +kernel
theorem dX5_barrierOf_35 : decode cX5_barrierOf 35 = .ok (.getfield 40, 3) := by decide +kernel
theorem dX5_barrierOf_38 : decode cX5_barrierOf 38 = .ok (.if_icmp .ge 60, 3) := by decide +kernel
theorem dX5_barrierOf_41 : decode cX5_barrierOf 41 = .ok (.aload_n 0, 1) := by decide +kernel
theorem dX5_barrierOf_42 : decode cX5_barrierOf 42 = .ok (.getfield 25, 3) := by decide +kernel
theorem dX5_barrierOf_45 : decode cX5_barrierOf 45 = .ok (.iload_n 3, 1) := by decide +kernel
theorem dX5_barrierOf_46 : decode cX5_barrierOf 46 = .ok (.aaload, 1) := by decide +kernel
theorem dX5_barrierOf_47 : decode cX5_barrierOf 47 = .ok (.astore 4, 2) := by decide +kernel
theorem dX5_barrierOf_49 : decode cX5_barrierOf 49 = .ok (.aload 4, 2) := by decide +kernel
theorem dX5_barrierOf_51 : decode cX5_barrierOf 51 = .ok (.getfield 108, 3) := by decide +kernel
theorem dX5_barrierOf_54 : decode cX5_barrierOf 54 = .ok (.iconst 2, 1) := by decide +kernel
theorem dX5_barrierOf_55 : decode cX5_barrierOf 55 = .ok (.if_icmp .ne 37, 3) := by decide +kernel
theorem dX5_barrierOf_58 : decode cX5_barrierOf 58 = .ok (.aload_n 0, 1) := by decide +kernel
theorem dX5_barrierOf_59 : decode cX5_barrierOf 59 = .ok (.aload_n 2, 1) := by decide +kernel
theorem dX5_barrierOf_60 : decode cX5_barrierOf 60 = .ok (.getfield 177, 3) := by decide +kernel
theorem dX5_barrierOf_63 : decode cX5_barrierOf 63 = .ok (.aload 4, 2) := by decide +kernel
theorem dX5_barrierOf_65 : decode cX5_barrierOf 65 = .ok (.getfield 177, 3) := by decide +kernel
theorem dX5_barrierOf_68 : decode cX5_barrierOf 68 = .ok (.invokevirtual 83, 3) := by decide +kernel
theorem dX5_barrierOf_71 : decode cX5_barrierOf 71 = .ok (.ifCond .eq 21, 3) := by decide +kernel
theorem dX5_barrierOf_74 : decode cX5_barrierOf 74 = .ok (.aload_n 0, 1) := by decide +kernel
theorem dX5_barrierOf_75 : decode cX5_barrierOf 75 = .ok (.aload_n 2, 1) := by decide +kernel
theorem dX5_barrierOf_76 : decode cX5_barrierOf 76 = .ok (.getfield 111, 3) := by decide +kernel
theorem dX5_barrierOf_79 : decode cX5_barrierOf 79 = .ok (.aload 4, 2) := by decide +kernel
theorem dX5_barrierOf_81 : decode cX5_barrierOf 81 = .ok (.getfield 111, 3) := by decide +kernel
theorem dX5_barrierOf_84 : decode cX5_barrierOf 84 = .ok (.invokevirtual 180, 3) := by decide +kernel
theorem dX5_barrierOf_87 : decode cX5_barrierOf 87 = .ok (.ifCond .eq 5, 3) := by decide +kernel
theorem dX5_barrierOf_90 : decode cX5_barrierOf 90 = .ok (.iload_n 3, 1) := by decide +kernel
theorem dX5_barrierOf_91 : decode cX5_barrierOf 91 = .ok (.ireturn, 1) := by decide +kernel
theorem dX5_barrierOf_92 : decode cX5_barrierOf 92 = .ok (.iinc 3 1, 3) := by decide +kernel
theorem dX5_barrierOf_95 : decode cX5_barrierOf 95 = .ok (.goto (-62), 3) := by decide +kernel
theorem dX5_barrierOf_98 : decode cX5_barrierOf 98 = .ok (.bipush (-5), 2) := by decide +kernel
theorem dX5_barrierOf_100 : decode cX5_barrierOf 100 = .ok (.ireturn, 1) := by decide +kernel
theorem dX5_doBar_0 : decode cX5_doBar 0 = .ok (.iload_n 1, 1) := by decide +kernel
theorem dX5_doBar_1 : decode cX5_doBar 1 = .ok (.ifCond .lt 30, 3) := by decide +kernel
theorem dX5_doBar_4 : decode cX5_doBar 4 = .ok (.iload_n 1, 1) := by decide +kernel
theorem dX5_doBar_5 : decode cX5_doBar 5 = .ok (.aload_n 0, 1) := by decide +kernel
theorem dX5_doBar_6 : decode cX5_doBar 6 = .ok (.getfield 29, 3) := by decide +kernel
theorem dX5_doBar_9 : decode cX5_doBar 9 = .ok (.arraylength, 1) := by decide +kernel
theorem dX5_doBar_10 : decode cX5_doBar 10 = .ok (.if_icmp .ge 21, 3) := by decide +kernel
theorem dX5_doBar_13 : decode cX5_doBar 13 = .ok (.aload_n 0, 1) := by decide +kernel
theorem dX5_doBar_14 : decode cX5_doBar 14 = .ok (.getfield 29, 3) := by decide +kernel
theorem dX5_doBar_17 : decode cX5_doBar 17 = .ok (.iload_n 1, 1) := by decide +kernel
theorem dX5_doBar_18 : decode cX5_doBar 18 = .ok (.iaload, 1) := by decide +kernel
theorem dX5_doBar_19 : decode cX5_doBar 19 = .ok (.iload_n 2, 1) := by decide +kernel
theorem dX5_doBar_20 : decode cX5_doBar 20 = .ok (.ishr, 1) := by decide +kernel
theorem dX5_doBar_21 : decode cX5_doBar 21 = .ok (.iconst 1, 1) := by decide +kernel
theorem dX5_doBar_22 : decode cX5_doBar 22 = .ok (.iand, 1) := by decide +kernel
theorem dX5_doBar_23 : decode cX5_doBar 23 = .ok (.iconst 1, 1) := by decide +kernel
theorem dX5_doBar_24 : decode cX5_doBar 24 = .ok (.if_icmp .ne 7, 3) := by decide +kernel
theorem dX5_doBar_27 : decode cX5_doBar 27 = .ok (.iconst 1, 1) := by decide +kernel
theorem dX5_doBar_28 : decode cX5_doBar 28 = .ok (.goto 4, 3) := by decide +kernel
theorem dX5_doBar_31 : decode cX5_doBar 31 = .ok (.iconst 0, 1) := by decide +kernel
theorem dX5_doBar_32 : decode cX5_doBar 32 = .ok (.ireturn, 1) := by decide +kernel
theorem dX5_areNear_0 : decode cX5_areNear 0 = .ok (.iload_n 1, 1) := by decide +kernel
theorem dX5_areNear_1 : decode cX5_areNear 1 = .ok (.iload_n 2, 1) := by decide +kernel
theorem dX5_areNear_2 : decode cX5_areNear 2 = .ok (.if_icmp .eq 28, 3) := by decide +kernel
theorem dX5_areNear_5 : decode cX5_areNear 5 = .ok (.iload_n 1, 1) := by decide +kernel
theorem dX5_areNear_6 : decode cX5_areNear 6 = .ok (.ifCond .lt 28, 3) := by decide +kernel
theorem dX5_areNear_9 : decode cX5_areNear 9 = .ok (.iload_n 1, 1) := by decide +kernel
theorem dX5_areNear_10 : decode cX5_areNear 10 = .ok (.aload_n 0, 1) := by decide +kernel
theorem dX5_areNear_11 : decode cX5_areNear 11 = .ok (.getfield 33, 3) := by decide +kernel
theorem dX5_areNear_14 : decode cX5_areNear 14 = .ok (.if_icmp .ge 20, 3) := by decide +kernel
theorem dX5_areNear_17 : decode cX5_areNear 17 = .ok (.aload_n 0, 1) := by decide +kernel
theorem dX5_areNear_18 : decode cX5_areNear 18 = .ok (.getfield 11, 3) := by decide +kernel
theorem dX5_areNear_21 : decode cX5_areNear 21 = .ok (.iload_n 1, 1) := by decide +kernel
theorem dX5_areNear_22 : decode cX5_areNear 22 = .ok (.aaload, 1) := by decide +kernel
theorem dX5_areNear_23 : decode cX5_areNear 23 = .ok (.iload_n 2, 1) := by decide +kernel
theorem dX5_areNear_24 : decode cX5_areNear 24 = .ok (.invokevirtual 71, 3) := by decide +kernel
theorem dX5_areNear_27 : decode cX5_areNear 27 = .ok (.ifCond .eq 7, 3) := by decide +kernel
theorem dX5_areNear_30 : decode cX5_areNear 30 = .ok (.iconst 1, 1) := by decide +kernel
theorem dX5_areNear_31 : decode cX5_areNear 31 = .ok (.goto 4, 3) := by decide +kernel
theorem dX5_areNear_34 : decode cX5_areNear 34 = .ok (.iconst 0, 1) := by decide +kernel
theorem dX5_areNear_35 : decode cX5_areNear 35 = .ok (.ireturn, 1) := by decide +kernel
theorem dX5_isRunning_0 : decode cX5_isRunning 0 = .ok (.aload_n 0, 1) := by decide +kernel
theorem dX5_isRunning_1 : decode cX5_isRunning 1 = .ok (.iload_n 1, 1) := by decide +kernel
theorem dX5_isRunning_2 : decode cX5_isRunning 2 = .ok (.invokevirtual 67, 3) := by decide +kernel
theorem dX5_isRunning_5 : decode cX5_isRunning 5 = .ok (.ifCond .eq 19, 3) := by decide +kernel
theorem dX5_isRunning_8 : decode cX5_isRunning 8 = .ok (.aload_n 0, 1) := by decide +kernel
theorem dX5_isRunning_9 : decode cX5_isRunning 9 = .ok (.getfield 11, 3) := by decide +kernel
theorem dX5_isRunning_12 : decode cX5_isRunning 12 = .ok (.iload_n 1, 1) := by decide +kernel
theorem dX5_isRunning_13 : decode cX5_isRunning 13 = .ok (.aaload, 1) := by decide +kernel
theorem dX5_isRunning_14 : decode cX5_isRunning 14 = .ok (.getfield 94, 3) := by decide +kernel
theorem dX5_isRunning_17 : decode cX5_isRunning 17 = .ok (.ifCond .eq 7, 3) := by decide +kernel
theorem dX5_isRunning_20 : decode cX5_isRunning 20 = .ok (.iconst 1, 1) := by decide +kernel
theorem dX5_isRunning_21 : decode cX5_isRunning 21 = .ok (.goto 4, 3) := by decide +kernel
theorem dX5_isRunning_24 : decode cX5_isRunning 24 = .ok (.iconst 0, 1) := by decide +kernel
theorem dX5_isRunning_25 : decode cX5_isRunning 25 = .ok (.ireturn, 1) := by decide +kernel
theorem dX5_canServe_0 : decode cX5_canServe 0 = .ok (.aload_n 0, 1) := by decide +kernel
theorem dX5_canServe_1 : decode cX5_canServe 1 = .ok (.getfield 19, 3) := by decide +kernel
theorem dX5_canServe_4 : decode cX5_canServe 4 = .ok (.iload_n 1, 1) := by decide +kernel
theorem dX5_canServe_5 : decode cX5_canServe 5 = .ok (.aaload, 1) := by decide +kernel
theorem dX5_canServe_6 : decode cX5_canServe 6 = .ok (.aload_n 2, 1) := by decide +kernel
theorem dX5_canServe_7 : decode cX5_canServe 7 = .ok (.getfield 183, 3) := by decide +kernel
theorem dX5_canServe_10 : decode cX5_canServe 10 = .ok (.invokevirtual 186, 3) := by decide +kernel
theorem dX5_canServe_13 : decode cX5_canServe 13 = .ok (.ifCond .eq 29, 3) := by decide +kernel
theorem dX5_canServe_16 : decode cX5_canServe 16 = .ok (.aload_n 0, 1) := by decide +kernel
theorem dX5_canServe_17 : decode cX5_canServe 17 = .ok (.getfield 19, 3) := by decide +kernel
theorem dX5_canServe_20 : decode cX5_canServe 20 = .ok (.iload_n 1, 1) := by decide +kernel
theorem dX5_canServe_21 : decode cX5_canServe 21 = .ok (.aaload, 1) := by decide +kernel
theorem dX5_canServe_22 : decode cX5_canServe 22 = .ok (.getfield 189, 3) := by decide +kernel
theorem dX5_canServe_25 : decode cX5_canServe 25 = .ok (.aload_n 0, 1) := by decide +kernel
theorem dX5_canServe_26 : decode cX5_canServe 26 = .ok (.iload_n 1, 1) := by decide +kernel
theorem dX5_canServe_27 : decode cX5_canServe 27 = .ok (.invokevirtual 192, 3) := by decide +kernel
theorem dX5_canServe_30 : decode cX5_canServe 30 = .ok (.isub, 1) := by decide +kernel
theorem dX5_canServe_31 : decode cX5_canServe 31 = .ok (.aload_n 2, 1) := by decide +kernel
theorem dX5_canServe_32 : decode cX5_canServe 32 = .ok (.getfield 195, 3) := by decide +kernel
theorem dX5_canServe_35 : decode cX5_canServe 35 = .ok (.if_icmp .lt 7, 3) := by decide +kernel
theorem dX5_canServe_38 : decode cX5_canServe 38 = .ok (.iconst 1, 1) := by decide +kernel
theorem dX5_canServe_39 : decode cX5_canServe 39 = .ok (.goto 4, 3) := by decide +kernel
theorem dX5_canServe_42 : decode cX5_canServe 42 = .ok (.iconst 0, 1) := by decide +kernel
theorem dX5_canServe_43 : decode cX5_canServe 43 = .ok (.ireturn, 1) := by decide +kernel
theorem dX5_firstCrewFor_0 : decode cX5_firstCrewFor 0 = .ok (.aload_n 0, 1) := by decide +kernel
theorem dX5_firstCrewFor_1 : decode cX5_firstCrewFor 1 = .ok (.iload_n 1, 1) := by decide +kernel
theorem dX5_firstCrewFor_2 : decode cX5_firstCrewFor 2 = .ok (.invokevirtual 102, 3) := by decide +kernel
theorem dX5_firstCrewFor_5 : decode cX5_firstCrewFor 5 = .ok (.ifCond .eq 15, 3) := by decide +kernel
theorem dX5_firstCrewFor_8 : decode cX5_firstCrewFor 8 = .ok (.aload_n 0, 1) := by decide +kernel
theorem dX5_firstCrewFor_9 : decode cX5_firstCrewFor 9 = .ok (.getfield 25, 3) := by decide +kernel
theorem dX5_firstCrewFor_12 : decode cX5_firstCrewFor 12 = .ok (.iload_n 1, 1) := by decide +kernel
theorem dX5_firstCrewFor_13 : decode cX5_firstCrewFor 13 = .ok (.aaload, 1) := by decide +kernel
theorem dX5_firstCrewFor_14 : decode cX5_firstCrewFor 14 = .ok (.getfield 108, 3) := by decide +kernel
theorem dX5_firstCrewFor_17 : decode cX5_firstCrewFor 17 = .ok (.ifCond .eq 6, 3) := by decide +kernel
theorem dX5_firstCrewFor_20 : decode cX5_firstCrewFor 20 = .ok (.bipush (-5), 2) := by decide +kernel
theorem dX5_firstCrewFor_22 : decode cX5_firstCrewFor 22 = .ok (.ireturn, 1) := by decide +kernel
theorem dX5_firstCrewFor_23 : decode cX5_firstCrewFor 23 = .ok (.iconst 0, 1) := by decide +kernel
theorem dX5_firstCrewFor_24 : decode cX5_firstCrewFor 24 = .ok (.istore_n 2, 1) := by decide +kernel
theorem dX5_firstCrewFor_25 : decode cX5_firstCrewFor 25 = .ok (.iload_n 2, 1) := by decide +kernel
theorem dX5_firstCrewFor_26 : decode cX5_firstCrewFor 26 = .ok (.aload_n 0, 1) := by decide +kernel
theorem dX5_firstCrewFor_27 : decode cX5_firstCrewFor 27 = .ok (.getfield 37, 3) := by decide +kernel
theorem dX5_firstCrewFor_30 : decode cX5_firstCrewFor 30 = .ok (.if_icmp .ge 25, 3) := by decide +kernel
theorem dX5_firstCrewFor_33 : decode cX5_firstCrewFor 33 = .ok (.aload_n 0, 1) := by decide +kernel
theorem dX5_firstCrewFor_34 : decode cX5_firstCrewFor 34 = .ok (.iload_n 2, 1) := by decide +kernel
theorem dX5_firstCrewFor_35 : decode cX5_firstCrewFor 35 = .ok (.aload_n 0, 1) := by decide +kernel
theorem dX5_firstCrewFor_36 : decode cX5_firstCrewFor 36 = .ok (.getfield 25, 3) := by decide +kernel
theorem dX5_firstCrewFor_39 : decode cX5_firstCrewFor 39 = .ok (.iload_n 1, 1) := by decide +kernel
theorem dX5_firstCrewFor_40 : decode cX5_firstCrewFor 40 = .ok (.aaload, 1) := by decide +kernel
theorem dX5_firstCrewFor_41 : decode cX5_firstCrewFor 41 = .ok (.invokevirtual 117, 3) := by decide +kernel
theorem dX5_firstCrewFor_44 : decode cX5_firstCrewFor 44 = .ok (.ifCond .eq 5, 3) := by decide +kernel
theorem dX5_firstCrewFor_47 : decode cX5_firstCrewFor 47 = .ok (.iload_n 2, 1) := by decide +kernel
theorem dX5_firstCrewFor_48 : decode cX5_firstCrewFor 48 = .ok (.ireturn, 1) := by decide +kernel
theorem dX5_firstCrewFor_49 : decode cX5_firstCrewFor 49 = .ok (.iinc 2 1, 3) := by decide +kernel
theorem dX5_firstCrewFor_52 : decode cX5_firstCrewFor 52 = .ok (.goto (-27), 3) := by decide +kernel
theorem dX5_firstCrewFor_55 : decode cX5_firstCrewFor 55 = .ok (.bipush (-5), 2) := by decide +kernel
theorem dX5_firstCrewFor_57 : decode cX5_firstCrewFor 57 = .ok (.ireturn, 1) := by decide +kernel
theorem dX5_tagsHanging_0 : decode cX5_tagsHanging 0 = .ok (.aload_n 0, 1) := by decide +kernel
theorem dX5_tagsHanging_1 : decode cX5_tagsHanging 1 = .ok (.iload_n 1, 1) := by decide +kernel
theorem dX5_tagsHanging_2 : decode cX5_tagsHanging 2 = .ok (.iconst 1, 1) := by decide +kernel
theorem dX5_tagsHanging_3 : decode cX5_tagsHanging 3 = .ok (.iconst 3, 1) := by decide +kernel
theorem dX5_tagsHanging_4 : decode cX5_tagsHanging 4 = .ok (.invokevirtual 196, 3) := by decide +kernel
theorem dX5_tagsHanging_7 : decode cX5_tagsHanging 7 = .ok (.ireturn, 1) := by decide +kernel
theorem dX5_taskOfTag_0 : decode cX5_taskOfTag 0 = .ok (.aload_n 0, 1) := by decide +kernel
theorem dX5_taskOfTag_1 : decode cX5_taskOfTag 1 = .ok (.iload_n 1, 1) := by decide +kernel
theorem dX5_taskOfTag_2 : decode cX5_taskOfTag 2 = .ok (.invokevirtual 91, 3) := by decide +kernel
theorem dX5_taskOfTag_5 : decode cX5_taskOfTag 5 = .ok (.iconst 1, 1) := by decide +kernel
theorem dX5_taskOfTag_6 : decode cX5_taskOfTag 6 = .ok (.isub, 1) := by decide +kernel
theorem dX5_taskOfTag_7 : decode cX5_taskOfTag 7 = .ok (.iload_n 2, 1) := by decide +kernel
theorem dX5_taskOfTag_8 : decode cX5_taskOfTag 8 = .ok (.isub, 1) := by decide +kernel
theorem dX5_taskOfTag_9 : decode cX5_taskOfTag 9 = .ok (.istore_n 3, 1) := by decide +kernel
theorem dX5_taskOfTag_10 : decode cX5_taskOfTag 10 = .ok (.iconst 0, 1) := by decide +kernel
theorem dX5_taskOfTag_11 : decode cX5_taskOfTag 11 = .ok (.istore 4, 2) := by decide +kernel
theorem dX5_taskOfTag_13 : decode cX5_taskOfTag 13 = .ok (.iload 4, 2) := by decide +kernel
theorem dX5_taskOfTag_15 : decode cX5_taskOfTag 15 = .ok (.aload_n 0, 1) := by decide +kernel
theorem dX5_taskOfTag_16 : decode cX5_taskOfTag 16 = .ok (.getfield 40, 3) := by decide +kernel
theorem dX5_taskOfTag_19 : decode cX5_taskOfTag 19 = .ok (.if_icmp .ge 47, 3) := by decide +kernel
theorem dX5_taskOfTag_22 : decode cX5_taskOfTag 22 = .ok (.aload_n 0, 1) := by decide +kernel
theorem dX5_taskOfTag_23 : decode cX5_taskOfTag 23 = .ok (.getfield 25, 3) := by decide +kernel
theorem dX5_taskOfTag_26 : decode cX5_taskOfTag 26 = .ok (.iload 4, 2) := by decide +kernel
theorem dX5_taskOfTag_28 : decode cX5_taskOfTag 28 = .ok (.aaload, 1) := by decide +kernel
theorem dX5_taskOfTag_29 : decode cX5_taskOfTag 29 = .ok (.astore 5, 2) := by decide +kernel
theorem dX5_taskOfTag_31 : decode cX5_taskOfTag 31 = .ok (.aload 5, 2) := by decide +kernel
theorem dX5_taskOfTag_33 : decode cX5_taskOfTag 33 = .ok (.getfield 111, 3) := by decide +kernel
theorem dX5_taskOfTag_36 : decode cX5_taskOfTag 36 = .ok (.iload_n 1, 1) := by decide +kernel
theorem dX5_taskOfTag_37 : decode cX5_taskOfTag 37 = .ok (.if_icmp .ne 23, 3) := by decide +kernel
theorem dX5_taskOfTag_40 : decode cX5_taskOfTag 40 = .ok (.aload 5, 2) := by decide +kernel
theorem dX5_taskOfTag_42 : decode cX5_taskOfTag 42 = .ok (.invokevirtual 200, 3) := by decide +kernel
theorem dX5_taskOfTag_45 : decode cX5_taskOfTag 45 = .ok (.ifCond .eq 15, 3) := by decide +kernel
theorem dX5_taskOfTag_48 : decode cX5_taskOfTag 48 = .ok (.aload 5, 2) := by decide +kernel
theorem dX5_taskOfTag_50 : decode cX5_taskOfTag 50 = .ok (.getfield 121, 3) := by decide +kernel
theorem dX5_taskOfTag_53 : decode cX5_taskOfTag 53 = .ok (.iload_n 3, 1) := by decide +kernel
theorem dX5_taskOfTag_54 : decode cX5_taskOfTag 54 = .ok (.if_icmp .ne 6, 3) := by decide +kernel
theorem dX5_taskOfTag_57 : decode cX5_taskOfTag 57 = .ok (.iload 4, 2) := by decide +kernel
theorem dX5_taskOfTag_59 : decode cX5_taskOfTag 59 = .ok (.ireturn, 1) := by decide +kernel
theorem dX5_taskOfTag_60 : decode cX5_taskOfTag 60 = .ok (.iinc 4 1, 3) := by decide +kernel
theorem dX5_taskOfTag_63 : decode cX5_taskOfTag 63 = .ok (.goto (-50), 3) := by decide +kernel
theorem dX5_taskOfTag_66 : decode cX5_taskOfTag 66 = .ok (.bipush (-5), 2) := by decide +kernel
theorem dX5_taskOfTag_68 : decode cX5_taskOfTag 68 = .ok (.ireturn, 1) := by decide +kernel
theorem dX5_tasksOfAsset_0 : decode cX5_tasksOfAsset 0 = .ok (.iconst 0, 1) := by decide +kernel
theorem dX5_tasksOfAsset_1 : decode cX5_tasksOfAsset 1 = .ok (.istore 4, 2) := by decide +kernel
theorem dX5_tasksOfAsset_3 : decode cX5_tasksOfAsset 3 = .ok (.iconst 0, 1) := by decide +kernel
theorem dX5_tasksOfAsset_4 : decode cX5_tasksOfAsset 4 = .ok (.istore 5, 2) := by decide +kernel
theorem dX5_tasksOfAsset_6 : decode cX5_tasksOfAsset 6 = .ok (.iload 5, 2) := by decide +kernel
theorem dX5_tasksOfAsset_8 : decode cX5_tasksOfAsset 8 = .ok (.aload_n 0, 1) := by decide +kernel
theorem dX5_tasksOfAsset_9 : decode cX5_tasksOfAsset 9 = .ok (.getfield 40, 3) := by decide +kernel
theorem dX5_tasksOfAsset_12 : decode cX5_tasksOfAsset 12 = .ok (.if_icmp .ge 41, 3) := by decide +kernel
theorem dX5_tasksOfAsset_15 : decode cX5_tasksOfAsset 15 = .ok (.aload_n 0, 1) := by decide +kernel
theorem dX5_tasksOfAsset_16 : decode cX5_tasksOfAsset 16 = .ok (.getfield 25, 3) := by decide +kernel
theorem dX5_tasksOfAsset_19 : decode cX5_tasksOfAsset 19 = .ok (.iload 5, 2) := by decide +kernel
theorem dX5_tasksOfAsset_21 : decode cX5_tasksOfAsset 21 = .ok (.aaload, 1) := by decide +kernel
theorem dX5_tasksOfAsset_22 : decode cX5_tasksOfAsset 22 = .ok (.getfield 111, 3) := by decide +kernel
theorem dX5_tasksOfAsset_25 : decode cX5_tasksOfAsset 25 = .ok (.iload_n 1, 1) := by decide +kernel
theorem dX5_tasksOfAsset_26 : decode cX5_tasksOfAsset 26 = .ok (.if_icmp .ne 21, 3) := by decide +kernel
theorem dX5_tasksOfAsset_29 : decode cX5_tasksOfAsset 29 = .ok (.aload_n 0, 1) := by decide +kernel
theorem dX5_tasksOfAsset_30 : decode cX5_tasksOfAsset 30 = .ok (.getfield 25, 3) := by decide +kernel
theorem dX5_tasksOfAsset_33 : decode cX5_tasksOfAsset 33 = .ok (.iload 5, 2) := by decide +kernel
theorem dX5_tasksOfAsset_35 : decode cX5_tasksOfAsset 35 = .ok (.aaload, 1) := by decide +kernel
theorem dX5_tasksOfAsset_36 : decode cX5_tasksOfAsset 36 = .ok (.iload_n 2, 1) := by decide +kernel
theorem dX5_tasksOfAsset_37 : decode cX5_tasksOfAsset 37 = .ok (.iload_n 3, 1) := by decide +kernel
theorem dX5_tasksOfAsset_38 : decode cX5_tasksOfAsset 38 = .ok (.invokevirtual 162, 3) := by decide +kernel
theorem dX5_tasksOfAsset_41 : decode cX5_tasksOfAsset 41 = .ok (.ifCond .eq 6, 3) := by decide +kernel
theorem dX5_tasksOfAsset_44 : decode cX5_tasksOfAsset 44 = .ok (.iinc 4 1, 3) := by decide +kernel
theorem dX5_tasksOfAsset_47 : decode cX5_tasksOfAsset 47 = .ok (.iinc 5 1, 3) := by decide +kernel
theorem dX5_tasksOfAsset_50 : decode cX5_tasksOfAsset 50 = .ok (.goto (-44), 3) := by decide +kernel
theorem dX5_tasksOfAsset_53 : decode cX5_tasksOfAsset 53 = .ok (.iload 4, 2) := by decide +kernel
theorem dX5_tasksOfAsset_55 : decode cX5_tasksOfAsset 55 = .ok (.ireturn, 1) := by decide +kernel
theorem dX5_tasksOfCrew_0 : decode cX5_tasksOfCrew 0 = .ok (.iconst 0, 1) := by decide +kernel
theorem dX5_tasksOfCrew_1 : decode cX5_tasksOfCrew 1 = .ok (.istore 4, 2) := by decide +kernel
theorem dX5_tasksOfCrew_3 : decode cX5_tasksOfCrew 3 = .ok (.iconst 0, 1) := by decide +kernel
theorem dX5_tasksOfCrew_4 : decode cX5_tasksOfCrew 4 = .ok (.istore 5, 2) := by decide +kernel
theorem dX5_tasksOfCrew_6 : decode cX5_tasksOfCrew 6 = .ok (.iload 5, 2) := by decide +kernel
theorem dX5_tasksOfCrew_8 : decode cX5_tasksOfCrew 8 = .ok (.aload_n 0, 1) := by decide +kernel
theorem dX5_tasksOfCrew_9 : decode cX5_tasksOfCrew 9 = .ok (.getfield 40, 3) := by decide +kernel
theorem dX5_tasksOfCrew_12 : decode cX5_tasksOfCrew 12 = .ok (.if_icmp .ge 41, 3) := by decide +kernel
theorem dX5_tasksOfCrew_15 : decode cX5_tasksOfCrew 15 = .ok (.aload_n 0, 1) := by decide +kernel
theorem dX5_tasksOfCrew_16 : decode cX5_tasksOfCrew 16 = .ok (.getfield 25, 3) := by decide +kernel
theorem dX5_tasksOfCrew_19 : decode cX5_tasksOfCrew 19 = .ok (.iload 5, 2) := by decide +kernel
theorem dX5_tasksOfCrew_21 : decode cX5_tasksOfCrew 21 = .ok (.aaload, 1) := by decide +kernel
theorem dX5_tasksOfCrew_22 : decode cX5_tasksOfCrew 22 = .ok (.getfield 124, 3) := by decide +kernel
theorem dX5_tasksOfCrew_25 : decode cX5_tasksOfCrew 25 = .ok (.iload_n 1, 1) := by decide +kernel
theorem dX5_tasksOfCrew_26 : decode cX5_tasksOfCrew 26 = .ok (.if_icmp .ne 21, 3) := by decide +kernel
theorem dX5_tasksOfCrew_29 : decode cX5_tasksOfCrew 29 = .ok (.aload_n 0, 1) := by decide +kernel
theorem dX5_tasksOfCrew_30 : decode cX5_tasksOfCrew 30 = .ok (.getfield 25, 3) := by decide +kernel
theorem dX5_tasksOfCrew_33 : decode cX5_tasksOfCrew 33 = .ok (.iload 5, 2) := by decide +kernel
theorem dX5_tasksOfCrew_35 : decode cX5_tasksOfCrew 35 = .ok (.aaload, 1) := by decide +kernel
theorem dX5_tasksOfCrew_36 : decode cX5_tasksOfCrew 36 = .ok (.iload_n 2, 1) := by decide +kernel
theorem dX5_tasksOfCrew_37 : decode cX5_tasksOfCrew 37 = .ok (.iload_n 3, 1) := by decide +kernel
theorem dX5_tasksOfCrew_38 : decode cX5_tasksOfCrew 38 = .ok (.invokevirtual 162, 3) := by decide +kernel
theorem dX5_tasksOfCrew_41 : decode cX5_tasksOfCrew 41 = .ok (.ifCond .eq 6, 3) := by decide +kernel
theorem dX5_tasksOfCrew_44 : decode cX5_tasksOfCrew 44 = .ok (.iinc 4 1, 3) := by decide +kernel
theorem dX5_tasksOfCrew_47 : decode cX5_tasksOfCrew 47 = .ok (.iinc 5 1, 3) := by decide +kernel
theorem dX5_tasksOfCrew_50 : decode cX5_tasksOfCrew 50 = .ok (.goto (-44), 3) := by decide +kernel
theorem dX5_tasksOfCrew_53 : decode cX5_tasksOfCrew 53 = .ok (.iload 4, 2) := by decide +kernel
theorem dX5_tasksOfCrew_55 : decode cX5_tasksOfCrew 55 = .ok (.ireturn, 1) := by decide +kernel
theorem dX5_tasksIn_0 : decode cX5_tasksIn 0 = .ok (.iconst 0, 1) := by decide +kernel
theorem dX5_tasksIn_1 : decode cX5_tasksIn 1 = .ok (.istore_n 3, 1) := by decide +kernel
theorem dX5_tasksIn_2 : decode cX5_tasksIn 2 = .ok (.iconst 0, 1) := by decide +kernel
theorem dX5_tasksIn_3 : decode cX5_tasksIn 3 = .ok (.istore 4, 2) := by decide +kernel
theorem dX5_tasksIn_5 : decode cX5_tasksIn 5 = .ok (.iload 4, 2) := by decide +kernel
theorem dX5_tasksIn_7 : decode cX5_tasksIn 7 = .ok (.aload_n 0, 1) := by decide +kernel
theorem dX5_tasksIn_8 : decode cX5_tasksIn 8 = .ok (.getfield 40, 3) := by decide +kernel
theorem dX5_tasksIn_11 : decode cX5_tasksIn 11 = .ok (.if_icmp .ge 27, 3) := by decide +kernel
theorem dX5_tasksIn_14 : decode cX5_tasksIn 14 = .ok (.aload_n 0, 1) := by decide +kernel
theorem dX5_tasksIn_15 : decode cX5_tasksIn 15 = .ok (.getfield 25, 3) := by decide +kernel
theorem dX5_tasksIn_18 : decode cX5_tasksIn 18 = .ok (.iload 4, 2) := by decide +kernel
theorem dX5_tasksIn_20 : decode cX5_tasksIn 20 = .ok (.aaload, 1) := by decide +kernel
theorem dX5_tasksIn_21 : decode cX5_tasksIn 21 = .ok (.iload_n 1, 1) := by decide +kernel
theorem dX5_tasksIn_22 : decode cX5_tasksIn 22 = .ok (.iload_n 2, 1) := by decide +kernel
theorem dX5_tasksIn_23 : decode cX5_tasksIn 23 = .ok (.invokevirtual 162, 3) := by decide +kernel
theorem dX5_tasksIn_26 : decode cX5_tasksIn 26 = .ok (.ifCond .eq 6, 3) := by decide +kernel
theorem dX5_tasksIn_29 : decode cX5_tasksIn 29 = .ok (.iinc 3 1, 3) := by decide +kernel
theorem dX5_tasksIn_32 : decode cX5_tasksIn 32 = .ok (.iinc 4 1, 3) := by decide +kernel
theorem dX5_tasksIn_35 : decode cX5_tasksIn 35 = .ok (.goto (-30), 3) := by decide +kernel
theorem dX5_tasksIn_38 : decode cX5_tasksIn 38 = .ok (.iload_n 3, 1) := by decide +kernel
theorem dX5_tasksIn_39 : decode cX5_tasksIn 39 = .ok (.ireturn, 1) := by decide +kernel
theorem dX5_busyPeople_0 : decode cX5_busyPeople 0 = .ok (.iconst 0, 1) := by decide +kernel
theorem dX5_busyPeople_1 : decode cX5_busyPeople 1 = .ok (.istore_n 2, 1) := by decide +kernel
theorem dX5_busyPeople_2 : decode cX5_busyPeople 2 = .ok (.iconst 0, 1) := by decide +kernel
theorem dX5_busyPeople_3 : decode cX5_busyPeople 3 = .ok (.istore_n 3, 1) := by decide +kernel
theorem dX5_busyPeople_4 : decode cX5_busyPeople 4 = .ok (.iload_n 3, 1) := by decide +kernel
theorem dX5_busyPeople_5 : decode cX5_busyPeople 5 = .ok (.aload_n 0, 1) := by decide +kernel
theorem dX5_busyPeople_6 : decode cX5_busyPeople 6 = .ok (.getfield 40, 3) := by decide +kernel
theorem dX5_busyPeople_9 : decode cX5_busyPeople 9 = .ok (.if_icmp .ge 46, 3) := by decide +kernel
theorem dX5_busyPeople_12 : decode cX5_busyPeople 12 = .ok (.aload_n 0, 1) := by decide +kernel
theorem dX5_busyPeople_13 : decode cX5_busyPeople 13 = .ok (.getfield 25, 3) := by decide +kernel
theorem dX5_busyPeople_16 : decode cX5_busyPeople 16 = .ok (.iload_n 3, 1) := by decide +kernel
theorem dX5_busyPeople_17 : decode cX5_busyPeople 17 = .ok (.aaload, 1) := by decide +kernel
theorem dX5_busyPeople_18 : decode cX5_busyPeople 18 = .ok (.getfield 124, 3) := by decide +kernel
theorem dX5_busyPeople_21 : decode cX5_busyPeople 21 = .ok (.iload_n 1, 1) := by decide +kernel
theorem dX5_busyPeople_22 : decode cX5_busyPeople 22 = .ok (.if_icmp .ne 27, 3) := by decide +kernel
theorem dX5_busyPeople_25 : decode cX5_busyPeople 25 = .ok (.aload_n 0, 1) := by decide +kernel
theorem dX5_busyPeople_26 : decode cX5_busyPeople 26 = .ok (.getfield 25, 3) := by decide +kernel
theorem dX5_busyPeople_29 : decode cX5_busyPeople 29 = .ok (.iload_n 3, 1) := by decide +kernel
theorem dX5_busyPeople_30 : decode cX5_busyPeople 30 = .ok (.aaload, 1) := by decide +kernel
theorem dX5_busyPeople_31 : decode cX5_busyPeople 31 = .ok (.invokevirtual 200, 3) := by decide +kernel
theorem dX5_busyPeople_34 : decode cX5_busyPeople 34 = .ok (.ifCond .eq 15, 3) := by decide +kernel
theorem dX5_busyPeople_37 : decode cX5_busyPeople 37 = .ok (.iload_n 2, 1) := by decide +kernel
theorem dX5_busyPeople_38 : decode cX5_busyPeople 38 = .ok (.aload_n 0, 1) := by decide +kernel
theorem dX5_busyPeople_39 : decode cX5_busyPeople 39 = .ok (.getfield 25, 3) := by decide +kernel
theorem dX5_busyPeople_42 : decode cX5_busyPeople 42 = .ok (.iload_n 3, 1) := by decide +kernel
theorem dX5_busyPeople_43 : decode cX5_busyPeople 43 = .ok (.aaload, 1) := by decide +kernel
theorem dX5_busyPeople_44 : decode cX5_busyPeople 44 = .ok (.getfield 195, 3) := by decide +kernel
theorem dX5_busyPeople_47 : decode cX5_busyPeople 47 = .ok (.iadd, 1) := by decide +kernel
theorem dX5_busyPeople_48 : decode cX5_busyPeople 48 = .ok (.istore_n 2, 1) := by decide +kernel
theorem dX5_busyPeople_49 : decode cX5_busyPeople 49 = .ok (.iinc 3 1, 3) := by decide +kernel
theorem dX5_busyPeople_52 : decode cX5_busyPeople 52 = .ok (.goto (-48), 3) := by decide +kernel
theorem dX5_busyPeople_55 : decode cX5_busyPeople 55 = .ok (.iload_n 2, 1) := by decide +kernel
theorem dX5_busyPeople_56 : decode cX5_busyPeople 56 = .ok (.ireturn, 1) := by decide +kernel
theorem dX5_allBusyPeople_0 : decode cX5_allBusyPeople 0 = .ok (.iconst 0, 1) := by decide +kernel
theorem dX5_allBusyPeople_1 : decode cX5_allBusyPeople 1 = .ok (.istore_n 1, 1) := by decide +kernel
theorem dX5_allBusyPeople_2 : decode cX5_allBusyPeople 2 = .ok (.iconst 0, 1) := by decide +kernel
theorem dX5_allBusyPeople_3 : decode cX5_allBusyPeople 3 = .ok (.istore_n 2, 1) := by decide +kernel
theorem dX5_allBusyPeople_4 : decode cX5_allBusyPeople 4 = .ok (.iload_n 2, 1) := by decide +kernel
theorem dX5_allBusyPeople_5 : decode cX5_allBusyPeople 5 = .ok (.aload_n 0, 1) := by decide +kernel
theorem dX5_allBusyPeople_6 : decode cX5_allBusyPeople 6 = .ok (.getfield 40, 3) := by decide +kernel
theorem dX5_allBusyPeople_9 : decode cX5_allBusyPeople 9 = .ok (.if_icmp .ge 33, 3) := by decide +kernel
theorem dX5_allBusyPeople_12 : decode cX5_allBusyPeople 12 = .ok (.aload_n 0, 1) := by decide +kernel
theorem dX5_allBusyPeople_13 : decode cX5_allBusyPeople 13 = .ok (.getfield 25, 3) := by decide +kernel
theorem dX5_allBusyPeople_16 : decode cX5_allBusyPeople 16 = .ok (.iload_n 2, 1) := by decide +kernel
theorem dX5_allBusyPeople_17 : decode cX5_allBusyPeople 17 = .ok (.aaload, 1) := by decide +kernel
theorem dX5_allBusyPeople_18 : decode cX5_allBusyPeople 18 = .ok (.invokevirtual 200, 3) := by decide +kernel
theorem dX5_allBusyPeople_21 : decode cX5_allBusyPeople 21 = .ok (.ifCond .eq 15, 3) := by decide +kernel
theorem dX5_allBusyPeople_24 : decode cX5_allBusyPeople 24 = .ok (.iload_n 1, 1) := by decide +kernel
theorem dX5_allBusyPeople_25 : decode cX5_allBusyPeople 25 = .ok (.aload_n 0, 1) := by decide +kernel
theorem dX5_allBusyPeople_26 : decode cX5_allBusyPeople 26 = .ok (.getfield 25, 3) := by decide +kernel
theorem dX5_allBusyPeople_29 : decode cX5_allBusyPeople 29 = .ok (.iload_n 2, 1) := by decide +kernel
theorem dX5_allBusyPeople_30 : decode cX5_allBusyPeople 30 = .ok (.aaload, 1) := by decide +kernel
theorem dX5_allBusyPeople_31 : decode cX5_allBusyPeople 31 = .ok (.getfield 195, 3) := by decide +kernel
theorem dX5_allBusyPeople_34 : decode cX5_allBusyPeople 34 = .ok (.iadd, 1) := by decide +kernel
theorem dX5_allBusyPeople_35 : decode cX5_allBusyPeople 35 = .ok (.istore_n 1, 1) := by decide +kernel
theorem dX5_allBusyPeople_36 : decode cX5_allBusyPeople 36 = .ok (.iinc 2 1, 3) := by decide +kernel
theorem dX5_allBusyPeople_39 : decode cX5_allBusyPeople 39 = .ok (.goto (-35), 3) := by decide +kernel
theorem dX5_allBusyPeople_42 : decode cX5_allBusyPeople 42 = .ok (.iload_n 1, 1) := by decide +kernel
theorem dX5_allBusyPeople_43 : decode cX5_allBusyPeople 43 = .ok (.ireturn, 1) := by decide +kernel
theorem dX5_assetsRunning_0 : decode cX5_assetsRunning 0 = .ok (.iconst 0, 1) := by decide +kernel
theorem dX5_assetsRunning_1 : decode cX5_assetsRunning 1 = .ok (.istore_n 1, 1) := by decide +kernel
theorem dX5_assetsRunning_2 : decode cX5_assetsRunning 2 = .ok (.iconst 0, 1) := by decide +kernel
theorem dX5_assetsRunning_3 : decode cX5_assetsRunning 3 = .ok (.istore_n 2, 1) := by decide +kernel
theorem dX5_assetsRunning_4 : decode cX5_assetsRunning 4 = .ok (.iload_n 2, 1) := by decide +kernel
theorem dX5_assetsRunning_5 : decode cX5_assetsRunning 5 = .ok (.aload_n 0, 1) := by decide +kernel
theorem dX5_assetsRunning_6 : decode cX5_assetsRunning 6 = .ok (.getfield 33, 3) := by decide +kernel
theorem dX5_assetsRunning_9 : decode cX5_assetsRunning 9 = .ok (.if_icmp .ge 24, 3) := by decide +kernel
theorem dX5_assetsRunning_12 : decode cX5_assetsRunning 12 = .ok (.aload_n 0, 1) := by decide +kernel
theorem dX5_assetsRunning_13 : decode cX5_assetsRunning 13 = .ok (.getfield 11, 3) := by decide +kernel
theorem dX5_assetsRunning_16 : decode cX5_assetsRunning 16 = .ok (.iload_n 2, 1) := by decide +kernel
theorem dX5_assetsRunning_17 : decode cX5_assetsRunning 17 = .ok (.aaload, 1) := by decide +kernel
theorem dX5_assetsRunning_18 : decode cX5_assetsRunning 18 = .ok (.getfield 94, 3) := by decide +kernel
theorem dX5_assetsRunning_21 : decode cX5_assetsRunning 21 = .ok (.ifCond .eq 6, 3) := by decide +kernel
theorem dX5_assetsRunning_24 : decode cX5_assetsRunning 24 = .ok (.iinc 1 1, 3) := by decide +kernel
theorem dX5_assetsRunning_27 : decode cX5_assetsRunning 27 = .ok (.iinc 2 1, 3) := by decide +kernel
theorem dX5_assetsRunning_30 : decode cX5_assetsRunning 30 = .ok (.goto (-26), 3) := by decide +kernel
theorem dX5_assetsRunning_33 : decode cX5_assetsRunning 33 = .ok (.iload_n 1, 1) := by decide +kernel
theorem dX5_assetsRunning_34 : decode cX5_assetsRunning 34 = .ok (.ireturn, 1) := by decide +kernel
theorem dX5_slipsSoFar_0 : decode cX5_slipsSoFar 0 = .ok (.iconst 0, 1) := by decide +kernel
theorem dX5_slipsSoFar_1 : decode cX5_slipsSoFar 1 = .ok (.istore_n 1, 1) := by decide +kernel
theorem dX5_slipsSoFar_2 : decode cX5_slipsSoFar 2 = .ok (.iconst 0, 1) := by decide +kernel
theorem dX5_slipsSoFar_3 : decode cX5_slipsSoFar 3 = .ok (.istore_n 2, 1) := by decide +kernel
theorem dX5_slipsSoFar_4 : decode cX5_slipsSoFar 4 = .ok (.iload_n 2, 1) := by decide +kernel
theorem dX5_slipsSoFar_5 : decode cX5_slipsSoFar 5 = .ok (.aload_n 0, 1) := by decide +kernel
theorem dX5_slipsSoFar_6 : decode cX5_slipsSoFar 6 = .ok (.getfield 40, 3) := by decide +kernel
theorem dX5_slipsSoFar_9 : decode cX5_slipsSoFar 9 = .ok (.if_icmp .ge 21, 3) := by decide +kernel
theorem dX5_slipsSoFar_12 : decode cX5_slipsSoFar 12 = .ok (.iload_n 1, 1) := by decide +kernel
theorem dX5_slipsSoFar_13 : decode cX5_slipsSoFar 13 = .ok (.aload_n 0, 1) := by decide +kernel
theorem dX5_slipsSoFar_14 : decode cX5_slipsSoFar 14 = .ok (.getfield 25, 3) := by decide +kernel
theorem dX5_slipsSoFar_17 : decode cX5_slipsSoFar 17 = .ok (.iload_n 2, 1) := by decide +kernel
theorem dX5_slipsSoFar_18 : decode cX5_slipsSoFar 18 = .ok (.aaload, 1) := by decide +kernel
theorem dX5_slipsSoFar_19 : decode cX5_slipsSoFar 19 = .ok (.getfield 140, 3) := by decide +kernel
theorem dX5_slipsSoFar_22 : decode cX5_slipsSoFar 22 = .ok (.iadd, 1) := by decide +kernel
theorem dX5_slipsSoFar_23 : decode cX5_slipsSoFar 23 = .ok (.istore_n 1, 1) := by decide +kernel
theorem dX5_slipsSoFar_24 : decode cX5_slipsSoFar 24 = .ok (.iinc 2 1, 3) := by decide +kernel
theorem dX5_slipsSoFar_27 : decode cX5_slipsSoFar 27 = .ok (.goto (-23), 3) := by decide +kernel
theorem dX5_slipsSoFar_30 : decode cX5_slipsSoFar 30 = .ok (.iload_n 1, 1) := by decide +kernel
theorem dX5_slipsSoFar_31 : decode cX5_slipsSoFar 31 = .ok (.ireturn, 1) := by decide +kernel
theorem dX6_init_0 : decode cX6_init 0 = .ok (.aload_n 0, 1) := by decide +kernel
theorem dX6_init_1 : decode cX6_init 1 = .ok (.invokespecial 3, 3) := by decide +kernel
theorem dX6_init_4 : decode cX6_init 4 = .ok (.aload_n 0, 1) := by decide +kernel
theorem dX6_init_5 : decode cX6_init 5 = .ok (.iconst 0, 1) := by decide +kernel
theorem dX6_init_6 : decode cX6_init 6 = .ok (.putfield 9, 3) := by decide +kernel
theorem dX6_init_9 : decode cX6_init 9 = .ok (.aload_n 0, 1) := by decide +kernel
theorem dX6_init_10 : decode cX6_init 10 = .ok (.iconst 0, 1) := by decide +kernel
theorem dX6_init_11 : decode cX6_init 11 = .ok (.putfield 15, 3) := by decide +kernel
theorem dX6_init_14 : decode cX6_init 14 = .ok (.aload_n 0, 1) := by decide +kernel
theorem dX6_init_15 : decode cX6_init 15 = .ok (.iconst 0, 1) := by decide +kernel
theorem dX6_init_16 : decode cX6_init 16 = .ok (.putfield 18, 3) := by decide +kernel
theorem dX6_init_19 : decode cX6_init 19 = .ok (.aload_n 0, 1) := by decide +kernel
theorem dX6_init_20 : decode cX6_init 20 = .ok (.iconst 0, 1) := by decide +kernel
theorem dX6_init_21 : decode cX6_init 21 = .ok (.putfield 21, 3) := by decide +kernel
theorem dX6_init_24 : decode cX6_init 24 = .ok (.aload_n 0, 1) := by decide +kernel
theorem dX6_init_25 : decode cX6_init 25 = .ok (.iconst 0, 1) := by decide +kernel
theorem dX6_init_26 : decode cX6_init 26 = .ok (.putfield 24, 3) := by decide +kernel
theorem dX6_init_29 : decode cX6_init 29 = .ok (.aload_n 0, 1) := by decide +kernel
theorem dX6_init_30 : decode cX6_init 30 = .ok (.iconst 0, 1) := by decide +kernel
theorem dX6_init_31 : decode cX6_init 31 = .ok (.putfield 27, 3) := by decide +kernel
theorem dX6_init_34 : decode cX6_init 34 = .ok (.aload_n 0, 1) := by decide +kernel
theorem dX6_init_35 : decode cX6_init 35 = .ok (.iconst 0, 1) := by decide +kernel
theorem dX6_init_36 : decode cX6_init 36 = .ok (.putfield 30, 3) := by decide +kernel
theorem dX6_init_39 : decode cX6_init 39 = .ok (.aload_n 0, 1) := by decide +kernel
theorem dX6_init_40 : decode cX6_init 40 = .ok (.iconst 0, 1) := by decide +kernel
theorem dX6_init_41 : decode cX6_init 41 = .ok (.putfield 33, 3) := by decide +kernel
theorem dX6_init_44 : decode cX6_init 44 = .ok (.aload_n 0, 1) := by decide +kernel
theorem dX6_init_45 : decode cX6_init 45 = .ok (.bipush (-5), 2) := by decide +kernel
theorem dX6_init_47 : decode cX6_init 47 = .ok (.putfield 36, 3) := by decide +kernel
theorem dX6_init_50 : decode cX6_init 50 = .ok (.aload_n 0, 1) := by decide +kernel
theorem dX6_init_51 : decode cX6_init 51 = .ok (.iconst 0, 1) := by decide +kernel
theorem dX6_init_52 : decode cX6_init 52 = .ok (.putfield 39, 3) := by decide +kernel
theorem dX6_init_55 : decode cX6_init 55 = .ok (.aload_n 0, 1) := by decide +kernel
theorem dX6_init_56 : decode cX6_init 56 = .ok (.iconst 0, 1) := by decide +kernel
theorem dX6_init_57 : decode cX6_init 57 = .ok (.putfield 42, 3) := by decide +kernel
theorem dX6_init_60 : decode cX6_init 60 = .ok (.aload_n 0, 1) := by decide +kernel
theorem dX6_init_61 : decode cX6_init 61 = .ok (.iconst 0, 1) := by decide +kernel
theorem dX6_init_62 : decode cX6_init 62 = .ok (.putfield 45, 3) := by decide +kernel
theorem dX6_init_65 : decode cX6_init 65 = .ok (.return_, 1) := by decide +kernel
theorem dX6_setUp_0 : decode cX6_setUp 0 = .ok (.aload_n 0, 1) := by decide +kernel
theorem dX6_setUp_1 : decode cX6_setUp 1 = .ok (.iload_n 1, 1) := by decide +kernel
theorem dX6_setUp_2 : decode cX6_setUp 2 = .ok (.putfield 9, 3) := by decide +kernel
theorem dX6_setUp_5 : decode cX6_setUp 5 = .ok (.aload_n 0, 1) := by decide +kernel
theorem dX6_setUp_6 : decode cX6_setUp 6 = .ok (.iload_n 2, 1) := by decide +kernel
theorem dX6_setUp_7 : decode cX6_setUp 7 = .ok (.putfield 15, 3) := by decide +kernel
theorem dX6_setUp_10 : decode cX6_setUp 10 = .ok (.aload_n 0, 1) := by decide +kernel
theorem dX6_setUp_11 : decode cX6_setUp 11 = .ok (.iload_n 3, 1) := by decide +kernel
theorem dX6_setUp_12 : decode cX6_setUp 12 = .ok (.putfield 18, 3) := by decide +kernel
theorem dX6_setUp_15 : decode cX6_setUp 15 = .ok (.aload_n 0, 1) := by decide +kernel
theorem dX6_setUp_16 : decode cX6_setUp 16 = .ok (.iload 4, 2) := by decide +kernel
theorem dX6_setUp_18 : decode cX6_setUp 18 = .ok (.putfield 21, 3) := by decide +kernel
theorem dX6_setUp_21 : decode cX6_setUp 21 = .ok (.aload_n 0, 1) := by decide +kernel
theorem dX6_setUp_22 : decode cX6_setUp 22 = .ok (.iload 5, 2) := by decide +kernel
theorem dX6_setUp_24 : decode cX6_setUp 24 = .ok (.putfield 24, 3) := by decide +kernel
theorem dX6_setUp_27 : decode cX6_setUp 27 = .ok (.aload_n 0, 1) := by decide +kernel
theorem dX6_setUp_28 : decode cX6_setUp 28 = .ok (.iload 6, 2) := by decide +kernel
theorem dX6_setUp_30 : decode cX6_setUp 30 = .ok (.putfield 27, 3) := by decide +kernel
theorem dX6_setUp_33 : decode cX6_setUp 33 = .ok (.aload_n 0, 1) := by decide +kernel
theorem dX6_setUp_34 : decode cX6_setUp 34 = .ok (.iload 6, 2) := by decide +kernel
theorem dX6_setUp_36 : decode cX6_setUp 36 = .ok (.iconst 2, 1) := by decide +kernel
theorem dX6_setUp_37 : decode cX6_setUp 37 = .ok (.iload 5, 2) := by decide +kernel
theorem dX6_setUp_39 : decode cX6_setUp 39 = .ok (.imul, 1) := by decide +kernel
theorem dX6_setUp_40 : decode cX6_setUp 40 = .ok (.iadd, 1) := by decide +kernel
theorem dX6_setUp_41 : decode cX6_setUp 41 = .ok (.bipush 6, 2) := by decide +kernel
theorem dX6_setUp_43 : decode cX6_setUp 43 = .ok (.iadd, 1) := by decide +kernel
theorem dX6_setUp_44 : decode cX6_setUp 44 = .ok (.putfield 30, 3) := by decide +kernel
theorem dX6_setUp_47 : decode cX6_setUp 47 = .ok (.aload_n 0, 1) := by decide +kernel
theorem dX6_setUp_48 : decode cX6_setUp 48 = .ok (.iconst 0, 1) := by decide +kernel
theorem dX6_setUp_49 : decode cX6_setUp 49 = .ok (.putfield 33, 3) := by decide +kernel
theorem dX6_setUp_52 : decode cX6_setUp 52 = .ok (.aload_n 0, 1) := by decide +kernel
theorem dX6_setUp_53 : decode cX6_setUp 53 = .ok (.bipush (-5), 2) := by decide +kernel
theorem dX6_setUp_55 : decode cX6_setUp 55 = .ok (.putfield 36, 3) := by decide +kernel
theorem dX6_setUp_58 : decode cX6_setUp 58 = .ok (.aload_n 0, 1) := by decide +kernel
theorem dX6_setUp_59 : decode cX6_setUp 59 = .ok (.iconst 0, 1) := by decide +kernel
theorem dX6_setUp_60 : decode cX6_setUp 60 = .ok (.putfield 39, 3) := by decide +kernel
theorem dX6_setUp_63 : decode cX6_setUp 63 = .ok (.aload_n 0, 1) := by decide +kernel
theorem dX6_setUp_64 : decode cX6_setUp 64 = .ok (.iconst 0, 1) := by decide +kernel
theorem dX6_setUp_65 : decode cX6_setUp 65 = .ok (.putfield 42, 3) := by decide +kernel
theorem dX6_setUp_68 : decode cX6_setUp 68 = .ok (.aload_n 0, 1) := by decide +kernel
theorem dX6_setUp_69 : decode cX6_setUp 69 = .ok (.iconst 0, 1) := by decide +kernel
theorem dX6_setUp_70 : decode cX6_setUp 70 = .ok (.putfield 45, 3) := by decide +kernel
theorem dX6_setUp_73 : decode cX6_setUp 73 = .ok (.return_, 1) := by decide +kernel
theorem dX6_copyFrom_0 : decode cX6_copyFrom 0 = .ok (.aload_n 0, 1) := by decide +kernel
theorem dX6_copyFrom_1 : decode cX6_copyFrom 1 = .ok (.aload_n 1, 1) := by decide +kernel
theorem dX6_copyFrom_2 : decode cX6_copyFrom 2 = .ok (.getfield 9, 3) := by decide +kernel
theorem dX6_copyFrom_5 : decode cX6_copyFrom 5 = .ok (.putfield 9, 3) := by decide +kernel
theorem dX6_copyFrom_8 : decode cX6_copyFrom 8 = .ok (.aload_n 0, 1) := by decide +kernel
theorem dX6_copyFrom_9 : decode cX6_copyFrom 9 = .ok (.aload_n 1, 1) := by decide +kernel
theorem dX6_copyFrom_10 : decode cX6_copyFrom 10 = .ok (.getfield 15, 3) := by decide +kernel
theorem dX6_copyFrom_13 : decode cX6_copyFrom 13 = .ok (.putfield 15, 3) := by decide +kernel
theorem dX6_copyFrom_16 : decode cX6_copyFrom 16 = .ok (.aload_n 0, 1) := by decide +kernel
theorem dX6_copyFrom_17 : decode cX6_copyFrom 17 = .ok (.aload_n 1, 1) := by decide +kernel
theorem dX6_copyFrom_18 : decode cX6_copyFrom 18 = .ok (.getfield 18, 3) := by decide +kernel
theorem dX6_copyFrom_21 : decode cX6_copyFrom 21 = .ok (.putfield 18, 3) := by decide +kernel
theorem dX6_copyFrom_24 : decode cX6_copyFrom 24 = .ok (.aload_n 0, 1) := by decide +kernel
theorem dX6_copyFrom_25 : decode cX6_copyFrom 25 = .ok (.aload_n 1, 1) := by decide +kernel
theorem dX6_copyFrom_26 : decode cX6_copyFrom 26 = .ok (.getfield 21, 3) := by decide +kernel
theorem dX6_copyFrom_29 : decode cX6_copyFrom 29 = .ok (.putfield 21, 3) := by decide +kernel
theorem dX6_copyFrom_32 : decode cX6_copyFrom 32 = .ok (.aload_n 0, 1) := by decide +kernel
theorem dX6_copyFrom_33 : decode cX6_copyFrom 33 = .ok (.aload_n 1, 1) := by decide +kernel
theorem dX6_copyFrom_34 : decode cX6_copyFrom 34 = .ok (.getfield 24, 3) := by decide +kernel
theorem dX6_copyFrom_37 : decode cX6_copyFrom 37 = .ok (.putfield 24, 3) := by decide +kernel
theorem dX6_copyFrom_40 : decode cX6_copyFrom 40 = .ok (.aload_n 0, 1) := by decide +kernel
theorem dX6_copyFrom_41 : decode cX6_copyFrom 41 = .ok (.aload_n 1, 1) := by decide +kernel
theorem dX6_copyFrom_42 : decode cX6_copyFrom 42 = .ok (.getfield 27, 3) := by decide +kernel
theorem dX6_copyFrom_45 : decode cX6_copyFrom 45 = .ok (.putfield 27, 3) := by decide +kernel
theorem dX6_copyFrom_48 : decode cX6_copyFrom 48 = .ok (.aload_n 0, 1) := by decide +kernel
theorem dX6_copyFrom_49 : decode cX6_copyFrom 49 = .ok (.aload_n 1, 1) := by decide +kernel
theorem dX6_copyFrom_50 : decode cX6_copyFrom 50 = .ok (.getfield 30, 3) := by decide +kernel
theorem dX6_copyFrom_53 : decode cX6_copyFrom 53 = .ok (.putfield 30, 3) := by decide +kernel
theorem dX6_copyFrom_56 : decode cX6_copyFrom 56 = .ok (.aload_n 0, 1) := by decide +kernel
theorem dX6_copyFrom_57 : decode cX6_copyFrom 57 = .ok (.aload_n 1, 1) := by decide +kernel
theorem dX6_copyFrom_58 : decode cX6_copyFrom 58 = .ok (.getfield 33, 3) := by decide +kernel
theorem dX6_copyFrom_61 : decode cX6_copyFrom 61 = .ok (.putfield 33, 3) := by decide +kernel
theorem dX6_copyFrom_64 : decode cX6_copyFrom 64 = .ok (.aload_n 0, 1) := by decide +kernel
theorem dX6_copyFrom_65 : decode cX6_copyFrom 65 = .ok (.aload_n 1, 1) := by decide +kernel
theorem dX6_copyFrom_66 : decode cX6_copyFrom 66 = .ok (.getfield 36, 3) := by decide +kernel
theorem dX6_copyFrom_69 : decode cX6_copyFrom 69 = .ok (.putfield 36, 3) := by decide +kernel
theorem dX6_copyFrom_72 : decode cX6_copyFrom 72 = .ok (.aload_n 0, 1) := by decide +kernel
theorem dX6_copyFrom_73 : decode cX6_copyFrom 73 = .ok (.aload_n 1, 1) := by decide +kernel
theorem dX6_copyFrom_74 : decode cX6_copyFrom 74 = .ok (.getfield 39, 3) := by decide +kernel
theorem dX6_copyFrom_77 : decode cX6_copyFrom 77 = .ok (.putfield 39, 3) := by decide +kernel
theorem dX6_copyFrom_80 : decode cX6_copyFrom 80 = .ok (.aload_n 0, 1) := by decide +kernel
theorem dX6_copyFrom_81 : decode cX6_copyFrom 81 = .ok (.aload_n 1, 1) := by decide +kernel
theorem dX6_copyFrom_82 : decode cX6_copyFrom 82 = .ok (.getfield 42, 3) := by decide +kernel
theorem dX6_copyFrom_85 : decode cX6_copyFrom 85 = .ok (.putfield 42, 3) := by decide +kernel
theorem dX6_copyFrom_88 : decode cX6_copyFrom 88 = .ok (.aload_n 0, 1) := by decide +kernel
theorem dX6_copyFrom_89 : decode cX6_copyFrom 89 = .ok (.aload_n 1, 1) := by decide +kernel
theorem dX6_copyFrom_90 : decode cX6_copyFrom 90 = .ok (.getfield 45, 3) := by decide +kernel
theorem dX6_copyFrom_93 : decode cX6_copyFrom 93 = .ok (.putfield 45, 3) := by decide +kernel
theorem dX6_copyFrom_96 : decode cX6_copyFrom 96 = .ok (.return_, 1) := by decide +kernel
theorem dX6_isIn_0 : decode cX6_isIn 0 = .ok (.aload_n 0, 1) := by decide +kernel
theorem dX6_isIn_1 : decode cX6_isIn 1 = .ok (.getfield 33, 3) := by decide +kernel
theorem dX6_isIn_4 : decode cX6_isIn 4 = .ok (.iload_n 1, 1) := by decide +kernel
theorem dX6_isIn_5 : decode cX6_isIn 5 = .ok (.if_icmp .lt 15, 3) := by decide +kernel
theorem dX6_isIn_8 : decode cX6_isIn 8 = .ok (.aload_n 0, 1) := by decide +kernel
theorem dX6_isIn_9 : decode cX6_isIn 9 = .ok (.getfield 33, 3) := by decide +kernel
theorem dX6_isIn_12 : decode cX6_isIn 12 = .ok (.iload_n 2, 1) := by decide +kernel
theorem dX6_isIn_13 : decode cX6_isIn 13 = .ok (.if_icmp .gt 7, 3) := by decide +kernel
theorem dX6_isIn_16 : decode cX6_isIn 16 = .ok (.iconst 1, 1) := by decide +kernel
theorem dX6_isIn_17 : decode cX6_isIn 17 = .ok (.goto 4, 3) := by decide +kernel
theorem dX6_isIn_20 : decode cX6_isIn 20 = .ok (.iconst 0, 1) := by decide +kernel
theorem dX6_isIn_21 : decode cX6_isIn 21 = .ok (.ireturn, 1) := by decide +kernel
theorem dX6_tagHangs_0 : decode cX6_tagHangs 0 = .ok (.aload_n 0, 1) := by decide +kernel
theorem dX6_tagHangs_1 : decode cX6_tagHangs 1 = .ok (.iconst 1, 1) := by decide +kernel
theorem dX6_tagHangs_2 : decode cX6_tagHangs 2 = .ok (.iconst 3, 1) := by decide +kernel
theorem dX6_tagHangs_3 : decode cX6_tagHangs 3 = .ok (.invokevirtual 48, 3) := by decide +kernel
theorem dX6_tagHangs_6 : decode cX6_tagHangs 6 = .ok (.ireturn, 1) := by decide +kernel
theorem dX6_isTooLateAt_0 : decode cX6_isTooLateAt 0 = .ok (.iload_n 1, 1) := by decide +kernel
theorem dX6_isTooLateAt_1 : decode cX6_isTooLateAt 1 = .ok (.aload_n 0, 1) := by decide +kernel
theorem dX6_isTooLateAt_2 : decode cX6_isTooLateAt 2 = .ok (.getfield 24, 3) := by decide +kernel
theorem dX6_isTooLateAt_5 : decode cX6_isTooLateAt 5 = .ok (.iadd, 1) := by decide +kernel
theorem dX6_isTooLateAt_6 : decode cX6_isTooLateAt 6 = .ok (.aload_n 0, 1) := by decide +kernel
theorem dX6_isTooLateAt_7 : decode cX6_isTooLateAt 7 = .ok (.getfield 30, 3) := by decide +kernel
theorem dX6_isTooLateAt_10 : decode cX6_isTooLateAt 10 = .ok (.if_icmp .le 7, 3) := by decide +kernel
theorem dX6_isTooLateAt_13 : decode cX6_isTooLateAt 13 = .ok (.iconst 1, 1) := by decide +kernel
theorem dX6_isTooLateAt_14 : decode cX6_isTooLateAt 14 = .ok (.goto 4, 3) := by decide +kernel
theorem dX6_isTooLateAt_17 : decode cX6_isTooLateAt 17 = .ok (.iconst 0, 1) := by decide +kernel
theorem dX6_isTooLateAt_18 : decode cX6_isTooLateAt 18 = .ok (.ireturn, 1) := by decide +kernel
theorem dX6_slip_0 : decode cX6_slip 0 = .ok (.aload_n 0, 1) := by decide +kernel
theorem dX6_slip_1 : decode cX6_slip 1 = .ok (.getfield 33, 3) := by decide +kernel
theorem dX6_slip_4 : decode cX6_slip 4 = .ok (.ifCond .ne 17, 3) := by decide +kernel
theorem dX6_slip_7 : decode cX6_slip 7 = .ok (.aload_n 0, 1) := by decide +kernel
theorem dX6_slip_8 : decode cX6_slip 8 = .ok (.getfield 42, 3) := by decide +kernel
theorem dX6_slip_11 : decode cX6_slip 11 = .ok (.iconst 3, 1) := by decide +kernel
theorem dX6_slip_12 : decode cX6_slip 12 = .ok (.if_icmp .lt 9, 3) := by decide +kernel
theorem dX6_slip_15 : decode cX6_slip 15 = .ok (.aload_n 0, 1) := by decide +kernel
theorem dX6_slip_16 : decode cX6_slip 16 = .ok (.iconst 5, 1) := by decide +kernel
theorem dX6_slip_17 : decode cX6_slip 17 = .ok (.putfield 33, 3) := by decide +kernel
theorem dX6_slip_20 : decode cX6_slip 20 = .ok (.return_, 1) := by decide +kernel
theorem dX6_slip_21 : decode cX6_slip 21 = .ok (.aload_n 0, 1) := by decide +kernel
theorem dX6_slip_22 : decode cX6_slip 22 = .ok (.dup, 1) := by decide +kernel
theorem dX6_slip_23 : decode cX6_slip 23 = .ok (.getfield 27, 3) := by decide +kernel
theorem dX6_slip_26 : decode cX6_slip 26 = .ok (.bipush 24, 2) := by decide +kernel
theorem dX6_slip_28 : decode cX6_slip 28 = .ok (.iadd, 1) := by decide +kernel
theorem dX6_slip_29 : decode cX6_slip 29 = .ok (.putfield 27, 3) := by decide +kernel
theorem dX6_slip_32 : decode cX6_slip 32 = .ok (.aload_n 0, 1) := by decide +kernel
theorem dX6_slip_33 : decode cX6_slip 33 = .ok (.dup, 1) := by decide +kernel
theorem dX6_slip_34 : decode cX6_slip 34 = .ok (.getfield 30, 3) := by decide +kernel
theorem dX6_slip_37 : decode cX6_slip 37 = .ok (.bipush 24, 2) := by decide +kernel
theorem dX6_slip_39 : decode cX6_slip 39 = .ok (.iadd, 1) := by decide +kernel
theorem dX6_slip_40 : decode cX6_slip 40 = .ok (.putfield 30, 3) := by decide +kernel
theorem dX6_slip_43 : decode cX6_slip 43 = .ok (.aload_n 0, 1) := by decide +kernel
theorem dX6_slip_44 : decode cX6_slip 44 = .ok (.dup, 1) := by decide +kernel
theorem dX6_slip_45 : decode cX6_slip 45 = .ok (.getfield 42, 3) := by decide +kernel
theorem dX6_slip_48 : decode cX6_slip 48 = .ok (.iconst 1, 1) := by decide +kernel
theorem dX6_slip_49 : decode cX6_slip 49 = .ok (.iadd, 1) := by decide +kernel
theorem dX6_slip_50 : decode cX6_slip 50 = .ok (.putfield 42, 3) := by decide +kernel
theorem dX6_slip_53 : decode cX6_slip 53 = .ok (.return_, 1) := by decide +kernel
theorem dX7_init_0 : decode cX7_init 0 = .ok (.aload_n 0, 1) := by decide +kernel
theorem dX7_init_1 : decode cX7_init 1 = .ok (.invokespecial 1, 3) := by decide +kernel
theorem dX7_init_4 : decode cX7_init 4 = .ok (.aload_n 0, 1) := by decide +kernel
theorem dX7_init_5 : decode cX7_init 5 = .ok (.new 7, 3) := by decide +kernel
theorem dX7_init_8 : decode cX7_init 8 = .ok (.dup, 1) := by decide +kernel
theorem dX7_init_9 : decode cX7_init 9 = .ok (.invokespecial 9, 3) := by decide +kernel
theorem dX7_init_12 : decode cX7_init 12 = .ok (.putfield 10, 3) := by decide +kernel
theorem dX7_init_15 : decode cX7_init 15 = .ok (.aload_n 0, 1) := by decide +kernel
theorem dX7_init_16 : decode cX7_init 16 = .ok (.new 7, 3) := by decide +kernel
theorem dX7_init_19 : decode cX7_init 19 = .ok (.dup, 1) := by decide +kernel
theorem dX7_init_20 : decode cX7_init 20 = .ok (.invokespecial 9, 3) := by decide +kernel
theorem dX7_init_23 : decode cX7_init 23 = .ok (.putfield 16, 3) := by decide +kernel
theorem dX7_init_26 : decode cX7_init 26 = .ok (.aload_n 0, 1) := by decide +kernel
theorem dX7_init_27 : decode cX7_init 27 = .ok (.new 7, 3) := by decide +kernel
theorem dX7_init_30 : decode cX7_init 30 = .ok (.dup, 1) := by decide +kernel
theorem dX7_init_31 : decode cX7_init 31 = .ok (.invokespecial 9, 3) := by decide +kernel
theorem dX7_init_34 : decode cX7_init 34 = .ok (.putfield 19, 3) := by decide +kernel
theorem dX7_init_37 : decode cX7_init 37 = .ok (.aload_n 0, 1) := by decide +kernel
theorem dX7_init_38 : decode cX7_init 38 = .ok (.iconst 0, 1) := by decide +kernel
theorem dX7_init_39 : decode cX7_init 39 = .ok (.putfield 22, 3) := by decide +kernel
theorem dX7_init_42 : decode cX7_init 42 = .ok (.aload_n 0, 1) := by decide +kernel
theorem dX7_init_43 : decode cX7_init 43 = .ok (.new 26, 3) := by decide +kernel
theorem dX7_init_46 : decode cX7_init 46 = .ok (.dup, 1) := by decide +kernel
theorem dX7_init_47 : decode cX7_init 47 = .ok (.invokespecial 28, 3) := by decide +kernel
theorem dX7_init_50 : decode cX7_init 50 = .ok (.putfield 29, 3) := by decide +kernel
theorem dX7_init_53 : decode cX7_init 53 = .ok (.aload_n 0, 1) := by decide +kernel
theorem dX7_init_54 : decode cX7_init 54 = .ok (.new 33, 3) := by decide +kernel
theorem dX7_init_57 : decode cX7_init 57 = .ok (.dup, 1) := by decide +kernel
theorem dX7_init_58 : decode cX7_init 58 = .ok (.invokespecial 35, 3) := by decide +kernel
theorem dX7_init_61 : decode cX7_init 61 = .ok (.putfield 36, 3) := by decide +kernel
theorem dX7_init_64 : decode cX7_init 64 = .ok (.return_, 1) := by decide +kernel
theorem dX7_addAsset_0 : decode cX7_addAsset 0 = .ok (.aload_n 0, 1) := by decide +kernel
theorem dX7_addAsset_1 : decode cX7_addAsset 1 = .ok (.getfield 16, 3) := by decide +kernel
theorem dX7_addAsset_4 : decode cX7_addAsset 4 = .ok (.aload_n 0, 1) := by decide +kernel
theorem dX7_addAsset_5 : decode cX7_addAsset 5 = .ok (.getfield 10, 3) := by decide +kernel
theorem dX7_addAsset_8 : decode cX7_addAsset 8 = .ok (.invokevirtual 40, 3) := by decide +kernel
theorem dX7_addAsset_11 : decode cX7_addAsset 11 = .ok (.aload_n 0, 1) := by decide +kernel
theorem dX7_addAsset_12 : decode cX7_addAsset 12 = .ok (.aload_n 0, 1) := by decide +kernel
theorem dX7_addAsset_13 : decode cX7_addAsset 13 = .ok (.getfield 10, 3) := by decide +kernel
theorem dX7_addAsset_16 : decode cX7_addAsset 16 = .ok (.iload_n 1, 1) := by decide +kernel
theorem dX7_addAsset_17 : decode cX7_addAsset 17 = .ok (.iload_n 2, 1) := by decide +kernel
theorem dX7_addAsset_18 : decode cX7_addAsset 18 = .ok (.invokevirtual 44, 3) := by decide +kernel
theorem dX7_addAsset_21 : decode cX7_addAsset 21 = .ok (.invokevirtual 48, 3) := by decide +kernel
theorem dX7_addAsset_24 : decode cX7_addAsset 24 = .ok (.ireturn, 1) := by decide +kernel
theorem dX7_link_0 : decode cX7_link 0 = .ok (.aload_n 0, 1) := by decide +kernel
theorem dX7_link_1 : decode cX7_link 1 = .ok (.getfield 16, 3) := by decide +kernel
theorem dX7_link_4 : decode cX7_link 4 = .ok (.aload_n 0, 1) := by decide +kernel
theorem dX7_link_5 : decode cX7_link 5 = .ok (.getfield 10, 3) := by decide +kernel
theorem dX7_link_8 : decode cX7_link 8 = .ok (.invokevirtual 40, 3) := by decide +kernel
theorem dX7_link_11 : decode cX7_link 11 = .ok (.aload_n 0, 1) := by decide +kernel
theorem dX7_link_12 : decode cX7_link 12 = .ok (.aload_n 0, 1) := by decide +kernel
theorem dX7_link_13 : decode cX7_link 13 = .ok (.getfield 10, 3) := by decide +kernel
theorem dX7_link_16 : decode cX7_link 16 = .ok (.iload_n 1, 1) := by decide +kernel
theorem dX7_link_17 : decode cX7_link 17 = .ok (.iload_n 2, 1) := by decide +kernel
theorem dX7_link_18 : decode cX7_link 18 = .ok (.iload_n 3, 1) := by decide +kernel
theorem dX7_link_19 : decode cX7_link 19 = .ok (.invokevirtual 52, 3) := by decide +kernel
theorem dX7_link_22 : decode cX7_link 22 = .ok (.invokevirtual 48, 3) := by decide +kernel
theorem dX7_link_25 : decode cX7_link 25 = .ok (.ireturn, 1) := by decide +kernel
theorem dX7_bar_0 : decode cX7_bar 0 = .ok (.aload_n 0, 1) := by decide +kernel
theorem dX7_bar_1 : decode cX7_bar 1 = .ok (.getfield 16, 3) := by decide +kernel
theorem dX7_bar_4 : decode cX7_bar 4 = .ok (.aload_n 0, 1) := by decide +kernel
theorem dX7_bar_5 : decode cX7_bar 5 = .ok (.getfield 10, 3) := by decide +kernel
theorem dX7_bar_8 : decode cX7_bar 8 = .ok (.invokevirtual 40, 3) := by decide +kernel
theorem dX7_bar_11 : decode cX7_bar 11 = .ok (.aload_n 0, 1) := by decide +kernel
theorem dX7_bar_12 : decode cX7_bar 12 = .ok (.aload_n 0, 1) := by decide +kernel
theorem dX7_bar_13 : decode cX7_bar 13 = .ok (.getfield 10, 3) := by decide +kernel
theorem dX7_bar_16 : decode cX7_bar 16 = .ok (.iload_n 1, 1) := by decide +kernel
theorem dX7_bar_17 : decode cX7_bar 17 = .ok (.iload_n 2, 1) := by decide +kernel
theorem dX7_bar_18 : decode cX7_bar 18 = .ok (.iload_n 3, 1) := by decide +kernel
theorem dX7_bar_19 : decode cX7_bar 19 = .ok (.invokevirtual 56, 3) := by decide +kernel
theorem dX7_bar_22 : decode cX7_bar 22 = .ok (.invokevirtual 48, 3) := by decide +kernel
theorem dX7_bar_25 : decode cX7_bar 25 = .ok (.ireturn, 1) := by decide +kernel
theorem dX7_addCrew_0 : decode cX7_addCrew 0 = .ok (.aload_n 0, 1) := by decide +kernel
theorem dX7_addCrew_1 : decode cX7_addCrew 1 = .ok (.getfield 16, 3) := by decide +kernel
theorem dX7_addCrew_4 : decode cX7_addCrew 4 = .ok (.aload_n 0, 1) := by decide +kernel
theorem dX7_addCrew_5 : decode cX7_addCrew 5 = .ok (.getfield 10, 3) := by decide +kernel
theorem dX7_addCrew_8 : decode cX7_addCrew 8 = .ok (.invokevirtual 40, 3) := by decide +kernel
theorem dX7_addCrew_11 : decode cX7_addCrew 11 = .ok (.aload_n 0, 1) := by decide +kernel
theorem dX7_addCrew_12 : decode cX7_addCrew 12 = .ok (.aload_n 0, 1) := by decide +kernel
theorem dX7_addCrew_13 : decode cX7_addCrew 13 = .ok (.getfield 10, 3) := by decide +kernel
theorem dX7_addCrew_16 : decode cX7_addCrew 16 = .ok (.iload_n 1, 1) := by decide +kernel
theorem dX7_addCrew_17 : decode cX7_addCrew 17 = .ok (.iload_n 2, 1) := by decide +kernel
theorem dX7_addCrew_18 : decode cX7_addCrew 18 = .ok (.invokevirtual 59, 3) := by decide +kernel
theorem dX7_addCrew_21 : decode cX7_addCrew 21 = .ok (.invokevirtual 48, 3) := by decide +kernel
theorem dX7_addCrew_24 : decode cX7_addCrew 24 = .ok (.ireturn, 1) := by decide +kernel
theorem dX7_addTask_0 : decode cX7_addTask 0 = .ok (.aload_n 0, 1) := by decide +kernel
theorem dX7_addTask_1 : decode cX7_addTask 1 = .ok (.getfield 16, 3) := by decide +kernel
theorem dX7_addTask_4 : decode cX7_addTask 4 = .ok (.aload_n 0, 1) := by decide +kernel
theorem dX7_addTask_5 : decode cX7_addTask 5 = .ok (.getfield 10, 3) := by decide +kernel
theorem dX7_addTask_8 : decode cX7_addTask 8 = .ok (.invokevirtual 40, 3) := by decide +kernel
theorem dX7_addTask_11 : decode cX7_addTask 11 = .ok (.aload_n 0, 1) := by decide +kernel
theorem dX7_addTask_12 : decode cX7_addTask 12 = .ok (.aload_n 0, 1) := by decide +kernel
theorem dX7_addTask_13 : decode cX7_addTask 13 = .ok (.getfield 10, 3) := by decide +kernel
theorem dX7_addTask_16 : decode cX7_addTask 16 = .ok (.iload_n 1, 1) := by decide +kernel
theorem dX7_addTask_17 : decode cX7_addTask 17 = .ok (.iload_n 2, 1) := by decide +kernel
theorem dX7_addTask_18 : decode cX7_addTask 18 = .ok (.iload_n 3, 1) := by decide +kernel
theorem dX7_addTask_19 : decode cX7_addTask 19 = .ok (.iload 4, 2) := by decide +kernel
theorem dX7_addTask_21 : decode cX7_addTask 21 = .ok (.iload 5, 2) := by decide +kernel
theorem dX7_addTask_23 : decode cX7_addTask 23 = .ok (.iload 6, 2) := by decide +kernel
theorem dX7_addTask_25 : decode cX7_addTask 25 = .ok (.invokevirtual 62, 3) := by decide +kernel
theorem dX7_addTask_28 : decode cX7_addTask 28 = .ok (.invokevirtual 48, 3) := by decide +kernel
theorem dX7_addTask_31 : decode cX7_addTask 31 = .ok (.ireturn, 1) := by decide +kernel
theorem dX7_run_0 : decode cX7_run 0 = .ok (.aload_n 0, 1) := by decide +kernel
theorem dX7_run_1 : decode cX7_run 1 = .ok (.getfield 16, 3) := by decide +kernel
theorem dX7_run_4 : decode cX7_run 4 = .ok (.aload_n 0, 1) := by decide +kernel
theorem dX7_run_5 : decode cX7_run 5 = .ok (.getfield 10, 3) := by decide +kernel
theorem dX7_run_8 : decode cX7_run 8 = .ok (.invokevirtual 40, 3) := by decide +kernel
theorem dX7_run_11 : decode cX7_run 11 = .ok (.aload_n 0, 1) := by decide +kernel
theorem dX7_run_12 : decode cX7_run 12 = .ok (.aload_n 0, 1) := by decide +kernel
theorem dX7_run_13 : decode cX7_run 13 = .ok (.getfield 10, 3) := by decide +kernel
theorem dX7_run_16 : decode cX7_run 16 = .ok (.iload_n 1, 1) := by decide +kernel
theorem dX7_run_17 : decode cX7_run 17 = .ok (.invokevirtual 66, 3) := by decide +kernel
theorem dX7_run_20 : decode cX7_run 20 = .ok (.invokevirtual 48, 3) := by decide +kernel
theorem dX7_run_23 : decode cX7_run 23 = .ok (.ireturn, 1) := by decide +kernel
theorem dX7_stop_0 : decode cX7_stop 0 = .ok (.aload_n 0, 1) := by decide +kernel
theorem dX7_stop_1 : decode cX7_stop 1 = .ok (.getfield 16, 3) := by decide +kernel
theorem dX7_stop_4 : decode cX7_stop 4 = .ok (.aload_n 0, 1) := by decide +kernel
theorem dX7_stop_5 : decode cX7_stop 5 = .ok (.getfield 10, 3) := by decide +kernel
theorem dX7_stop_8 : decode cX7_stop 8 = .ok (.invokevirtual 40, 3) := by decide +kernel
theorem dX7_stop_11 : decode cX7_stop 11 = .ok (.aload_n 0, 1) := by decide +kernel
theorem dX7_stop_12 : decode cX7_stop 12 = .ok (.aload_n 0, 1) := by decide +kernel
theorem dX7_stop_13 : decode cX7_stop 13 = .ok (.getfield 10, 3) := by decide +kernel
theorem dX7_stop_16 : decode cX7_stop 16 = .ok (.iload_n 1, 1) := by decide +kernel
theorem dX7_stop_17 : decode cX7_stop 17 = .ok (.invokevirtual 69, 3) := by decide +kernel
theorem dX7_stop_20 : decode cX7_stop 20 = .ok (.invokevirtual 48, 3) := by decide +kernel
theorem dX7_stop_23 : decode cX7_stop 23 = .ok (.ireturn, 1) := by decide +kernel
theorem dX7_hang_0 : decode cX7_hang 0 = .ok (.aload_n 0, 1) := by decide +kernel
theorem dX7_hang_1 : decode cX7_hang 1 = .ok (.getfield 16, 3) := by decide +kernel
theorem dX7_hang_4 : decode cX7_hang 4 = .ok (.aload_n 0, 1) := by decide +kernel
theorem dX7_hang_5 : decode cX7_hang 5 = .ok (.getfield 10, 3) := by decide +kernel
theorem dX7_hang_8 : decode cX7_hang 8 = .ok (.invokevirtual 40, 3) := by decide +kernel
theorem dX7_hang_11 : decode cX7_hang 11 = .ok (.aload_n 0, 1) := by decide +kernel
theorem dX7_hang_12 : decode cX7_hang 12 = .ok (.aload_n 0, 1) := by decide +kernel
theorem dX7_hang_13 : decode cX7_hang 13 = .ok (.getfield 10, 3) := by decide +kernel
theorem dX7_hang_16 : decode cX7_hang 16 = .ok (.iload_n 1, 1) := by decide +kernel
theorem dX7_hang_17 : decode cX7_hang 17 = .ok (.iload_n 2, 1) := by decide +kernel
theorem dX7_hang_18 : decode cX7_hang 18 = .ok (.invokevirtual 72, 3) := by decide +kernel
theorem dX7_hang_21 : decode cX7_hang 21 = .ok (.invokevirtual 48, 3) := by decide +kernel
theorem dX7_hang_24 : decode cX7_hang 24 = .ok (.ireturn, 1) := by decide +kernel
theorem dX7_begin_0 : decode cX7_begin 0 = .ok (.aload_n 0, 1) := by decide +kernel
theorem dX7_begin_1 : decode cX7_begin 1 = .ok (.getfield 16, 3) := by decide +kernel
theorem dX7_begin_4 : decode cX7_begin 4 = .ok (.aload_n 0, 1) := by decide +kernel
theorem dX7_begin_5 : decode cX7_begin 5 = .ok (.getfield 10, 3) := by decide +kernel
theorem dX7_begin_8 : decode cX7_begin 8 = .ok (.invokevirtual 40, 3) := by decide +kernel
theorem dX7_begin_11 : decode cX7_begin 11 = .ok (.aload_n 0, 1) := by decide +kernel
theorem dX7_begin_12 : decode cX7_begin 12 = .ok (.aload_n 0, 1) := by decide +kernel
theorem dX7_begin_13 : decode cX7_begin 13 = .ok (.getfield 10, 3) := by decide +kernel
theorem dX7_begin_16 : decode cX7_begin 16 = .ok (.iload_n 1, 1) := by decide +kernel
theorem dX7_begin_17 : decode cX7_begin 17 = .ok (.invokevirtual 75, 3) := by decide +kernel
theorem dX7_begin_20 : decode cX7_begin 20 = .ok (.invokevirtual 48, 3) := by decide +kernel
theorem dX7_begin_23 : decode cX7_begin 23 = .ok (.ireturn, 1) := by decide +kernel
theorem dX7_lift_0 : decode cX7_lift 0 = .ok (.aload_n 0, 1) := by decide +kernel
theorem dX7_lift_1 : decode cX7_lift 1 = .ok (.getfield 16, 3) := by decide +kernel
theorem dX7_lift_4 : decode cX7_lift 4 = .ok (.aload_n 0, 1) := by decide +kernel
theorem dX7_lift_5 : decode cX7_lift 5 = .ok (.getfield 10, 3) := by decide +kernel
theorem dX7_lift_8 : decode cX7_lift 8 = .ok (.invokevirtual 40, 3) := by decide +kernel
theorem dX7_lift_11 : decode cX7_lift 11 = .ok (.aload_n 0, 1) := by decide +kernel
theorem dX7_lift_12 : decode cX7_lift 12 = .ok (.aload_n 0, 1) := by decide +kernel
theorem dX7_lift_13 : decode cX7_lift 13 = .ok (.getfield 10, 3) := by decide +kernel
theorem dX7_lift_16 : decode cX7_lift 16 = .ok (.iload_n 1, 1) := by decide +kernel
theorem dX7_lift_17 : decode cX7_lift 17 = .ok (.iload_n 2, 1) := by decide +kernel
theorem dX7_lift_18 : decode cX7_lift 18 = .ok (.invokevirtual 78, 3) := by decide +kernel
theorem dX7_lift_21 : decode cX7_lift 21 = .ok (.invokevirtual 48, 3) := by decide +kernel
theorem dX7_lift_24 : decode cX7_lift 24 = .ok (.ireturn, 1) := by decide +kernel
theorem dX7_cancel_0 : decode cX7_cancel 0 = .ok (.aload_n 0, 1) := by decide +kernel
theorem dX7_cancel_1 : decode cX7_cancel 1 = .ok (.getfield 16, 3) := by decide +kernel
theorem dX7_cancel_4 : decode cX7_cancel 4 = .ok (.aload_n 0, 1) := by decide +kernel
theorem dX7_cancel_5 : decode cX7_cancel 5 = .ok (.getfield 10, 3) := by decide +kernel
theorem dX7_cancel_8 : decode cX7_cancel 8 = .ok (.invokevirtual 40, 3) := by decide +kernel
theorem dX7_cancel_11 : decode cX7_cancel 11 = .ok (.aload_n 0, 1) := by decide +kernel
theorem dX7_cancel_12 : decode cX7_cancel 12 = .ok (.aload_n 0, 1) := by decide +kernel
theorem dX7_cancel_13 : decode cX7_cancel 13 = .ok (.getfield 10, 3) := by decide +kernel
theorem dX7_cancel_16 : decode cX7_cancel 16 = .ok (.iload_n 1, 1) := by decide +kernel
theorem dX7_cancel_17 : decode cX7_cancel 17 = .ok (.invokevirtual 81, 3) := by decide +kernel
theorem dX7_cancel_20 : decode cX7_cancel 20 = .ok (.invokevirtual 48, 3) := by decide +kernel
theorem dX7_cancel_23 : decode cX7_cancel 23 = .ok (.ireturn, 1) := by decide +kernel
theorem dX7_pass_0 : decode cX7_pass 0 = .ok (.aload_n 0, 1) := by decide +kernel
theorem dX7_pass_1 : decode cX7_pass 1 = .ok (.getfield 16, 3) := by decide +kernel
theorem dX7_pass_4 : decode cX7_pass 4 = .ok (.aload_n 0, 1) := by decide +kernel
theorem dX7_pass_5 : decode cX7_pass 5 = .ok (.getfield 10, 3) := by decide +kernel
theorem dX7_pass_8 : decode cX7_pass 8 = .ok (.invokevirtual 40, 3) := by decide +kernel
theorem dX7_pass_11 : decode cX7_pass 11 = .ok (.aload_n 0, 1) := by decide +kernel
theorem dX7_pass_12 : decode cX7_pass 12 = .ok (.aload_n 0, 1) := by decide +kernel
theorem dX7_pass_13 : decode cX7_pass 13 = .ok (.getfield 10, 3) := by decide +kernel
theorem dX7_pass_16 : decode cX7_pass 16 = .ok (.iload_n 1, 1) := by decide +kernel
theorem dX7_pass_17 : decode cX7_pass 17 = .ok (.invokevirtual 84, 3) := by decide +kernel
theorem dX7_pass_20 : decode cX7_pass 20 = .ok (.invokevirtual 48, 3) := by decide +kernel
theorem dX7_pass_23 : decode cX7_pass 23 = .ok (.ireturn, 1) := by decide +kernel
theorem dX7_undo_0 : decode cX7_undo 0 = .ok (.aload_n 0, 1) := by decide +kernel
theorem dX7_undo_1 : decode cX7_undo 1 = .ok (.getfield 29, 3) := by decide +kernel
theorem dX7_undo_4 : decode cX7_undo 4 = .ok (.aload_n 0, 1) := by decide +kernel
theorem dX7_undo_5 : decode cX7_undo 5 = .ok (.getfield 10, 3) := by decide +kernel
theorem dX7_undo_8 : decode cX7_undo 8 = .ok (.invokevirtual 110, 3) := by decide +kernel
theorem dX7_undo_11 : decode cX7_undo 11 = .ok (.ireturn, 1) := by decide +kernel
theorem dX7_keep_0 : decode cX7_keep 0 = .ok (.aload_n 0, 1) := by decide +kernel
theorem dX7_keep_1 : decode cX7_keep 1 = .ok (.getfield 19, 3) := by decide +kernel
theorem dX7_keep_4 : decode cX7_keep 4 = .ok (.aload_n 0, 1) := by decide +kernel
theorem dX7_keep_5 : decode cX7_keep 5 = .ok (.getfield 10, 3) := by decide +kernel
theorem dX7_keep_8 : decode cX7_keep 8 = .ok (.invokevirtual 40, 3) := by decide +kernel
theorem dX7_keep_11 : decode cX7_keep 11 = .ok (.aload_n 0, 1) := by decide +kernel
theorem dX7_keep_12 : decode cX7_keep 12 = .ok (.iconst 1, 1) := by decide +kernel
theorem dX7_keep_13 : decode cX7_keep 13 = .ok (.putfield 22, 3) := by decide +kernel
theorem dX7_keep_16 : decode cX7_keep 16 = .ok (.aload_n 0, 1) := by decide +kernel
theorem dX7_keep_17 : decode cX7_keep 17 = .ok (.getfield 10, 3) := by decide +kernel
theorem dX7_keep_20 : decode cX7_keep 20 = .ok (.getfield 114, 3) := by decide +kernel
theorem dX7_keep_23 : decode cX7_keep 23 = .ok (.ireturn, 1) := by decide +kernel
theorem dX7_restore_0 : decode cX7_restore 0 = .ok (.aload_n 0, 1) := by decide +kernel
theorem dX7_restore_1 : decode cX7_restore 1 = .ok (.getfield 22, 3) := by decide +kernel
theorem dX7_restore_4 : decode cX7_restore 4 = .ok (.ifCond .ne 6, 3) := by decide +kernel
theorem dX7_restore_7 : decode cX7_restore 7 = .ok (.bipush (-5), 2) := by decide +kernel
theorem dX7_restore_9 : decode cX7_restore 9 = .ok (.ireturn, 1) := by decide +kernel
theorem dX7_restore_10 : decode cX7_restore 10 = .ok (.aload_n 0, 1) := by decide +kernel
theorem dX7_restore_11 : decode cX7_restore 11 = .ok (.getfield 16, 3) := by decide +kernel
theorem dX7_restore_14 : decode cX7_restore 14 = .ok (.aload_n 0, 1) := by decide +kernel
theorem dX7_restore_15 : decode cX7_restore 15 = .ok (.getfield 10, 3) := by decide +kernel
theorem dX7_restore_18 : decode cX7_restore 18 = .ok (.invokevirtual 40, 3) := by decide +kernel
theorem dX7_restore_21 : decode cX7_restore 21 = .ok (.aload_n 0, 1) := by decide +kernel
theorem dX7_restore_22 : decode cX7_restore 22 = .ok (.getfield 10, 3) := by decide +kernel
theorem dX7_restore_25 : decode cX7_restore 25 = .ok (.aload_n 0, 1) := by decide +kernel
theorem dX7_restore_26 : decode cX7_restore 26 = .ok (.getfield 19, 3) := by decide +kernel
theorem dX7_restore_29 : decode cX7_restore 29 = .ok (.invokevirtual 40, 3) := by decide +kernel
theorem dX7_restore_32 : decode cX7_restore 32 = .ok (.aload_n 0, 1) := by decide +kernel
theorem dX7_restore_33 : decode cX7_restore 33 = .ok (.aload_n 0, 1) := by decide +kernel
theorem dX7_restore_34 : decode cX7_restore 34 = .ok (.getfield 10, 3) := by decide +kernel
theorem dX7_restore_37 : decode cX7_restore 37 = .ok (.getfield 114, 3) := by decide +kernel
theorem dX7_restore_40 : decode cX7_restore 40 = .ok (.invokevirtual 48, 3) := by decide +kernel
theorem dX7_restore_43 : decode cX7_restore 43 = .ok (.ireturn, 1) := by decide +kernel
theorem dX7_real_0 : decode cX7_real 0 = .ok (.aload_n 0, 1) := by decide +kernel
theorem dX7_real_1 : decode cX7_real 1 = .ok (.getfield 10, 3) := by decide +kernel
theorem dX7_real_4 : decode cX7_real 4 = .ok (.iload_n 1, 1) := by decide +kernel
theorem dX7_real_5 : decode cX7_real 5 = .ok (.invokevirtual 117, 3) := by decide +kernel
theorem dX7_real_8 : decode cX7_real 8 = .ok (.ifCond .ne 6, 3) := by decide +kernel
theorem dX7_real_11 : decode cX7_real 11 = .ok (.ldc 121, 2) := by decide +kernel
theorem dX7_real_13 : decode cX7_real 13 = .ok (.freturn, 1) := by decide +kernel
theorem dX7_real_14 : decode cX7_real 14 = .ok (.aload_n 0, 1) := by decide +kernel
theorem dX7_real_15 : decode cX7_real 15 = .ok (.getfield 10, 3) := by decide +kernel
theorem dX7_real_18 : decode cX7_real 18 = .ok (.getfield 122, 3) := by decide +kernel
theorem dX7_real_21 : decode cX7_real 21 = .ok (.iload_n 1, 1) := by decide +kernel
theorem dX7_real_22 : decode cX7_real 22 = .ok (.aaload, 1) := by decide +kernel
theorem dX7_real_23 : decode cX7_real 23 = .ok (.astore_n 3, 1) := by decide +kernel
theorem dX7_real_24 : decode cX7_real 24 = .ok (.iload_n 2, 1) := by decide +kernel
theorem dX7_real_25 : decode cX7_real 25 = .ok (.tableswitch 42 0 2 #[27, 32, 37], 27) := by decide +kernel
theorem dX7_real_52 : decode cX7_real 52 = .ok (.aload_n 3, 1) := by decide +kernel
theorem dX7_real_53 : decode cX7_real 53 = .ok (.getfield 126, 3) := by decide +kernel
theorem dX7_real_56 : decode cX7_real 56 = .ok (.freturn, 1) := by decide +kernel
theorem dX7_real_57 : decode cX7_real 57 = .ok (.aload_n 3, 1) := by decide +kernel
theorem dX7_real_58 : decode cX7_real 58 = .ok (.getfield 132, 3) := by decide +kernel
theorem dX7_real_61 : decode cX7_real 61 = .ok (.freturn, 1) := by decide +kernel
theorem dX7_real_62 : decode cX7_real 62 = .ok (.aload_n 3, 1) := by decide +kernel
theorem dX7_real_63 : decode cX7_real 63 = .ok (.getfield 135, 3) := by decide +kernel
theorem dX7_real_66 : decode cX7_real 66 = .ok (.freturn, 1) := by decide +kernel
theorem dX7_real_67 : decode cX7_real 67 = .ok (.ldc 121, 2) := by decide +kernel
theorem dX7_real_69 : decode cX7_real 69 = .ok (.freturn, 1) := by decide +kernel
theorem dX7_hoursTo_0 : decode cX7_hoursTo 0 = .ok (.aload_n 0, 1) := by decide +kernel
theorem dX7_hoursTo_1 : decode cX7_hoursTo 1 = .ok (.getfield 10, 3) := by decide +kernel
theorem dX7_hoursTo_4 : decode cX7_hoursTo 4 = .ok (.iload_n 1, 1) := by decide +kernel
theorem dX7_hoursTo_5 : decode cX7_hoursTo 5 = .ok (.invokevirtual 117, 3) := by decide +kernel
theorem dX7_hoursTo_8 : decode cX7_hoursTo 8 = .ok (.ifCond .ne 5, 3) := by decide +kernel
theorem dX7_hoursTo_11 : decode cX7_hoursTo 11 = .ok (.iconst (-1), 1) := by decide +kernel
theorem dX7_hoursTo_12 : decode cX7_hoursTo 12 = .ok (.ireturn, 1) := by decide +kernel
theorem dX7_hoursTo_13 : decode cX7_hoursTo 13 = .ok (.iload_n 2, 1) := by decide +kernel
theorem dX7_hoursTo_14 : decode cX7_hoursTo 14 = .ok (.iconst 1, 1) := by decide +kernel
theorem dX7_hoursTo_15 : decode cX7_hoursTo 15 = .ok (.bipush 100, 2) := by decide +kernel
theorem dX7_hoursTo_17 : decode cX7_hoursTo 17 = .ok (.invokestatic 138, 3) := by decide +kernel
theorem dX7_hoursTo_20 : decode cX7_hoursTo 20 = .ok (.ifCond .ne 6, 3) := by decide +kernel
theorem dX7_hoursTo_23 : decode cX7_hoursTo 23 = .ok (.bipush (-2), 2) := by decide +kernel
theorem dX7_hoursTo_25 : decode cX7_hoursTo 25 = .ok (.ireturn, 1) := by decide +kernel
theorem dX7_hoursTo_26 : decode cX7_hoursTo 26 = .ok (.aload_n 0, 1) := by decide +kernel
theorem dX7_hoursTo_27 : decode cX7_hoursTo 27 = .ok (.getfield 10, 3) := by decide +kernel
theorem dX7_hoursTo_30 : decode cX7_hoursTo 30 = .ok (.getfield 122, 3) := by decide +kernel
theorem dX7_hoursTo_33 : decode cX7_hoursTo 33 = .ok (.iload_n 1, 1) := by decide +kernel
theorem dX7_hoursTo_34 : decode cX7_hoursTo 34 = .ok (.aaload, 1) := by decide +kernel
theorem dX7_hoursTo_35 : decode cX7_hoursTo 35 = .ok (.iload_n 2, 1) := by decide +kernel
theorem dX7_hoursTo_36 : decode cX7_hoursTo 36 = .ok (.i2f, 1) := by decide +kernel
theorem dX7_hoursTo_37 : decode cX7_hoursTo 37 = .ok (.ldc 146, 2) := by decide +kernel
theorem dX7_hoursTo_39 : decode cX7_hoursTo 39 = .ok (.fdiv, 1) := by decide +kernel
theorem dX7_hoursTo_40 : decode cX7_hoursTo 40 = .ok (.invokevirtual 147, 3) := by decide +kernel
theorem dX7_hoursTo_43 : decode cX7_hoursTo 43 = .ok (.ireturn, 1) := by decide +kernel
theorem dX7_asset_0 : decode cX7_asset 0 = .ok (.aload_n 0, 1) := by decide +kernel
theorem dX7_asset_1 : decode cX7_asset 1 = .ok (.getfield 10, 3) := by decide +kernel
theorem dX7_asset_4 : decode cX7_asset 4 = .ok (.iload_n 1, 1) := by decide +kernel
theorem dX7_asset_5 : decode cX7_asset 5 = .ok (.invokevirtual 117, 3) := by decide +kernel
theorem dX7_asset_8 : decode cX7_asset 8 = .ok (.ifCond .ne 5, 3) := by decide +kernel
theorem dX7_asset_11 : decode cX7_asset 11 = .ok (.iconst (-1), 1) := by decide +kernel
theorem dX7_asset_12 : decode cX7_asset 12 = .ok (.ireturn, 1) := by decide +kernel
theorem dX7_asset_13 : decode cX7_asset 13 = .ok (.aload_n 0, 1) := by decide +kernel
theorem dX7_asset_14 : decode cX7_asset 14 = .ok (.getfield 10, 3) := by decide +kernel
theorem dX7_asset_17 : decode cX7_asset 17 = .ok (.getfield 122, 3) := by decide +kernel
theorem dX7_asset_20 : decode cX7_asset 20 = .ok (.iload_n 1, 1) := by decide +kernel
theorem dX7_asset_21 : decode cX7_asset 21 = .ok (.aaload, 1) := by decide +kernel
theorem dX7_asset_22 : decode cX7_asset 22 = .ok (.astore_n 3, 1) := by decide +kernel
theorem dX7_asset_23 : decode cX7_asset 23 = .ok (.iload_n 2, 1) := by decide +kernel
theorem dX7_asset_24 : decode cX7_asset 24 = .ok (.tableswitch 122 0 7 #[48, 61, 70, 80, 85, 96, 107, 116], 48) := by decide +kernel
theorem dX7_asset_72 : decode cX7_asset 72 = .ok (.aload_n 3, 1) := by decide +kernel
theorem dX7_asset_73 : decode cX7_asset 73 = .ok (.getfield 151, 3) := by decide +kernel
theorem dX7_asset_76 : decode cX7_asset 76 = .ok (.ifCond .eq 7, 3) := by decide +kernel
theorem dX7_asset_79 : decode cX7_asset 79 = .ok (.iconst 1, 1) := by decide +kernel
theorem dX7_asset_80 : decode cX7_asset 80 = .ok (.goto 4, 3) := by decide +kernel
theorem dX7_asset_83 : decode cX7_asset 83 = .ok (.iconst 0, 1) := by decide +kernel
theorem dX7_asset_84 : decode cX7_asset 84 = .ok (.ireturn, 1) := by decide +kernel
theorem dX7_asset_85 : decode cX7_asset 85 = .ok (.aload_n 0, 1) := by decide +kernel
theorem dX7_asset_86 : decode cX7_asset 86 = .ok (.getfield 10, 3) := by decide +kernel
theorem dX7_asset_89 : decode cX7_asset 89 = .ok (.iload_n 1, 1) := by decide +kernel
theorem dX7_asset_90 : decode cX7_asset 90 = .ok (.invokevirtual 154, 3) := by decide +kernel
theorem dX7_asset_93 : decode cX7_asset 93 = .ok (.ireturn, 1) := by decide +kernel
theorem dX7_asset_94 : decode cX7_asset 94 = .ok (.aload_n 0, 1) := by decide +kernel
theorem dX7_asset_95 : decode cX7_asset 95 = .ok (.getfield 10, 3) := by decide +kernel
theorem dX7_asset_98 : decode cX7_asset 98 = .ok (.iload_n 1, 1) := by decide +kernel
theorem dX7_asset_99 : decode cX7_asset 99 = .ok (.iconst 0, 1) := by decide +kernel
theorem dX7_asset_100 : decode cX7_asset 100 = .ok (.invokevirtual 157, 3) := by decide +kernel
theorem dX7_asset_103 : decode cX7_asset 103 = .ok (.ireturn, 1) := by decide +kernel
theorem dX7_asset_104 : decode cX7_asset 104 = .ok (.aload_n 3, 1) := by decide +kernel
theorem dX7_asset_105 : decode cX7_asset 105 = .ok (.getfield 160, 3) := by decide +kernel
theorem dX7_asset_108 : decode cX7_asset 108 = .ok (.ireturn, 1) := by decide +kernel
theorem dX7_asset_109 : decode cX7_asset 109 = .ok (.aload_n 0, 1) := by decide +kernel
theorem dX7_asset_110 : decode cX7_asset 110 = .ok (.getfield 10, 3) := by decide +kernel
theorem dX7_asset_113 : decode cX7_asset 113 = .ok (.iload_n 1, 1) := by decide +kernel
theorem dX7_asset_114 : decode cX7_asset 114 = .ok (.iconst 0, 1) := by decide +kernel
theorem dX7_asset_115 : decode cX7_asset 115 = .ok (.iconst 3, 1) := by decide +kernel
theorem dX7_asset_116 : decode cX7_asset 116 = .ok (.invokevirtual 163, 3) := by decide +kernel
theorem dX7_asset_119 : decode cX7_asset 119 = .ok (.ireturn, 1) := by decide +kernel
theorem dX7_asset_120 : decode cX7_asset 120 = .ok (.aload_n 0, 1) := by decide +kernel
theorem dX7_asset_121 : decode cX7_asset 121 = .ok (.getfield 10, 3) := by decide +kernel
theorem dX7_asset_124 : decode cX7_asset 124 = .ok (.iload_n 1, 1) := by decide +kernel
theorem dX7_asset_125 : decode cX7_asset 125 = .ok (.iconst 4, 1) := by decide +kernel
theorem dX7_asset_126 : decode cX7_asset 126 = .ok (.iconst 4, 1) := by decide +kernel
theorem dX7_asset_127 : decode cX7_asset 127 = .ok (.invokevirtual 163, 3) := by decide +kernel
theorem dX7_asset_130 : decode cX7_asset 130 = .ok (.ireturn, 1) := by decide +kernel
theorem dX7_asset_131 : decode cX7_asset 131 = .ok (.aload_n 3, 1) := by decide +kernel
theorem dX7_asset_132 : decode cX7_asset 132 = .ok (.getfield 126, 3) := by decide +kernel
theorem dX7_asset_135 : decode cX7_asset 135 = .ok (.ldc 167, 2) := by decide +kernel
theorem dX7_asset_137 : decode cX7_asset 137 = .ok (.fmul, 1) := by decide +kernel
theorem dX7_asset_138 : decode cX7_asset 138 = .ok (.f2i, 1) := by decide +kernel
theorem dX7_asset_139 : decode cX7_asset 139 = .ok (.ireturn, 1) := by decide +kernel
theorem dX7_asset_140 : decode cX7_asset 140 = .ok (.aload_n 3, 1) := by decide +kernel
theorem dX7_asset_141 : decode cX7_asset 141 = .ok (.getfield 132, 3) := by decide +kernel
theorem dX7_asset_144 : decode cX7_asset 144 = .ok (.f2i, 1) := by decide +kernel
theorem dX7_asset_145 : decode cX7_asset 145 = .ok (.ireturn, 1) := by decide +kernel
theorem dX7_asset_146 : decode cX7_asset 146 = .ok (.bipush (-2), 2) := by decide +kernel
theorem dX7_asset_148 : decode cX7_asset 148 = .ok (.ireturn, 1) := by decide +kernel
theorem dX7_tagAt_0 : decode cX7_tagAt 0 = .ok (.aload_n 0, 1) := by decide +kernel
theorem dX7_tagAt_1 : decode cX7_tagAt 1 = .ok (.getfield 10, 3) := by decide +kernel
theorem dX7_tagAt_4 : decode cX7_tagAt 4 = .ok (.iload_n 1, 1) := by decide +kernel
theorem dX7_tagAt_5 : decode cX7_tagAt 5 = .ok (.invokevirtual 117, 3) := by decide +kernel
theorem dX7_tagAt_8 : decode cX7_tagAt 8 = .ok (.ifCond .ne 5, 3) := by decide +kernel
theorem dX7_tagAt_11 : decode cX7_tagAt 11 = .ok (.iconst (-1), 1) := by decide +kernel
theorem dX7_tagAt_12 : decode cX7_tagAt 12 = .ok (.ireturn, 1) := by decide +kernel
theorem dX7_tagAt_13 : decode cX7_tagAt 13 = .ok (.iload_n 2, 1) := by decide +kernel
theorem dX7_tagAt_14 : decode cX7_tagAt 14 = .ok (.ifCond .ge 6, 3) := by decide +kernel
theorem dX7_tagAt_17 : decode cX7_tagAt 17 = .ok (.bipush (-2), 2) := by decide +kernel
theorem dX7_tagAt_19 : decode cX7_tagAt 19 = .ok (.ireturn, 1) := by decide +kernel
theorem dX7_tagAt_20 : decode cX7_tagAt 20 = .ok (.aload_n 0, 1) := by decide +kernel
theorem dX7_tagAt_21 : decode cX7_tagAt 21 = .ok (.getfield 10, 3) := by decide +kernel
theorem dX7_tagAt_24 : decode cX7_tagAt 24 = .ok (.iload_n 1, 1) := by decide +kernel
theorem dX7_tagAt_25 : decode cX7_tagAt 25 = .ok (.iload_n 2, 1) := by decide +kernel
theorem dX7_tagAt_26 : decode cX7_tagAt 26 = .ok (.invokevirtual 157, 3) := by decide +kernel
theorem dX7_tagAt_29 : decode cX7_tagAt 29 = .ok (.ireturn, 1) := by decide +kernel
theorem dX7_crew_0 : decode cX7_crew 0 = .ok (.aload_n 0, 1) := by decide +kernel
theorem dX7_crew_1 : decode cX7_crew 1 = .ok (.getfield 10, 3) := by decide +kernel
theorem dX7_crew_4 : decode cX7_crew 4 = .ok (.iload_n 1, 1) := by decide +kernel
theorem dX7_crew_5 : decode cX7_crew 5 = .ok (.invokevirtual 168, 3) := by decide +kernel
theorem dX7_crew_8 : decode cX7_crew 8 = .ok (.ifCond .ne 5, 3) := by decide +kernel
theorem dX7_crew_11 : decode cX7_crew 11 = .ok (.iconst (-1), 1) := by decide +kernel
theorem dX7_crew_12 : decode cX7_crew 12 = .ok (.ireturn, 1) := by decide +kernel
theorem dX7_crew_13 : decode cX7_crew 13 = .ok (.aload_n 0, 1) := by decide +kernel
theorem dX7_crew_14 : decode cX7_crew 14 = .ok (.getfield 10, 3) := by decide +kernel
theorem dX7_crew_17 : decode cX7_crew 17 = .ok (.getfield 171, 3) := by decide +kernel
theorem dX7_crew_20 : decode cX7_crew 20 = .ok (.iload_n 1, 1) := by decide +kernel
theorem dX7_crew_21 : decode cX7_crew 21 = .ok (.aaload, 1) := by decide +kernel
theorem dX7_crew_22 : decode cX7_crew 22 = .ok (.astore_n 3, 1) := by decide +kernel
theorem dX7_crew_23 : decode cX7_crew 23 = .ok (.iload_n 2, 1) := by decide +kernel
theorem dX7_crew_24 : decode cX7_crew 24 = .ok (.tableswitch 77 0 4 #[36, 41, 46, 55, 66], 36) := by decide +kernel
theorem dX7_crew_60 : decode cX7_crew 60 = .ok (.aload_n 3, 1) := by decide +kernel
theorem dX7_crew_61 : decode cX7_crew 61 = .ok (.getfield 175, 3) := by decide +kernel
theorem dX7_crew_64 : decode cX7_crew 64 = .ok (.ireturn, 1) := by decide +kernel
theorem dX7_crew_65 : decode cX7_crew 65 = .ok (.aload_n 3, 1) := by decide +kernel
theorem dX7_crew_66 : decode cX7_crew 66 = .ok (.getfield 180, 3) := by decide +kernel
theorem dX7_crew_69 : decode cX7_crew 69 = .ok (.ireturn, 1) := by decide +kernel
theorem dX7_crew_70 : decode cX7_crew 70 = .ok (.aload_n 0, 1) := by decide +kernel
theorem dX7_crew_71 : decode cX7_crew 71 = .ok (.getfield 10, 3) := by decide +kernel
theorem dX7_crew_74 : decode cX7_crew 74 = .ok (.iload_n 1, 1) := by decide +kernel
theorem dX7_crew_75 : decode cX7_crew 75 = .ok (.invokevirtual 183, 3) := by decide +kernel
theorem dX7_crew_78 : decode cX7_crew 78 = .ok (.ireturn, 1) := by decide +kernel
theorem dX7_crew_79 : decode cX7_crew 79 = .ok (.aload_n 0, 1) := by decide +kernel
theorem dX7_crew_80 : decode cX7_crew 80 = .ok (.getfield 10, 3) := by decide +kernel
theorem dX7_crew_83 : decode cX7_crew 83 = .ok (.iload_n 1, 1) := by decide +kernel
theorem dX7_crew_84 : decode cX7_crew 84 = .ok (.iconst 1, 1) := by decide +kernel
theorem dX7_crew_85 : decode cX7_crew 85 = .ok (.iconst 3, 1) := by decide +kernel
theorem dX7_crew_86 : decode cX7_crew 86 = .ok (.invokevirtual 186, 3) := by decide +kernel
theorem dX7_crew_89 : decode cX7_crew 89 = .ok (.ireturn, 1) := by decide +kernel
theorem dX7_crew_90 : decode cX7_crew 90 = .ok (.aload_n 0, 1) := by decide +kernel
theorem dX7_crew_91 : decode cX7_crew 91 = .ok (.getfield 10, 3) := by decide +kernel
theorem dX7_crew_94 : decode cX7_crew 94 = .ok (.iload_n 1, 1) := by decide +kernel
theorem dX7_crew_95 : decode cX7_crew 95 = .ok (.iconst 4, 1) := by decide +kernel
theorem dX7_crew_96 : decode cX7_crew 96 = .ok (.iconst 4, 1) := by decide +kernel
theorem dX7_crew_97 : decode cX7_crew 97 = .ok (.invokevirtual 186, 3) := by decide +kernel
theorem dX7_crew_100 : decode cX7_crew 100 = .ok (.ireturn, 1) := by decide +kernel
theorem dX7_crew_101 : decode cX7_crew 101 = .ok (.bipush (-2), 2) := by decide +kernel
theorem dX7_crew_103 : decode cX7_crew 103 = .ok (.ireturn, 1) := by decide +kernel
theorem dX7_task_0 : decode cX7_task 0 = .ok (.aload_n 0, 1) := by decide +kernel
theorem dX7_task_1 : decode cX7_task 1 = .ok (.getfield 10, 3) := by decide +kernel
theorem dX7_task_4 : decode cX7_task 4 = .ok (.iload_n 1, 1) := by decide +kernel
theorem dX7_task_5 : decode cX7_task 5 = .ok (.invokevirtual 189, 3) := by decide +kernel
theorem dX7_task_8 : decode cX7_task 8 = .ok (.ifCond .ne 5, 3) := by decide +kernel
theorem dX7_task_11 : decode cX7_task 11 = .ok (.iconst (-1), 1) := by decide +kernel
theorem dX7_task_12 : decode cX7_task 12 = .ok (.ireturn, 1) := by decide +kernel
theorem dX7_task_13 : decode cX7_task 13 = .ok (.aload_n 0, 1) := by decide +kernel
theorem dX7_task_14 : decode cX7_task 14 = .ok (.getfield 10, 3) := by decide +kernel
theorem dX7_task_17 : decode cX7_task 17 = .ok (.getfield 192, 3) := by decide +kernel
theorem dX7_task_20 : decode cX7_task 20 = .ok (.iload_n 1, 1) := by decide +kernel
theorem dX7_task_21 : decode cX7_task 21 = .ok (.aaload, 1) := by decide +kernel
theorem dX7_task_22 : decode cX7_task 22 = .ok (.astore_n 3, 1) := by decide +kernel
theorem dX7_task_23 : decode cX7_task 23 = .ok (.iload_n 2, 1) := by decide +kernel
theorem dX7_task_24 : decode cX7_task 24 = .ok (.tableswitch 154 0 12 #[68, 73, 78, 83, 88, 93, 98, 103, 108, 113, 131, 136, 145], 68) := by decide +kernel
theorem dX7_task_92 : decode cX7_task 92 = .ok (.aload_n 3, 1) := by decide +kernel
theorem dX7_task_93 : decode cX7_task 93 = .ok (.getfield 196, 3) := by decide +kernel
theorem dX7_task_96 : decode cX7_task 96 = .ok (.ireturn, 1) := by decide +kernel
theorem dX7_task_97 : decode cX7_task 97 = .ok (.aload_n 3, 1) := by decide +kernel
theorem dX7_task_98 : decode cX7_task 98 = .ok (.getfield 201, 3) := by decide +kernel
theorem dX7_task_101 : decode cX7_task 101 = .ok (.ireturn, 1) := by decide +kernel
theorem dX7_task_102 : decode cX7_task 102 = .ok (.aload_n 3, 1) := by decide +kernel
theorem dX7_task_103 : decode cX7_task 103 = .ok (.getfield 204, 3) := by decide +kernel
theorem dX7_task_106 : decode cX7_task 106 = .ok (.ireturn, 1) := by decide +kernel
theorem dX7_task_107 : decode cX7_task 107 = .ok (.aload_n 3, 1) := by decide +kernel
theorem dX7_task_108 : decode cX7_task 108 = .ok (.getfield 207, 3) := by decide +kernel
theorem dX7_task_111 : decode cX7_task 111 = .ok (.ireturn, 1) := by decide +kernel
theorem dX7_task_112 : decode cX7_task 112 = .ok (.aload_n 3, 1) := by decide +kernel
theorem dX7_task_113 : decode cX7_task 113 = .ok (.getfield 208, 3) := by decide +kernel
theorem dX7_task_116 : decode cX7_task 116 = .ok (.ireturn, 1) := by decide +kernel
theorem dX7_task_117 : decode cX7_task 117 = .ok (.aload_n 3, 1) := by decide +kernel
theorem dX7_task_118 : decode cX7_task 118 = .ok (.getfield 211, 3) := by decide +kernel
theorem dX7_task_121 : decode cX7_task 121 = .ok (.ireturn, 1) := by decide +kernel
theorem dX7_task_122 : decode cX7_task 122 = .ok (.aload_n 3, 1) := by decide +kernel
theorem dX7_task_123 : decode cX7_task 123 = .ok (.getfield 214, 3) := by decide +kernel
theorem dX7_task_126 : decode cX7_task 126 = .ok (.ireturn, 1) := by decide +kernel
theorem dX7_task_127 : decode cX7_task 127 = .ok (.aload_n 3, 1) := by decide +kernel
theorem dX7_task_128 : decode cX7_task 128 = .ok (.getfield 217, 3) := by decide +kernel
theorem dX7_task_131 : decode cX7_task 131 = .ok (.ireturn, 1) := by decide +kernel
theorem dX7_task_132 : decode cX7_task 132 = .ok (.aload_n 3, 1) := by decide +kernel
theorem dX7_task_133 : decode cX7_task 133 = .ok (.getfield 220, 3) := by decide +kernel
theorem dX7_task_136 : decode cX7_task 136 = .ok (.ireturn, 1) := by decide +kernel
theorem dX7_task_137 : decode cX7_task 137 = .ok (.aload_n 3, 1) := by decide +kernel
theorem dX7_task_138 : decode cX7_task 138 = .ok (.getfield 201, 3) := by decide +kernel
theorem dX7_task_141 : decode cX7_task 141 = .ok (.iconst 2, 1) := by decide +kernel
theorem dX7_task_142 : decode cX7_task 142 = .ok (.if_icmp .ne 10, 3) := by decide +kernel
theorem dX7_task_145 : decode cX7_task 145 = .ok (.aload_n 3, 1) := by decide +kernel
theorem dX7_task_146 : decode cX7_task 146 = .ok (.getfield 223, 3) := by decide +kernel
theorem dX7_task_149 : decode cX7_task 149 = .ok (.goto 5, 3) := by decide +kernel
theorem dX7_task_152 : decode cX7_task 152 = .ok (.bipush (-5), 2) := by decide +kernel
theorem dX7_task_154 : decode cX7_task 154 = .ok (.ireturn, 1) := by decide +kernel
theorem dX7_task_155 : decode cX7_task 155 = .ok (.aload_n 3, 1) := by decide +kernel
theorem dX7_task_156 : decode cX7_task 156 = .ok (.getfield 226, 3) := by decide +kernel
theorem dX7_task_159 : decode cX7_task 159 = .ok (.ireturn, 1) := by decide +kernel
theorem dX7_task_160 : decode cX7_task 160 = .ok (.aload_n 0, 1) := by decide +kernel
theorem dX7_task_161 : decode cX7_task 161 = .ok (.getfield 10, 3) := by decide +kernel
theorem dX7_task_164 : decode cX7_task 164 = .ok (.iload_n 1, 1) := by decide +kernel
theorem dX7_task_165 : decode cX7_task 165 = .ok (.invokevirtual 229, 3) := by decide +kernel
theorem dX7_task_168 : decode cX7_task 168 = .ok (.ireturn, 1) := by decide +kernel
theorem dX7_task_169 : decode cX7_task 169 = .ok (.aload_n 0, 1) := by decide +kernel
theorem dX7_task_170 : decode cX7_task 170 = .ok (.getfield 10, 3) := by decide +kernel
theorem dX7_task_173 : decode cX7_task 173 = .ok (.iload_n 1, 1) := by decide +kernel
theorem dX7_task_174 : decode cX7_task 174 = .ok (.invokevirtual 232, 3) := by decide +kernel
theorem dX7_task_177 : decode cX7_task 177 = .ok (.ireturn, 1) := by decide +kernel
theorem dX7_task_178 : decode cX7_task 178 = .ok (.bipush (-2), 2) := by decide +kernel
theorem dX7_task_180 : decode cX7_task 180 = .ok (.ireturn, 1) := by decide +kernel
theorem dX7_crewFor_0 : decode cX7_crewFor 0 = .ok (.aload_n 0, 1) := by decide +kernel
theorem dX7_crewFor_1 : decode cX7_crewFor 1 = .ok (.getfield 10, 3) := by decide +kernel
theorem dX7_crewFor_4 : decode cX7_crewFor 4 = .ok (.iload_n 1, 1) := by decide +kernel
theorem dX7_crewFor_5 : decode cX7_crewFor 5 = .ok (.invokevirtual 189, 3) := by decide +kernel
theorem dX7_crewFor_8 : decode cX7_crewFor 8 = .ok (.ifCond .ne 5, 3) := by decide +kernel
theorem dX7_crewFor_11 : decode cX7_crewFor 11 = .ok (.iconst (-1), 1) := by decide +kernel
theorem dX7_crewFor_12 : decode cX7_crewFor 12 = .ok (.ireturn, 1) := by decide +kernel
theorem dX7_crewFor_13 : decode cX7_crewFor 13 = .ok (.aload_n 0, 1) := by decide +kernel
theorem dX7_crewFor_14 : decode cX7_crewFor 14 = .ok (.getfield 10, 3) := by decide +kernel
theorem dX7_crewFor_17 : decode cX7_crewFor 17 = .ok (.iload_n 1, 1) := by decide +kernel
theorem dX7_crewFor_18 : decode cX7_crewFor 18 = .ok (.invokevirtual 235, 3) := by decide +kernel
theorem dX7_crewFor_21 : decode cX7_crewFor 21 = .ok (.ireturn, 1) := by decide +kernel
theorem dX7_count_0 : decode cX7_count 0 = .ok (.iload_n 1, 1) := by decide +kernel
theorem dX7_count_1 : decode cX7_count 1 = .ok (.tableswitch 165 0 16 #[83, 91, 99, 107, 115, 165, 165, 165, 165, 165, 165, 165, 123, 133, 141, 149, 157], 83) := by decide +kernel
theorem dX7_count_84 : decode cX7_count 84 = .ok (.aload_n 0, 1) := by decide +kernel
theorem dX7_count_85 : decode cX7_count 85 = .ok (.getfield 10, 3) := by decide +kernel
theorem dX7_count_88 : decode cX7_count 88 = .ok (.getfield 114, 3) := by decide +kernel
theorem dX7_count_91 : decode cX7_count 91 = .ok (.ireturn, 1) := by decide +kernel
theorem dX7_count_92 : decode cX7_count 92 = .ok (.aload_n 0, 1) := by decide +kernel
theorem dX7_count_93 : decode cX7_count 93 = .ok (.getfield 10, 3) := by decide +kernel
theorem dX7_count_96 : decode cX7_count 96 = .ok (.getfield 238, 3) := by decide +kernel
theorem dX7_count_99 : decode cX7_count 99 = .ok (.ireturn, 1) := by decide +kernel
theorem dX7_count_100 : decode cX7_count 100 = .ok (.aload_n 0, 1) := by decide +kernel
theorem dX7_count_101 : decode cX7_count 101 = .ok (.getfield 10, 3) := by decide +kernel
theorem dX7_count_104 : decode cX7_count 104 = .ok (.invokevirtual 241, 3) := by decide +kernel
theorem dX7_count_107 : decode cX7_count 107 = .ok (.ireturn, 1) := by decide +kernel
theorem dX7_count_108 : decode cX7_count 108 = .ok (.aload_n 0, 1) := by decide +kernel
theorem dX7_count_109 : decode cX7_count 109 = .ok (.getfield 10, 3) := by decide +kernel
theorem dX7_count_112 : decode cX7_count 112 = .ok (.getfield 244, 3) := by decide +kernel
theorem dX7_count_115 : decode cX7_count 115 = .ok (.ireturn, 1) := by decide +kernel
theorem dX7_count_116 : decode cX7_count 116 = .ok (.aload_n 0, 1) := by decide +kernel
theorem dX7_count_117 : decode cX7_count 117 = .ok (.getfield 10, 3) := by decide +kernel
theorem dX7_count_120 : decode cX7_count 120 = .ok (.getfield 247, 3) := by decide +kernel
theorem dX7_count_123 : decode cX7_count 123 = .ok (.ireturn, 1) := by decide +kernel
theorem dX7_count_124 : decode cX7_count 124 = .ok (.aload_n 0, 1) := by decide +kernel
theorem dX7_count_125 : decode cX7_count 125 = .ok (.getfield 10, 3) := by decide +kernel
theorem dX7_count_128 : decode cX7_count 128 = .ok (.iconst 1, 1) := by decide +kernel
theorem dX7_count_129 : decode cX7_count 129 = .ok (.iconst 3, 1) := by decide +kernel
theorem dX7_count_130 : decode cX7_count 130 = .ok (.invokevirtual 250, 3) := by decide +kernel
theorem dX7_count_133 : decode cX7_count 133 = .ok (.ireturn, 1) := by decide +kernel
theorem dX7_count_134 : decode cX7_count 134 = .ok (.aload_n 0, 1) := by decide +kernel
theorem dX7_count_135 : decode cX7_count 135 = .ok (.getfield 10, 3) := by decide +kernel
theorem dX7_count_138 : decode cX7_count 138 = .ok (.invokevirtual 253, 3) := by decide +kernel
theorem dX7_count_141 : decode cX7_count 141 = .ok (.ireturn, 1) := by decide +kernel
theorem dX7_count_142 : decode cX7_count 142 = .ok (.aload_n 0, 1) := by decide +kernel
theorem dX7_count_143 : decode cX7_count 143 = .ok (.getfield 10, 3) := by decide +kernel
theorem dX7_count_146 : decode cX7_count 146 = .ok (.invokevirtual 256, 3) := by decide +kernel
theorem dX7_count_149 : decode cX7_count 149 = .ok (.ireturn, 1) := by decide +kernel
theorem dX7_count_150 : decode cX7_count 150 = .ok (.aload_n 0, 1) := by decide +kernel
theorem dX7_count_151 : decode cX7_count 151 = .ok (.getfield 29, 3) := by decide +kernel
theorem dX7_count_154 : decode cX7_count 154 = .ok (.getfield 259, 3) := by decide +kernel
theorem dX7_count_157 : decode cX7_count 157 = .ok (.ireturn, 1) := by decide +kernel
theorem dX7_count_158 : decode cX7_count 158 = .ok (.aload_n 0, 1) := by decide +kernel
theorem dX7_count_159 : decode cX7_count 159 = .ok (.getfield 36, 3) := by decide +kernel
theorem dX7_count_162 : decode cX7_count 162 = .ok (.getfield 262, 3) := by decide +kernel
theorem dX7_count_165 : decode cX7_count 165 = .ok (.ireturn, 1) := by decide +kernel
theorem dX7_count_166 : decode cX7_count 166 = .ok (.iload_n 1, 1) := by decide +kernel
theorem dX7_count_167 : decode cX7_count 167 = .ok (.iconst 5, 1) := by decide +kernel
theorem dX7_count_168 : decode cX7_count 168 = .ok (.bipush 11, 2) := by decide +kernel
theorem dX7_count_170 : decode cX7_count 170 = .ok (.invokestatic 138, 3) := by decide +kernel
theorem dX7_count_173 : decode cX7_count 173 = .ok (.ifCond .eq 17, 3) := by decide +kernel
theorem dX7_count_176 : decode cX7_count 176 = .ok (.aload_n 0, 1) := by decide +kernel
theorem dX7_count_177 : decode cX7_count 177 = .ok (.getfield 10, 3) := by decide +kernel
theorem dX7_count_180 : decode cX7_count 180 = .ok (.iload_n 1, 1) := by decide +kernel
theorem dX7_count_181 : decode cX7_count 181 = .ok (.iconst 5, 1) := by decide +kernel
theorem dX7_count_182 : decode cX7_count 182 = .ok (.isub, 1) := by decide +kernel
theorem dX7_count_183 : decode cX7_count 183 = .ok (.iload_n 1, 1) := by decide +kernel
theorem dX7_count_184 : decode cX7_count 184 = .ok (.iconst 5, 1) := by decide +kernel
theorem dX7_count_185 : decode cX7_count 185 = .ok (.isub, 1) := by decide +kernel
theorem dX7_count_186 : decode cX7_count 186 = .ok (.invokevirtual 250, 3) := by decide +kernel
theorem dX7_count_189 : decode cX7_count 189 = .ok (.ireturn, 1) := by decide +kernel
theorem dX7_count_190 : decode cX7_count 190 = .ok (.bipush (-2), 2) := by decide +kernel
theorem dX7_count_192 : decode cX7_count 192 = .ok (.ireturn, 1) := by decide +kernel
theorem dX7_recorded_0 : decode cX7_recorded 0 = .ok (.iload_n 1, 1) := by decide +kernel
theorem dX7_recorded_1 : decode cX7_recorded 1 = .ok (.ifCond .lt 14, 3) := by decide +kernel
theorem dX7_recorded_4 : decode cX7_recorded 4 = .ok (.aload_n 0, 1) := by decide +kernel
theorem dX7_recorded_5 : decode cX7_recorded 5 = .ok (.getfield 29, 3) := by decide +kernel
theorem dX7_recorded_8 : decode cX7_recorded 8 = .ok (.aload_n 0, 1) := by decide +kernel
theorem dX7_recorded_9 : decode cX7_recorded 9 = .ok (.getfield 16, 3) := by decide +kernel
theorem dX7_recorded_12 : decode cX7_recorded 12 = .ok (.invokevirtual 265, 3) := by decide +kernel
theorem dX7_recorded_15 : decode cX7_recorded 15 = .ok (.iload_n 1, 1) := by decide +kernel
theorem dX7_recorded_16 : decode cX7_recorded 16 = .ok (.ireturn, 1) := by decide +kernel
theorem dX7_within_0 : decode cX7_within 0 = .ok (.iload_n 0, 1) := by decide +kernel
theorem dX7_within_1 : decode cX7_within 1 = .ok (.iload_n 1, 1) := by decide +kernel
theorem dX7_within_2 : decode cX7_within 2 = .ok (.if_icmp .lt 12, 3) := by decide +kernel
theorem dX7_within_5 : decode cX7_within 5 = .ok (.iload_n 0, 1) := by decide +kernel
theorem dX7_within_6 : decode cX7_within 6 = .ok (.iload_n 2, 1) := by decide +kernel
theorem dX7_within_7 : decode cX7_within 7 = .ok (.if_icmp .gt 7, 3) := by decide +kernel
theorem dX7_within_10 : decode cX7_within 10 = .ok (.iconst 1, 1) := by decide +kernel
theorem dX7_within_11 : decode cX7_within 11 = .ok (.goto 4, 3) := by decide +kernel
theorem dX7_within_14 : decode cX7_within 14 = .ok (.iconst 0, 1) := by decide +kernel
theorem dX7_within_15 : decode cX7_within 15 = .ok (.ireturn, 1) := by decide +kernel
theorem dJ6_bitCount_0f7a4_0 : decode cJ6_bitCount_0f7a4 0 = .ok (.iload_n 0, 1) := by decide +kernel
theorem dJ6_bitCount_0f7a4_1 : decode cJ6_bitCount_0f7a4 1 = .ok (.iload_n 0, 1) := by decide +kernel
theorem dJ6_bitCount_0f7a4_2 : decode cJ6_bitCount_0f7a4 2 = .ok (.iconst 1, 1) := by decide +kernel
theorem dJ6_bitCount_0f7a4_3 : decode cJ6_bitCount_0f7a4 3 = .ok (.iushr, 1) := by decide +kernel
theorem dJ6_bitCount_0f7a4_4 : decode cJ6_bitCount_0f7a4 4 = .ok (.ldc_w 265, 3) := by decide +kernel
theorem dJ6_bitCount_0f7a4_7 : decode cJ6_bitCount_0f7a4 7 = .ok (.iand, 1) := by decide +kernel
theorem dJ6_bitCount_0f7a4_8 : decode cJ6_bitCount_0f7a4 8 = .ok (.isub, 1) := by decide +kernel
theorem dJ6_bitCount_0f7a4_9 : decode cJ6_bitCount_0f7a4 9 = .ok (.istore_n 0, 1) := by decide +kernel
theorem dJ6_bitCount_0f7a4_10 : decode cJ6_bitCount_0f7a4 10 = .ok (.iload_n 0, 1) := by decide +kernel
theorem dJ6_bitCount_0f7a4_11 : decode cJ6_bitCount_0f7a4 11 = .ok (.ldc_w 266, 3) := by decide +kernel
theorem dJ6_bitCount_0f7a4_14 : decode cJ6_bitCount_0f7a4 14 = .ok (.iand, 1) := by decide +kernel
theorem dJ6_bitCount_0f7a4_15 : decode cJ6_bitCount_0f7a4 15 = .ok (.iload_n 0, 1) := by decide +kernel
theorem dJ6_bitCount_0f7a4_16 : decode cJ6_bitCount_0f7a4 16 = .ok (.iconst 2, 1) := by decide +kernel
theorem dJ6_bitCount_0f7a4_17 : decode cJ6_bitCount_0f7a4 17 = .ok (.iushr, 1) := by decide +kernel
theorem dJ6_bitCount_0f7a4_18 : decode cJ6_bitCount_0f7a4 18 = .ok (.ldc_w 266, 3) := by decide +kernel
theorem dJ6_bitCount_0f7a4_21 : decode cJ6_bitCount_0f7a4 21 = .ok (.iand, 1) := by decide +kernel
theorem dJ6_bitCount_0f7a4_22 : decode cJ6_bitCount_0f7a4 22 = .ok (.iadd, 1) := by decide +kernel
theorem dJ6_bitCount_0f7a4_23 : decode cJ6_bitCount_0f7a4 23 = .ok (.istore_n 0, 1) := by decide +kernel
theorem dJ6_bitCount_0f7a4_24 : decode cJ6_bitCount_0f7a4 24 = .ok (.iload_n 0, 1) := by decide +kernel
theorem dJ6_bitCount_0f7a4_25 : decode cJ6_bitCount_0f7a4 25 = .ok (.iload_n 0, 1) := by decide +kernel
theorem dJ6_bitCount_0f7a4_26 : decode cJ6_bitCount_0f7a4 26 = .ok (.iconst 4, 1) := by decide +kernel
theorem dJ6_bitCount_0f7a4_27 : decode cJ6_bitCount_0f7a4 27 = .ok (.iushr, 1) := by decide +kernel
theorem dJ6_bitCount_0f7a4_28 : decode cJ6_bitCount_0f7a4 28 = .ok (.iadd, 1) := by decide +kernel
theorem dJ6_bitCount_0f7a4_29 : decode cJ6_bitCount_0f7a4 29 = .ok (.ldc_w 267, 3) := by decide +kernel
theorem dJ6_bitCount_0f7a4_32 : decode cJ6_bitCount_0f7a4 32 = .ok (.iand, 1) := by decide +kernel
theorem dJ6_bitCount_0f7a4_33 : decode cJ6_bitCount_0f7a4 33 = .ok (.istore_n 0, 1) := by decide +kernel
theorem dJ6_bitCount_0f7a4_34 : decode cJ6_bitCount_0f7a4 34 = .ok (.iload_n 0, 1) := by decide +kernel
theorem dJ6_bitCount_0f7a4_35 : decode cJ6_bitCount_0f7a4 35 = .ok (.iload_n 0, 1) := by decide +kernel
theorem dJ6_bitCount_0f7a4_36 : decode cJ6_bitCount_0f7a4 36 = .ok (.bipush 8, 2) := by decide +kernel
theorem dJ6_bitCount_0f7a4_38 : decode cJ6_bitCount_0f7a4 38 = .ok (.iushr, 1) := by decide +kernel
theorem dJ6_bitCount_0f7a4_39 : decode cJ6_bitCount_0f7a4 39 = .ok (.iadd, 1) := by decide +kernel
theorem dJ6_bitCount_0f7a4_40 : decode cJ6_bitCount_0f7a4 40 = .ok (.istore_n 0, 1) := by decide +kernel
theorem dJ6_bitCount_0f7a4_41 : decode cJ6_bitCount_0f7a4 41 = .ok (.iload_n 0, 1) := by decide +kernel
theorem dJ6_bitCount_0f7a4_42 : decode cJ6_bitCount_0f7a4 42 = .ok (.iload_n 0, 1) := by decide +kernel
theorem dJ6_bitCount_0f7a4_43 : decode cJ6_bitCount_0f7a4 43 = .ok (.bipush 16, 2) := by decide +kernel
theorem dJ6_bitCount_0f7a4_45 : decode cJ6_bitCount_0f7a4 45 = .ok (.iushr, 1) := by decide +kernel
theorem dJ6_bitCount_0f7a4_46 : decode cJ6_bitCount_0f7a4 46 = .ok (.iadd, 1) := by decide +kernel
theorem dJ6_bitCount_0f7a4_47 : decode cJ6_bitCount_0f7a4 47 = .ok (.istore_n 0, 1) := by decide +kernel
theorem dJ6_bitCount_0f7a4_48 : decode cJ6_bitCount_0f7a4 48 = .ok (.iload_n 0, 1) := by decide +kernel
theorem dJ6_bitCount_0f7a4_49 : decode cJ6_bitCount_0f7a4 49 = .ok (.bipush 63, 2) := by decide +kernel
theorem dJ6_bitCount_0f7a4_51 : decode cJ6_bitCount_0f7a4 51 = .ok (.iand, 1) := by decide +kernel
theorem dJ6_bitCount_0f7a4_52 : decode cJ6_bitCount_0f7a4 52 = .ok (.ireturn, 1) := by decide +kernel
theorem dL_cell_0 : decode cL_cell 0 = .ok (.iload_n 1, 1) := by decide +kernel
theorem dL_cell_1 : decode cL_cell 1 = .ok (.aload_n 0, 1) := by decide +kernel
theorem dL_cell_2 : decode cL_cell 2 = .ok (.arraylength, 1) := by decide +kernel
theorem dL_cell_3 : decode cL_cell 3 = .ok (.if_icmp .ge 9, 3) := by decide +kernel
theorem dL_cell_6 : decode cL_cell 6 = .ok (.aload_n 0, 1) := by decide +kernel
theorem dL_cell_7 : decode cL_cell 7 = .ok (.iload_n 1, 1) := by decide +kernel
theorem dL_cell_8 : decode cL_cell 8 = .ok (.iaload, 1) := by decide +kernel
theorem dL_cell_9 : decode cL_cell 9 = .ok (.goto 9, 3) := by decide +kernel
theorem dL_cell_12 : decode cL_cell 12 = .ok (.ldc 7, 2) := by decide +kernel
theorem dL_cell_14 : decode cL_cell 14 = .ok (.iload_n 1, 1) := by decide +kernel
theorem dL_cell_15 : decode cL_cell 15 = .ok (.iconst 3, 1) := by decide +kernel
theorem dL_cell_16 : decode cL_cell 16 = .ok (.iadd, 1) := by decide +kernel
theorem dL_cell_17 : decode cL_cell 17 = .ok (.imul, 1) := by decide +kernel
theorem dL_cell_18 : decode cL_cell 18 = .ok (.ireturn, 1) := by decide +kernel
theorem dL_up_0 : decode cL_up 0 = .ok (.iload_n 0, 1) := by decide +kernel
theorem dL_up_1 : decode cL_up 1 = .ok (.ldc 8, 2) := by decide +kernel
theorem dL_up_3 : decode cL_up 3 = .ok (.iand, 1) := by decide +kernel
theorem dL_up_4 : decode cL_up 4 = .ok (.iload_n 1, 1) := by decide +kernel
theorem dL_up_5 : decode cL_up 5 = .ok (.irem, 1) := by decide +kernel
theorem dL_up_6 : decode cL_up 6 = .ok (.ireturn, 1) := by decide +kernel
theorem dL_view_0 : decode cL_view 0 = .ok (.ldc2_w 9, 3) := by decide +kernel
theorem dL_view_3 : decode cL_view 3 = .ok (.lstore_n 1, 1) := by decide +kernel
theorem dL_view_4 : decode cL_view 4 = .ok (.iconst 0, 1) := by decide +kernel
theorem dL_view_5 : decode cL_view 5 = .ok (.istore_n 3, 1) := by decide +kernel
theorem dL_view_6 : decode cL_view 6 = .ok (.iload_n 3, 1) := by decide +kernel
theorem dL_view_7 : decode cL_view 7 = .ok (.bipush 15, 2) := by decide +kernel
theorem dL_view_9 : decode cL_view 9 = .ok (.if_icmp .ge 22, 3) := by decide +kernel
theorem dL_view_12 : decode cL_view 12 = .ok (.ldc2_w 11, 3) := by decide +kernel
theorem dL_view_15 : decode cL_view 15 = .ok (.lload_n 1, 1) := by decide +kernel
theorem dL_view_16 : decode cL_view 16 = .ok (.lmul, 1) := by decide +kernel
theorem dL_view_17 : decode cL_view 17 = .ok (.aload_n 0, 1) := by decide +kernel
theorem dL_view_18 : decode cL_view 18 = .ok (.iload_n 3, 1) := by decide +kernel
theorem dL_view_19 : decode cL_view 19 = .ok (.invokevirtual 13, 3) := by decide +kernel
theorem dL_view_22 : decode cL_view 22 = .ok (.i2l, 1) := by decide +kernel
theorem dL_view_23 : decode cL_view 23 = .ok (.ladd, 1) := by decide +kernel
theorem dL_view_24 : decode cL_view 24 = .ok (.lstore_n 1, 1) := by decide +kernel
theorem dL_view_25 : decode cL_view 25 = .ok (.iinc 3 1, 3) := by decide +kernel
theorem dL_view_28 : decode cL_view 28 = .ok (.goto (-22), 3) := by decide +kernel
theorem dL_view_31 : decode cL_view 31 = .ok (.iconst 0, 1) := by decide +kernel
theorem dL_view_32 : decode cL_view 32 = .ok (.istore_n 3, 1) := by decide +kernel
theorem dL_view_33 : decode cL_view 33 = .ok (.iload_n 3, 1) := by decide +kernel
theorem dL_view_34 : decode cL_view 34 = .ok (.aload_n 0, 1) := by decide +kernel
theorem dL_view_35 : decode cL_view 35 = .ok (.iconst 1, 1) := by decide +kernel
theorem dL_view_36 : decode cL_view 36 = .ok (.invokevirtual 13, 3) := by decide +kernel
theorem dL_view_39 : decode cL_view 39 = .ok (.if_icmp .ge 90, 3) := by decide +kernel
theorem dL_view_42 : decode cL_view 42 = .ok (.iconst 0, 1) := by decide +kernel
theorem dL_view_43 : decode cL_view 43 = .ok (.istore 4, 2) := by decide +kernel
theorem dL_view_45 : decode cL_view 45 = .ok (.iload 4, 2) := by decide +kernel
theorem dL_view_47 : decode cL_view 47 = .ok (.bipush 8, 2) := by decide +kernel
theorem dL_view_49 : decode cL_view 49 = .ok (.if_icmp .ge 24, 3) := by decide +kernel
theorem dL_view_52 : decode cL_view 52 = .ok (.ldc2_w 11, 3) := by decide +kernel
theorem dL_view_55 : decode cL_view 55 = .ok (.lload_n 1, 1) := by decide +kernel
theorem dL_view_56 : decode cL_view 56 = .ok (.lmul, 1) := by decide +kernel
theorem dL_view_57 : decode cL_view 57 = .ok (.aload_n 0, 1) := by decide +kernel
theorem dL_view_58 : decode cL_view 58 = .ok (.iload_n 3, 1) := by decide +kernel
theorem dL_view_59 : decode cL_view 59 = .ok (.iload 4, 2) := by decide +kernel
theorem dL_view_61 : decode cL_view 61 = .ok (.invokevirtual 19, 3) := by decide +kernel
theorem dL_view_64 : decode cL_view 64 = .ok (.i2l, 1) := by decide +kernel
theorem dL_view_65 : decode cL_view 65 = .ok (.ladd, 1) := by decide +kernel
theorem dL_view_66 : decode cL_view 66 = .ok (.lstore_n 1, 1) := by decide +kernel
theorem dL_view_67 : decode cL_view 67 = .ok (.iinc 4 1, 3) := by decide +kernel
theorem dL_view_70 : decode cL_view 70 = .ok (.goto (-25), 3) := by decide +kernel
theorem dL_view_73 : decode cL_view 73 = .ok (.iconst 0, 1) := by decide +kernel
theorem dL_view_74 : decode cL_view 74 = .ok (.istore 4, 2) := by decide +kernel
theorem dL_view_76 : decode cL_view 76 = .ok (.iload 4, 2) := by decide +kernel
theorem dL_view_78 : decode cL_view 78 = .ok (.aload_n 0, 1) := by decide +kernel
theorem dL_view_79 : decode cL_view 79 = .ok (.iload_n 3, 1) := by decide +kernel
theorem dL_view_80 : decode cL_view 80 = .ok (.iconst 1, 1) := by decide +kernel
theorem dL_view_81 : decode cL_view 81 = .ok (.invokevirtual 19, 3) := by decide +kernel
theorem dL_view_84 : decode cL_view 84 = .ok (.if_icmp .ge 24, 3) := by decide +kernel
theorem dL_view_87 : decode cL_view 87 = .ok (.ldc2_w 11, 3) := by decide +kernel
theorem dL_view_90 : decode cL_view 90 = .ok (.lload_n 1, 1) := by decide +kernel
theorem dL_view_91 : decode cL_view 91 = .ok (.lmul, 1) := by decide +kernel
theorem dL_view_92 : decode cL_view 92 = .ok (.aload_n 0, 1) := by decide +kernel
theorem dL_view_93 : decode cL_view 93 = .ok (.iload_n 3, 1) := by decide +kernel
theorem dL_view_94 : decode cL_view 94 = .ok (.iload 4, 2) := by decide +kernel
theorem dL_view_96 : decode cL_view 96 = .ok (.invokevirtual 23, 3) := by decide +kernel
theorem dL_view_99 : decode cL_view 99 = .ok (.i2l, 1) := by decide +kernel
theorem dL_view_100 : decode cL_view 100 = .ok (.ladd, 1) := by decide +kernel
theorem dL_view_101 : decode cL_view 101 = .ok (.lstore_n 1, 1) := by decide +kernel
theorem dL_view_102 : decode cL_view 102 = .ok (.iinc 4 1, 3) := by decide +kernel
theorem dL_view_105 : decode cL_view 105 = .ok (.goto (-29), 3) := by decide +kernel
theorem dL_view_108 : decode cL_view 108 = .ok (.ldc2_w 11, 3) := by decide +kernel
theorem dL_view_111 : decode cL_view 111 = .ok (.lload_n 1, 1) := by decide +kernel
theorem dL_view_112 : decode cL_view 112 = .ok (.lmul, 1) := by decide +kernel
theorem dL_view_113 : decode cL_view 113 = .ok (.aload_n 0, 1) := by decide +kernel
theorem dL_view_114 : decode cL_view 114 = .ok (.iload_n 3, 1) := by decide +kernel
theorem dL_view_115 : decode cL_view 115 = .ok (.bipush 60, 2) := by decide +kernel
theorem dL_view_117 : decode cL_view 117 = .ok (.invokevirtual 26, 3) := by decide +kernel
theorem dL_view_120 : decode cL_view 120 = .ok (.i2l, 1) := by decide +kernel
theorem dL_view_121 : decode cL_view 121 = .ok (.ladd, 1) := by decide +kernel
theorem dL_view_122 : decode cL_view 122 = .ok (.lstore_n 1, 1) := by decide +kernel
theorem dL_view_123 : decode cL_view 123 = .ok (.iinc 3 1, 3) := by decide +kernel
theorem dL_view_126 : decode cL_view 126 = .ok (.goto (-93), 3) := by decide +kernel
theorem dL_view_129 : decode cL_view 129 = .ok (.iconst 0, 1) := by decide +kernel
theorem dL_view_130 : decode cL_view 130 = .ok (.istore_n 3, 1) := by decide +kernel
theorem dL_view_131 : decode cL_view 131 = .ok (.iload_n 3, 1) := by decide +kernel
theorem dL_view_132 : decode cL_view 132 = .ok (.aload_n 0, 1) := by decide +kernel
theorem dL_view_133 : decode cL_view 133 = .ok (.iconst 3, 1) := by decide +kernel
theorem dL_view_134 : decode cL_view 134 = .ok (.invokevirtual 13, 3) := by decide +kernel
theorem dL_view_137 : decode cL_view 137 = .ok (.if_icmp .ge 39, 3) := by decide +kernel
theorem dL_view_140 : decode cL_view 140 = .ok (.iconst 0, 1) := by decide +kernel
theorem dL_view_141 : decode cL_view 141 = .ok (.istore 4, 2) := by decide +kernel
theorem dL_view_143 : decode cL_view 143 = .ok (.iload 4, 2) := by decide +kernel
theorem dL_view_145 : decode cL_view 145 = .ok (.iconst 5, 1) := by decide +kernel
theorem dL_view_146 : decode cL_view 146 = .ok (.if_icmp .ge 24, 3) := by decide +kernel
theorem dL_view_149 : decode cL_view 149 = .ok (.ldc2_w 11, 3) := by decide +kernel
theorem dL_view_152 : decode cL_view 152 = .ok (.lload_n 1, 1) := by decide +kernel
theorem dL_view_153 : decode cL_view 153 = .ok (.lmul, 1) := by decide +kernel
theorem dL_view_154 : decode cL_view 154 = .ok (.aload_n 0, 1) := by decide +kernel
theorem dL_view_155 : decode cL_view 155 = .ok (.iload_n 3, 1) := by decide +kernel
theorem dL_view_156 : decode cL_view 156 = .ok (.iload 4, 2) := by decide +kernel
theorem dL_view_158 : decode cL_view 158 = .ok (.invokevirtual 29, 3) := by decide +kernel
theorem dL_view_161 : decode cL_view 161 = .ok (.i2l, 1) := by decide +kernel
theorem dL_view_162 : decode cL_view 162 = .ok (.ladd, 1) := by decide +kernel
theorem dL_view_163 : decode cL_view 163 = .ok (.lstore_n 1, 1) := by decide +kernel
theorem dL_view_164 : decode cL_view 164 = .ok (.iinc 4 1, 3) := by decide +kernel
theorem dL_view_167 : decode cL_view 167 = .ok (.goto (-24), 3) := by decide +kernel
theorem dL_view_170 : decode cL_view 170 = .ok (.iinc 3 1, 3) := by decide +kernel
theorem dL_view_173 : decode cL_view 173 = .ok (.goto (-42), 3) := by decide +kernel
theorem dL_view_176 : decode cL_view 176 = .ok (.iconst 0, 1) := by decide +kernel
theorem dL_view_177 : decode cL_view 177 = .ok (.istore_n 3, 1) := by decide +kernel
theorem dL_view_178 : decode cL_view 178 = .ok (.iload_n 3, 1) := by decide +kernel
theorem dL_view_179 : decode cL_view 179 = .ok (.aload_n 0, 1) := by decide +kernel
theorem dL_view_180 : decode cL_view 180 = .ok (.iconst 4, 1) := by decide +kernel
theorem dL_view_181 : decode cL_view 181 = .ok (.invokevirtual 13, 3) := by decide +kernel
theorem dL_view_184 : decode cL_view 184 = .ok (.if_icmp .ge 40, 3) := by decide +kernel
theorem dL_view_187 : decode cL_view 187 = .ok (.iconst 0, 1) := by decide +kernel
theorem dL_view_188 : decode cL_view 188 = .ok (.istore 4, 2) := by decide +kernel
theorem dL_view_190 : decode cL_view 190 = .ok (.iload 4, 2) := by decide +kernel
theorem dL_view_192 : decode cL_view 192 = .ok (.bipush 13, 2) := by decide +kernel
theorem dL_view_194 : decode cL_view 194 = .ok (.if_icmp .ge 24, 3) := by decide +kernel
theorem dL_view_197 : decode cL_view 197 = .ok (.ldc2_w 11, 3) := by decide +kernel
theorem dL_view_200 : decode cL_view 200 = .ok (.lload_n 1, 1) := by decide +kernel
theorem dL_view_201 : decode cL_view 201 = .ok (.lmul, 1) := by decide +kernel
theorem dL_view_202 : decode cL_view 202 = .ok (.aload_n 0, 1) := by decide +kernel
theorem dL_view_203 : decode cL_view 203 = .ok (.iload_n 3, 1) := by decide +kernel
theorem dL_view_204 : decode cL_view 204 = .ok (.iload 4, 2) := by decide +kernel
theorem dL_view_206 : decode cL_view 206 = .ok (.invokevirtual 32, 3) := by decide +kernel
theorem dL_view_209 : decode cL_view 209 = .ok (.i2l, 1) := by decide +kernel
theorem dL_view_210 : decode cL_view 210 = .ok (.ladd, 1) := by decide +kernel
theorem dL_view_211 : decode cL_view 211 = .ok (.lstore_n 1, 1) := by decide +kernel
theorem dL_view_212 : decode cL_view 212 = .ok (.iinc 4 1, 3) := by decide +kernel
theorem dL_view_215 : decode cL_view 215 = .ok (.goto (-25), 3) := by decide +kernel
theorem dL_view_218 : decode cL_view 218 = .ok (.iinc 3 1, 3) := by decide +kernel
theorem dL_view_221 : decode cL_view 221 = .ok (.goto (-43), 3) := by decide +kernel
theorem dL_view_224 : decode cL_view 224 = .ok (.lload_n 1, 1) := by decide +kernel
theorem dL_view_225 : decode cL_view 225 = .ok (.lreturn, 1) := by decide +kernel
theorem dL_any_0 : decode cL_any 0 = .ok (.iload_n 2, 1) := by decide +kernel
theorem dL_any_1 : decode cL_any 1 = .ok (.bipush 7, 2) := by decide +kernel
theorem dL_any_3 : decode cL_any 3 = .ok (.iand, 1) := by decide +kernel
theorem dL_any_4 : decode cL_any 4 = .ok (.tableswitch 96 0 6 #[44, 51, 62, 69, 76, 82, 90], 44) := by decide +kernel
theorem dL_any_48 : decode cL_any 48 = .ok (.aload_n 0, 1) := by decide +kernel
theorem dL_any_49 : decode cL_any 49 = .ok (.iload_n 1, 1) := by decide +kernel
theorem dL_any_50 : decode cL_any 50 = .ok (.iload_n 2, 1) := by decide +kernel
theorem dL_any_51 : decode cL_any 51 = .ok (.invokevirtual 35, 3) := by decide +kernel
theorem dL_any_54 : decode cL_any 54 = .ok (.ireturn, 1) := by decide +kernel
theorem dL_any_55 : decode cL_any 55 = .ok (.aload_n 0, 1) := by decide +kernel
theorem dL_any_56 : decode cL_any 56 = .ok (.iload_n 1, 1) := by decide +kernel
theorem dL_any_57 : decode cL_any 57 = .ok (.iload_n 2, 1) := by decide +kernel
theorem dL_any_58 : decode cL_any 58 = .ok (.iload_n 1, 1) := by decide +kernel
theorem dL_any_59 : decode cL_any 59 = .ok (.iload_n 2, 1) := by decide +kernel
theorem dL_any_60 : decode cL_any 60 = .ok (.iload_n 1, 1) := by decide +kernel
theorem dL_any_61 : decode cL_any 61 = .ok (.iload_n 2, 1) := by decide +kernel
theorem dL_any_62 : decode cL_any 62 = .ok (.invokevirtual 38, 3) := by decide +kernel
theorem dL_any_65 : decode cL_any 65 = .ok (.ireturn, 1) := by decide +kernel
theorem dL_any_66 : decode cL_any 66 = .ok (.aload_n 0, 1) := by decide +kernel
theorem dL_any_67 : decode cL_any 67 = .ok (.iload_n 1, 1) := by decide +kernel
theorem dL_any_68 : decode cL_any 68 = .ok (.iload_n 2, 1) := by decide +kernel
theorem dL_any_69 : decode cL_any 69 = .ok (.invokevirtual 42, 3) := by decide +kernel
theorem dL_any_72 : decode cL_any 72 = .ok (.ireturn, 1) := by decide +kernel
theorem dL_any_73 : decode cL_any 73 = .ok (.aload_n 0, 1) := by decide +kernel
theorem dL_any_74 : decode cL_any 74 = .ok (.iload_n 1, 1) := by decide +kernel
theorem dL_any_75 : decode cL_any 75 = .ok (.iload_n 2, 1) := by decide +kernel
theorem dL_any_76 : decode cL_any 76 = .ok (.invokevirtual 45, 3) := by decide +kernel
theorem dL_any_79 : decode cL_any 79 = .ok (.ireturn, 1) := by decide +kernel
theorem dL_any_80 : decode cL_any 80 = .ok (.aload_n 0, 1) := by decide +kernel
theorem dL_any_81 : decode cL_any 81 = .ok (.iload_n 1, 1) := by decide +kernel
theorem dL_any_82 : decode cL_any 82 = .ok (.invokevirtual 48, 3) := by decide +kernel
theorem dL_any_85 : decode cL_any 85 = .ok (.ireturn, 1) := by decide +kernel
theorem dL_any_86 : decode cL_any 86 = .ok (.aload_n 0, 1) := by decide +kernel
theorem dL_any_87 : decode cL_any 87 = .ok (.iload_n 1, 1) := by decide +kernel
theorem dL_any_88 : decode cL_any 88 = .ok (.iload_n 2, 1) := by decide +kernel
theorem dL_any_89 : decode cL_any 89 = .ok (.iconst 1, 1) := by decide +kernel
theorem dL_any_90 : decode cL_any 90 = .ok (.invokevirtual 51, 3) := by decide +kernel
theorem dL_any_93 : decode cL_any 93 = .ok (.ireturn, 1) := by decide +kernel
theorem dL_any_94 : decode cL_any 94 = .ok (.aload_n 0, 1) := by decide +kernel
theorem dL_any_95 : decode cL_any 95 = .ok (.iload_n 1, 1) := by decide +kernel
theorem dL_any_96 : decode cL_any 96 = .ok (.invokevirtual 55, 3) := by decide +kernel
theorem dL_any_99 : decode cL_any 99 = .ok (.ireturn, 1) := by decide +kernel
theorem dL_any_100 : decode cL_any 100 = .ok (.aload_n 0, 1) := by decide +kernel
theorem dL_any_101 : decode cL_any 101 = .ok (.iload_n 1, 1) := by decide +kernel
theorem dL_any_102 : decode cL_any 102 = .ok (.invokevirtual 58, 3) := by decide +kernel
theorem dL_any_105 : decode cL_any 105 = .ok (.ireturn, 1) := by decide +kernel
theorem dL_setsUp_0 : decode cL_setsUp 0 = .ok (.iload_n 1, 1) := by decide +kernel
theorem dL_setsUp_1 : decode cL_setsUp 1 = .ok (.bipush 7, 2) := by decide +kernel
theorem dL_setsUp_3 : decode cL_setsUp 3 = .ok (.iand, 1) := by decide +kernel
theorem dL_setsUp_4 : decode cL_setsUp 4 = .ok (.tableswitch 136 0 3 #[32, 57, 86, 115], 32) := by decide +kernel
theorem dL_setsUp_36 : decode cL_setsUp 36 = .ok (.aload_n 0, 1) := by decide +kernel
theorem dL_setsUp_37 : decode cL_setsUp 37 = .ok (.iconst 1, 1) := by decide +kernel
theorem dL_setsUp_38 : decode cL_setsUp 38 = .ok (.iload_n 2, 1) := by decide +kernel
theorem dL_setsUp_39 : decode cL_setsUp 39 = .ok (.bipush 100, 2) := by decide +kernel
theorem dL_setsUp_41 : decode cL_setsUp 41 = .ok (.invokestatic 61, 3) := by decide +kernel
theorem dL_setsUp_44 : decode cL_setsUp 44 = .ok (.iadd, 1) := by decide +kernel
theorem dL_setsUp_45 : decode cL_setsUp 45 = .ok (.iconst 1, 1) := by decide +kernel
theorem dL_setsUp_46 : decode cL_setsUp 46 = .ok (.iload_n 2, 1) := by decide +kernel
theorem dL_setsUp_47 : decode cL_setsUp 47 = .ok (.bipush 8, 2) := by decide +kernel
theorem dL_setsUp_49 : decode cL_setsUp 49 = .ok (.ishr, 1) := by decide +kernel
theorem dL_setsUp_50 : decode cL_setsUp 50 = .ok (.sipush 200, 3) := by decide +kernel
theorem dL_setsUp_53 : decode cL_setsUp 53 = .ok (.invokestatic 61, 3) := by decide +kernel
theorem dL_setsUp_56 : decode cL_setsUp 56 = .ok (.iadd, 1) := by decide +kernel
theorem dL_setsUp_57 : decode cL_setsUp 57 = .ok (.invokevirtual 35, 3) := by decide +kernel
theorem dL_setsUp_60 : decode cL_setsUp 60 = .ok (.ireturn, 1) := by decide +kernel
theorem dL_setsUp_61 : decode cL_setsUp 61 = .ok (.aload_n 0, 1) := by decide +kernel
theorem dL_setsUp_62 : decode cL_setsUp 62 = .ok (.iload_n 2, 1) := by decide +kernel
theorem dL_setsUp_63 : decode cL_setsUp 63 = .ok (.iconst 4, 1) := by decide +kernel
theorem dL_setsUp_64 : decode cL_setsUp 64 = .ok (.invokestatic 61, 3) := by decide +kernel
theorem dL_setsUp_67 : decode cL_setsUp 67 = .ok (.iload_n 2, 1) := by decide +kernel
theorem dL_setsUp_68 : decode cL_setsUp 68 = .ok (.iconst 3, 1) := by decide +kernel
theorem dL_setsUp_69 : decode cL_setsUp 69 = .ok (.ishr, 1) := by decide +kernel
theorem dL_setsUp_70 : decode cL_setsUp 70 = .ok (.iconst 4, 1) := by decide +kernel
theorem dL_setsUp_71 : decode cL_setsUp 71 = .ok (.invokestatic 61, 3) := by decide +kernel
theorem dL_setsUp_74 : decode cL_setsUp 74 = .ok (.iload_n 2, 1) := by decide +kernel
theorem dL_setsUp_75 : decode cL_setsUp 75 = .ok (.bipush 64, 2) := by decide +kernel
theorem dL_setsUp_77 : decode cL_setsUp 77 = .ok (.iand, 1) := by decide +kernel
theorem dL_setsUp_78 : decode cL_setsUp 78 = .ok (.ifCond .ne 7, 3) := by decide +kernel
theorem dL_setsUp_81 : decode cL_setsUp 81 = .ok (.iconst 1, 1) := by decide +kernel
theorem dL_setsUp_82 : decode cL_setsUp 82 = .ok (.goto 4, 3) := by decide +kernel
theorem dL_setsUp_85 : decode cL_setsUp 85 = .ok (.iconst 0, 1) := by decide +kernel
theorem dL_setsUp_86 : decode cL_setsUp 86 = .ok (.invokevirtual 66, 3) := by decide +kernel
theorem dL_setsUp_89 : decode cL_setsUp 89 = .ok (.ireturn, 1) := by decide +kernel
theorem dL_setsUp_90 : decode cL_setsUp 90 = .ok (.aload_n 0, 1) := by decide +kernel
theorem dL_setsUp_91 : decode cL_setsUp 91 = .ok (.iload_n 2, 1) := by decide +kernel
theorem dL_setsUp_92 : decode cL_setsUp 92 = .ok (.iconst 5, 1) := by decide +kernel
theorem dL_setsUp_93 : decode cL_setsUp 93 = .ok (.invokestatic 61, 3) := by decide +kernel
theorem dL_setsUp_96 : decode cL_setsUp 96 = .ok (.iload_n 2, 1) := by decide +kernel
theorem dL_setsUp_97 : decode cL_setsUp 97 = .ok (.iconst 3, 1) := by decide +kernel
theorem dL_setsUp_98 : decode cL_setsUp 98 = .ok (.ishr, 1) := by decide +kernel
theorem dL_setsUp_99 : decode cL_setsUp 99 = .ok (.iconst 5, 1) := by decide +kernel
theorem dL_setsUp_100 : decode cL_setsUp 100 = .ok (.invokestatic 61, 3) := by decide +kernel
theorem dL_setsUp_103 : decode cL_setsUp 103 = .ok (.iload_n 2, 1) := by decide +kernel
theorem dL_setsUp_104 : decode cL_setsUp 104 = .ok (.bipush 64, 2) := by decide +kernel
theorem dL_setsUp_106 : decode cL_setsUp 106 = .ok (.iand, 1) := by decide +kernel
theorem dL_setsUp_107 : decode cL_setsUp 107 = .ok (.ifCond .ne 7, 3) := by decide +kernel
theorem dL_setsUp_110 : decode cL_setsUp 110 = .ok (.iconst 1, 1) := by decide +kernel
theorem dL_setsUp_111 : decode cL_setsUp 111 = .ok (.goto 4, 3) := by decide +kernel
theorem dL_setsUp_114 : decode cL_setsUp 114 = .ok (.iconst 0, 1) := by decide +kernel
theorem dL_setsUp_115 : decode cL_setsUp 115 = .ok (.invokevirtual 51, 3) := by decide +kernel
theorem dL_setsUp_118 : decode cL_setsUp 118 = .ok (.ireturn, 1) := by decide +kernel
theorem dL_setsUp_119 : decode cL_setsUp 119 = .ok (.aload_n 0, 1) := by decide +kernel
theorem dL_setsUp_120 : decode cL_setsUp 120 = .ok (.iconst 1, 1) := by decide +kernel
theorem dL_setsUp_121 : decode cL_setsUp 121 = .ok (.iload_n 2, 1) := by decide +kernel
theorem dL_setsUp_122 : decode cL_setsUp 122 = .ok (.bipush 6, 2) := by decide +kernel
theorem dL_setsUp_124 : decode cL_setsUp 124 = .ok (.invokestatic 61, 3) := by decide +kernel
theorem dL_setsUp_127 : decode cL_setsUp 127 = .ok (.iadd, 1) := by decide +kernel
theorem dL_setsUp_128 : decode cL_setsUp 128 = .ok (.iload_n 2, 1) := by decide +kernel
theorem dL_setsUp_129 : decode cL_setsUp 129 = .ok (.iconst 3, 1) := by decide +kernel
theorem dL_setsUp_130 : decode cL_setsUp 130 = .ok (.ishr, 1) := by decide +kernel
theorem dL_setsUp_131 : decode cL_setsUp 131 = .ok (.bipush 16, 2) := by decide +kernel
theorem dL_setsUp_133 : decode cL_setsUp 133 = .ok (.invokestatic 61, 3) := by decide +kernel
theorem dL_setsUp_136 : decode cL_setsUp 136 = .ok (.invokevirtual 69, 3) := by decide +kernel
theorem dL_setsUp_139 : decode cL_setsUp 139 = .ok (.ireturn, 1) := by decide +kernel
theorem dL_setsUp_140 : decode cL_setsUp 140 = .ok (.aload_n 0, 1) := by decide +kernel
theorem dL_setsUp_141 : decode cL_setsUp 141 = .ok (.iload_n 2, 1) := by decide +kernel
theorem dL_setsUp_142 : decode cL_setsUp 142 = .ok (.iconst 4, 1) := by decide +kernel
theorem dL_setsUp_143 : decode cL_setsUp 143 = .ok (.invokestatic 61, 3) := by decide +kernel
theorem dL_setsUp_146 : decode cL_setsUp 146 = .ok (.iload_n 2, 1) := by decide +kernel
theorem dL_setsUp_147 : decode cL_setsUp 147 = .ok (.iconst 2, 1) := by decide +kernel
theorem dL_setsUp_148 : decode cL_setsUp 148 = .ok (.ishr, 1) := by decide +kernel
theorem dL_setsUp_149 : decode cL_setsUp 149 = .ok (.iconst 4, 1) := by decide +kernel
theorem dL_setsUp_150 : decode cL_setsUp 150 = .ok (.invokestatic 61, 3) := by decide +kernel
theorem dL_setsUp_153 : decode cL_setsUp 153 = .ok (.iconst 1, 1) := by decide +kernel
theorem dL_setsUp_154 : decode cL_setsUp 154 = .ok (.iload_n 2, 1) := by decide +kernel
theorem dL_setsUp_155 : decode cL_setsUp 155 = .ok (.iconst 4, 1) := by decide +kernel
theorem dL_setsUp_156 : decode cL_setsUp 156 = .ok (.ishr, 1) := by decide +kernel
theorem dL_setsUp_157 : decode cL_setsUp 157 = .ok (.iconst 3, 1) := by decide +kernel
theorem dL_setsUp_158 : decode cL_setsUp 158 = .ok (.invokestatic 61, 3) := by decide +kernel
theorem dL_setsUp_161 : decode cL_setsUp 161 = .ok (.iadd, 1) := by decide +kernel
theorem dL_setsUp_162 : decode cL_setsUp 162 = .ok (.iload_n 2, 1) := by decide +kernel
theorem dL_setsUp_163 : decode cL_setsUp 163 = .ok (.bipush 6, 2) := by decide +kernel
theorem dL_setsUp_165 : decode cL_setsUp 165 = .ok (.ishr, 1) := by decide +kernel
theorem dL_setsUp_166 : decode cL_setsUp 166 = .ok (.iconst 5, 1) := by decide +kernel
theorem dL_setsUp_167 : decode cL_setsUp 167 = .ok (.invokestatic 61, 3) := by decide +kernel
theorem dL_setsUp_170 : decode cL_setsUp 170 = .ok (.iconst 1, 1) := by decide +kernel
theorem dL_setsUp_171 : decode cL_setsUp 171 = .ok (.iload_n 2, 1) := by decide +kernel
theorem dL_setsUp_172 : decode cL_setsUp 172 = .ok (.bipush 9, 2) := by decide +kernel
theorem dL_setsUp_174 : decode cL_setsUp 174 = .ok (.ishr, 1) := by decide +kernel
theorem dL_setsUp_175 : decode cL_setsUp 175 = .ok (.bipush 9, 2) := by decide +kernel
theorem dL_setsUp_177 : decode cL_setsUp 177 = .ok (.invokestatic 61, 3) := by decide +kernel
theorem dL_setsUp_180 : decode cL_setsUp 180 = .ok (.iadd, 1) := by decide +kernel
theorem dL_setsUp_181 : decode cL_setsUp 181 = .ok (.aload_n 0, 1) := by decide +kernel
theorem dL_setsUp_182 : decode cL_setsUp 182 = .ok (.iconst 0, 1) := by decide +kernel
theorem dL_setsUp_183 : decode cL_setsUp 183 = .ok (.invokevirtual 13, 3) := by decide +kernel
theorem dL_setsUp_186 : decode cL_setsUp 186 = .ok (.iload_n 2, 1) := by decide +kernel
theorem dL_setsUp_187 : decode cL_setsUp 187 = .ok (.bipush 13, 2) := by decide +kernel
theorem dL_setsUp_189 : decode cL_setsUp 189 = .ok (.ishr, 1) := by decide +kernel
theorem dL_setsUp_190 : decode cL_setsUp 190 = .ok (.bipush 12, 2) := by decide +kernel
theorem dL_setsUp_192 : decode cL_setsUp 192 = .ok (.invokestatic 61, 3) := by decide +kernel
theorem dL_setsUp_195 : decode cL_setsUp 195 = .ok (.iadd, 1) := by decide +kernel
theorem dL_setsUp_196 : decode cL_setsUp 196 = .ok (.invokevirtual 38, 3) := by decide +kernel
theorem dL_setsUp_199 : decode cL_setsUp 199 = .ok (.ireturn, 1) := by decide +kernel
theorem dL_turn_0 : decode cL_turn 0 = .ok (.iload_n 2, 1) := by decide +kernel
theorem dL_turn_1 : decode cL_turn 1 = .ok (.bipush 10, 2) := by decide +kernel
theorem dL_turn_3 : decode cL_turn 3 = .ok (.invokestatic 61, 3) := by decide +kernel
theorem dL_turn_6 : decode cL_turn 6 = .ok (.istore 4, 2) := by decide +kernel
theorem dL_turn_8 : decode cL_turn 8 = .ok (.iload_n 1, 1) := by decide +kernel
theorem dL_turn_9 : decode cL_turn 9 = .ok (.tableswitch 197 0 14 #[75, 75, 75, 75, 82, 92, 102, 102, 130, 130, 137, 137, 167, 174, 174], 75) := by decide +kernel
theorem dL_turn_84 : decode cL_turn 84 = .ok (.aload_n 0, 1) := by decide +kernel
theorem dL_turn_85 : decode cL_turn 85 = .ok (.iload_n 2, 1) := by decide +kernel
theorem dL_turn_86 : decode cL_turn 86 = .ok (.iload_n 3, 1) := by decide +kernel
theorem dL_turn_87 : decode cL_turn 87 = .ok (.invokestatic 72, 3) := by decide +kernel
theorem dL_turn_90 : decode cL_turn 90 = .ok (.ireturn, 1) := by decide +kernel
theorem dL_turn_91 : decode cL_turn 91 = .ok (.aload_n 0, 1) := by decide +kernel
theorem dL_turn_92 : decode cL_turn 92 = .ok (.iload_n 2, 1) := by decide +kernel
theorem dL_turn_93 : decode cL_turn 93 = .ok (.iconst 5, 1) := by decide +kernel
theorem dL_turn_94 : decode cL_turn 94 = .ok (.invokestatic 61, 3) := by decide +kernel
theorem dL_turn_97 : decode cL_turn 97 = .ok (.invokevirtual 55, 3) := by decide +kernel
theorem dL_turn_100 : decode cL_turn 100 = .ok (.ireturn, 1) := by decide +kernel
theorem dL_turn_101 : decode cL_turn 101 = .ok (.aload_n 0, 1) := by decide +kernel
theorem dL_turn_102 : decode cL_turn 102 = .ok (.iload_n 2, 1) := by decide +kernel
theorem dL_turn_103 : decode cL_turn 103 = .ok (.iconst 5, 1) := by decide +kernel
theorem dL_turn_104 : decode cL_turn 104 = .ok (.invokestatic 61, 3) := by decide +kernel
theorem dL_turn_107 : decode cL_turn 107 = .ok (.invokevirtual 76, 3) := by decide +kernel
theorem dL_turn_110 : decode cL_turn 110 = .ok (.ireturn, 1) := by decide +kernel
theorem dL_turn_111 : decode cL_turn 111 = .ok (.aload_n 0, 1) := by decide +kernel
theorem dL_turn_112 : decode cL_turn 112 = .ok (.iload 4, 2) := by decide +kernel
theorem dL_turn_114 : decode cL_turn 114 = .ok (.iload_n 2, 1) := by decide +kernel
theorem dL_turn_115 : decode cL_turn 115 = .ok (.bipush 64, 2) := by decide +kernel
theorem dL_turn_117 : decode cL_turn 117 = .ok (.iand, 1) := by decide +kernel
theorem dL_turn_118 : decode cL_turn 118 = .ok (.ifCond .ne 11, 3) := by decide +kernel
theorem dL_turn_121 : decode cL_turn 121 = .ok (.iload_n 3, 1) := by decide +kernel
theorem dL_turn_122 : decode cL_turn 122 = .ok (.iconst 4, 1) := by decide +kernel
theorem dL_turn_123 : decode cL_turn 123 = .ok (.invokestatic 61, 3) := by decide +kernel
theorem dL_turn_126 : decode cL_turn 126 = .ok (.goto 9, 3) := by decide +kernel
theorem dL_turn_129 : decode cL_turn 129 = .ok (.aload_n 0, 1) := by decide +kernel
theorem dL_turn_130 : decode cL_turn 130 = .ok (.iload 4, 2) := by decide +kernel
theorem dL_turn_132 : decode cL_turn 132 = .ok (.invokevirtual 79, 3) := by decide +kernel
theorem dL_turn_135 : decode cL_turn 135 = .ok (.invokevirtual 42, 3) := by decide +kernel
theorem dL_turn_138 : decode cL_turn 138 = .ok (.ireturn, 1) := by decide +kernel
theorem dL_turn_139 : decode cL_turn 139 = .ok (.aload_n 0, 1) := by decide +kernel
theorem dL_turn_140 : decode cL_turn 140 = .ok (.iload 4, 2) := by decide +kernel
theorem dL_turn_142 : decode cL_turn 142 = .ok (.invokevirtual 82, 3) := by decide +kernel
theorem dL_turn_145 : decode cL_turn 145 = .ok (.ireturn, 1) := by decide +kernel
theorem dL_turn_146 : decode cL_turn 146 = .ok (.aload_n 0, 1) := by decide +kernel
theorem dL_turn_147 : decode cL_turn 147 = .ok (.iload 4, 2) := by decide +kernel
theorem dL_turn_149 : decode cL_turn 149 = .ok (.iload_n 2, 1) := by decide +kernel
theorem dL_turn_150 : decode cL_turn 150 = .ok (.bipush 64, 2) := by decide +kernel
theorem dL_turn_152 : decode cL_turn 152 = .ok (.iand, 1) := by decide +kernel
theorem dL_turn_153 : decode cL_turn 153 = .ok (.ifCond .ne 11, 3) := by decide +kernel
theorem dL_turn_156 : decode cL_turn 156 = .ok (.iload_n 3, 1) := by decide +kernel
theorem dL_turn_157 : decode cL_turn 157 = .ok (.iconst 4, 1) := by decide +kernel
theorem dL_turn_158 : decode cL_turn 158 = .ok (.invokestatic 61, 3) := by decide +kernel
theorem dL_turn_161 : decode cL_turn 161 = .ok (.goto 11, 3) := by decide +kernel
theorem dL_turn_164 : decode cL_turn 164 = .ok (.aload_n 0, 1) := by decide +kernel
theorem dL_turn_165 : decode cL_turn 165 = .ok (.iload 4, 2) := by decide +kernel
theorem dL_turn_167 : decode cL_turn 167 = .ok (.bipush 8, 2) := by decide +kernel
theorem dL_turn_169 : decode cL_turn 169 = .ok (.invokevirtual 32, 3) := by decide +kernel
theorem dL_turn_172 : decode cL_turn 172 = .ok (.invokevirtual 45, 3) := by decide +kernel
theorem dL_turn_175 : decode cL_turn 175 = .ok (.ireturn, 1) := by decide +kernel
theorem dL_turn_176 : decode cL_turn 176 = .ok (.aload_n 0, 1) := by decide +kernel
theorem dL_turn_177 : decode cL_turn 177 = .ok (.iload 4, 2) := by decide +kernel
theorem dL_turn_179 : decode cL_turn 179 = .ok (.invokevirtual 58, 3) := by decide +kernel
theorem dL_turn_182 : decode cL_turn 182 = .ok (.ireturn, 1) := by decide +kernel
theorem dL_turn_183 : decode cL_turn 183 = .ok (.aload_n 0, 1) := by decide +kernel
theorem dL_turn_184 : decode cL_turn 184 = .ok (.iconst 1, 1) := by decide +kernel
theorem dL_turn_185 : decode cL_turn 185 = .ok (.iload_n 3, 1) := by decide +kernel
theorem dL_turn_186 : decode cL_turn 186 = .ok (.iload_n 2, 1) := by decide +kernel
theorem dL_turn_187 : decode cL_turn 187 = .ok (.iconst 3, 1) := by decide +kernel
theorem dL_turn_188 : decode cL_turn 188 = .ok (.iand, 1) := by decide +kernel
theorem dL_turn_189 : decode cL_turn 189 = .ok (.ifCond .ne 8, 3) := by decide +kernel
theorem dL_turn_192 : decode cL_turn 192 = .ok (.bipush 40, 2) := by decide +kernel
theorem dL_turn_194 : decode cL_turn 194 = .ok (.goto 4, 3) := by decide +kernel
theorem dL_turn_197 : decode cL_turn 197 = .ok (.iconst 5, 1) := by decide +kernel
theorem dL_turn_198 : decode cL_turn 198 = .ok (.invokestatic 61, 3) := by decide +kernel
theorem dL_turn_201 : decode cL_turn 201 = .ok (.iadd, 1) := by decide +kernel
theorem dL_turn_202 : decode cL_turn 202 = .ok (.invokevirtual 48, 3) := by decide +kernel
theorem dL_turn_205 : decode cL_turn 205 = .ok (.ireturn, 1) := by decide +kernel
theorem dL_turn_206 : decode cL_turn 206 = .ok (.aload_n 0, 1) := by decide +kernel
theorem dL_turn_207 : decode cL_turn 207 = .ok (.iload_n 2, 1) := by decide +kernel
theorem dL_turn_208 : decode cL_turn 208 = .ok (.iload_n 3, 1) := by decide +kernel
theorem dL_turn_209 : decode cL_turn 209 = .ok (.invokestatic 85, 3) := by decide +kernel
theorem dL_turn_212 : decode cL_turn 212 = .ok (.ireturn, 1) := by decide +kernel
theorem dL_isTask_0 : decode cL_isTask 0 = .ok (.aload_n 0, 1) := by decide +kernel
theorem dL_isTask_1 : decode cL_isTask 1 = .ok (.iload_n 1, 1) := by decide +kernel
theorem dL_isTask_2 : decode cL_isTask 2 = .ok (.iconst 1, 1) := by decide +kernel
theorem dL_isTask_3 : decode cL_isTask 3 = .ok (.invokevirtual 32, 3) := by decide +kernel
theorem dL_isTask_6 : decode cL_isTask 6 = .ok (.istore_n 2, 1) := by decide +kernel
theorem dL_isTask_7 : decode cL_isTask 7 = .ok (.aload_n 0, 1) := by decide +kernel
theorem dL_isTask_8 : decode cL_isTask 8 = .ok (.iload_n 1, 1) := by decide +kernel
theorem dL_isTask_9 : decode cL_isTask 9 = .ok (.bipush 8, 2) := by decide +kernel
theorem dL_isTask_11 : decode cL_isTask 11 = .ok (.invokevirtual 32, 3) := by decide +kernel
theorem dL_isTask_14 : decode cL_isTask 14 = .ok (.istore_n 3, 1) := by decide +kernel
theorem dL_isTask_15 : decode cL_isTask 15 = .ok (.aload_n 0, 1) := by decide +kernel
theorem dL_isTask_16 : decode cL_isTask 16 = .ok (.iload_n 1, 1) := by decide +kernel
theorem dL_isTask_17 : decode cL_isTask 17 = .ok (.bipush 6, 2) := by decide +kernel
theorem dL_isTask_19 : decode cL_isTask 19 = .ok (.invokevirtual 32, 3) := by decide +kernel
theorem dL_isTask_22 : decode cL_isTask 22 = .ok (.iconst 2, 1) := by decide +kernel
theorem dL_isTask_23 : decode cL_isTask 23 = .ok (.aload_n 0, 1) := by decide +kernel
theorem dL_isTask_24 : decode cL_isTask 24 = .ok (.iload_n 1, 1) := by decide +kernel
theorem dL_isTask_25 : decode cL_isTask 25 = .ok (.iconst 5, 1) := by decide +kernel
theorem dL_isTask_26 : decode cL_isTask 26 = .ok (.invokevirtual 32, 3) := by decide +kernel
theorem dL_isTask_29 : decode cL_isTask 29 = .ok (.imul, 1) := by decide +kernel
theorem dL_isTask_30 : decode cL_isTask 30 = .ok (.iadd, 1) := by decide +kernel
theorem dL_isTask_31 : decode cL_isTask 31 = .ok (.bipush 6, 2) := by decide +kernel
theorem dL_isTask_33 : decode cL_isTask 33 = .ok (.iadd, 1) := by decide +kernel
theorem dL_isTask_34 : decode cL_isTask 34 = .ok (.istore 4, 2) := by decide +kernel
theorem dL_isTask_36 : decode cL_isTask 36 = .ok (.iload_n 2, 1) := by decide +kernel
theorem dL_isTask_37 : decode cL_isTask 37 = .ok (.ifCond .lt 54, 3) := by decide +kernel
theorem dL_isTask_40 : decode cL_isTask 40 = .ok (.iload_n 2, 1) := by decide +kernel
theorem dL_isTask_41 : decode cL_isTask 41 = .ok (.bipush 7, 2) := by decide +kernel
theorem dL_isTask_43 : decode cL_isTask 43 = .ok (.if_icmp .ge 48, 3) := by decide +kernel
theorem dL_isTask_46 : decode cL_isTask 46 = .ok (.aload_n 0, 1) := by decide +kernel
theorem dL_isTask_47 : decode cL_isTask 47 = .ok (.iload_n 1, 1) := by decide +kernel
theorem dL_isTask_48 : decode cL_isTask 48 = .ok (.bipush 7, 2) := by decide +kernel
theorem dL_isTask_50 : decode cL_isTask 50 = .ok (.invokevirtual 32, 3) := by decide +kernel
theorem dL_isTask_53 : decode cL_isTask 53 = .ok (.iload 4, 2) := by decide +kernel
theorem dL_isTask_55 : decode cL_isTask 55 = .ok (.if_icmp .ne 36, 3) := by decide +kernel
theorem dL_isTask_58 : decode cL_isTask 58 = .ok (.aload_n 0, 1) := by decide +kernel
theorem dL_isTask_59 : decode cL_isTask 59 = .ok (.iload_n 1, 1) := by decide +kernel
theorem dL_isTask_60 : decode cL_isTask 60 = .ok (.bipush 9, 2) := by decide +kernel
theorem dL_isTask_62 : decode cL_isTask 62 = .ok (.invokevirtual 32, 3) := by decide +kernel
theorem dL_isTask_65 : decode cL_isTask 65 = .ok (.iconst 1, 1) := by decide +kernel
theorem dL_isTask_66 : decode cL_isTask 66 = .ok (.if_icmp .lt 7, 3) := by decide +kernel
theorem dL_isTask_69 : decode cL_isTask 69 = .ok (.iconst 1, 1) := by decide +kernel
theorem dL_isTask_70 : decode cL_isTask 70 = .ok (.goto 4, 3) := by decide +kernel
theorem dL_isTask_73 : decode cL_isTask 73 = .ok (.iconst 0, 1) := by decide +kernel
theorem dL_isTask_74 : decode cL_isTask 74 = .ok (.iload_n 2, 1) := by decide +kernel
theorem dL_isTask_75 : decode cL_isTask 75 = .ok (.iconst 2, 1) := by decide +kernel
theorem dL_isTask_76 : decode cL_isTask 76 = .ok (.if_icmp .ne 7, 3) := by decide +kernel
theorem dL_isTask_79 : decode cL_isTask 79 = .ok (.iconst 1, 1) := by decide +kernel
theorem dL_isTask_80 : decode cL_isTask 80 = .ok (.goto 4, 3) := by decide +kernel
theorem dL_isTask_83 : decode cL_isTask 83 = .ok (.iconst 0, 1) := by decide +kernel
theorem dL_isTask_84 : decode cL_isTask 84 = .ok (.if_icmp .ne 7, 3) := by decide +kernel
theorem dL_isTask_87 : decode cL_isTask 87 = .ok (.iconst 1, 1) := by decide +kernel
theorem dL_isTask_88 : decode cL_isTask 88 = .ok (.goto 4, 3) := by decide +kernel
theorem dL_isTask_91 : decode cL_isTask 91 = .ok (.iconst 0, 1) := by decide +kernel
theorem dL_isTask_92 : decode cL_isTask 92 = .ok (.istore 5, 2) := by decide +kernel
theorem dL_isTask_94 : decode cL_isTask 94 = .ok (.iload 5, 2) := by decide +kernel
theorem dL_isTask_96 : decode cL_isTask 96 = .ok (.ifCond .eq 49, 3) := by decide +kernel
theorem dL_isTask_99 : decode cL_isTask 99 = .ok (.iload_n 3, 1) := by decide +kernel
theorem dL_isTask_100 : decode cL_isTask 100 = .ok (.ifCond .lt 7, 3) := by decide +kernel
theorem dL_isTask_103 : decode cL_isTask 103 = .ok (.iconst 1, 1) := by decide +kernel
theorem dL_isTask_104 : decode cL_isTask 104 = .ok (.goto 4, 3) := by decide +kernel
theorem dL_isTask_107 : decode cL_isTask 107 = .ok (.iconst 0, 1) := by decide +kernel
theorem dL_isTask_108 : decode cL_isTask 108 = .ok (.iload_n 2, 1) := by decide +kernel
theorem dL_isTask_109 : decode cL_isTask 109 = .ok (.ifCond .le 12, 3) := by decide +kernel
theorem dL_isTask_112 : decode cL_isTask 112 = .ok (.iload_n 2, 1) := by decide +kernel
theorem dL_isTask_113 : decode cL_isTask 113 = .ok (.iconst 5, 1) := by decide +kernel
theorem dL_isTask_114 : decode cL_isTask 114 = .ok (.if_icmp .ge 7, 3) := by decide +kernel
theorem dL_isTask_117 : decode cL_isTask 117 = .ok (.iconst 1, 1) := by decide +kernel
theorem dL_isTask_118 : decode cL_isTask 118 = .ok (.goto 4, 3) := by decide +kernel
theorem dL_isTask_121 : decode cL_isTask 121 = .ok (.iconst 0, 1) := by decide +kernel
theorem dL_isTask_122 : decode cL_isTask 122 = .ok (.if_icmp .ne 23, 3) := by decide +kernel
theorem dL_isTask_125 : decode cL_isTask 125 = .ok (.iload_n 2, 1) := by decide +kernel
theorem dL_isTask_126 : decode cL_isTask 126 = .ok (.iconst 5, 1) := by decide +kernel
theorem dL_isTask_127 : decode cL_isTask 127 = .ok (.if_icmp .ne 14, 3) := by decide +kernel
theorem dL_isTask_130 : decode cL_isTask 130 = .ok (.aload_n 0, 1) := by decide +kernel
theorem dL_isTask_131 : decode cL_isTask 131 = .ok (.iload_n 1, 1) := by decide +kernel
theorem dL_isTask_132 : decode cL_isTask 132 = .ok (.bipush 10, 2) := by decide +kernel
theorem dL_isTask_134 : decode cL_isTask 134 = .ok (.invokevirtual 32, 3) := by decide +kernel
theorem dL_isTask_137 : decode cL_isTask 137 = .ok (.iconst 3, 1) := by decide +kernel
theorem dL_isTask_138 : decode cL_isTask 138 = .ok (.if_icmp .lt 7, 3) := by decide +kernel
theorem dL_isTask_141 : decode cL_isTask 141 = .ok (.iconst 1, 1) := by decide +kernel
theorem dL_isTask_142 : decode cL_isTask 142 = .ok (.goto 4, 3) := by decide +kernel
theorem dL_isTask_145 : decode cL_isTask 145 = .ok (.iconst 0, 1) := by decide +kernel
theorem dL_isTask_146 : decode cL_isTask 146 = .ok (.istore 5, 2) := by decide +kernel
theorem dL_isTask_148 : decode cL_isTask 148 = .ok (.iload 5, 2) := by decide +kernel
theorem dL_isTask_150 : decode cL_isTask 150 = .ok (.ifCond .eq 30, 3) := by decide +kernel
theorem dL_isTask_153 : decode cL_isTask 153 = .ok (.iload_n 3, 1) := by decide +kernel
theorem dL_isTask_154 : decode cL_isTask 154 = .ok (.ifCond .lt 22, 3) := by decide +kernel
theorem dL_isTask_157 : decode cL_isTask 157 = .ok (.aload_n 0, 1) := by decide +kernel
theorem dL_isTask_158 : decode cL_isTask 158 = .ok (.iload_n 3, 1) := by decide +kernel
theorem dL_isTask_159 : decode cL_isTask 159 = .ok (.iconst 1, 1) := by decide +kernel
theorem dL_isTask_160 : decode cL_isTask 160 = .ok (.invokevirtual 29, 3) := by decide +kernel
theorem dL_isTask_163 : decode cL_isTask 163 = .ok (.aload_n 0, 1) := by decide +kernel
theorem dL_isTask_164 : decode cL_isTask 164 = .ok (.iload_n 1, 1) := by decide +kernel
theorem dL_isTask_165 : decode cL_isTask 165 = .ok (.iconst 2, 1) := by decide +kernel
theorem dL_isTask_166 : decode cL_isTask 166 = .ok (.invokevirtual 32, 3) := by decide +kernel
theorem dL_isTask_169 : decode cL_isTask 169 = .ok (.ishr, 1) := by decide +kernel
theorem dL_isTask_170 : decode cL_isTask 170 = .ok (.iconst 1, 1) := by decide +kernel
theorem dL_isTask_171 : decode cL_isTask 171 = .ok (.iand, 1) := by decide +kernel
theorem dL_isTask_172 : decode cL_isTask 172 = .ok (.iconst 1, 1) := by decide +kernel
theorem dL_isTask_173 : decode cL_isTask 173 = .ok (.if_icmp .ne 7, 3) := by decide +kernel
theorem dL_isTask_176 : decode cL_isTask 176 = .ok (.iconst 1, 1) := by decide +kernel
theorem dL_isTask_177 : decode cL_isTask 177 = .ok (.goto 4, 3) := by decide +kernel
theorem dL_isTask_180 : decode cL_isTask 180 = .ok (.iconst 0, 1) := by decide +kernel
theorem dL_isTask_181 : decode cL_isTask 181 = .ok (.istore 5, 2) := by decide +kernel
theorem dL_isTask_183 : decode cL_isTask 183 = .ok (.iload 5, 2) := by decide +kernel
theorem dL_isTask_185 : decode cL_isTask 185 = .ok (.ifCond .eq 60, 3) := by decide +kernel
theorem dL_isTask_188 : decode cL_isTask 188 = .ok (.iload_n 2, 1) := by decide +kernel
theorem dL_isTask_189 : decode cL_isTask 189 = .ok (.iconst 2, 1) := by decide +kernel
theorem dL_isTask_190 : decode cL_isTask 190 = .ok (.if_icmp .ne 51, 3) := by decide +kernel
theorem dL_isTask_193 : decode cL_isTask 193 = .ok (.aload_n 0, 1) := by decide +kernel
theorem dL_isTask_194 : decode cL_isTask 194 = .ok (.iconst 0, 1) := by decide +kernel
theorem dL_isTask_195 : decode cL_isTask 195 = .ok (.invokevirtual 13, 3) := by decide +kernel
theorem dL_isTask_198 : decode cL_isTask 198 = .ok (.aload_n 0, 1) := by decide +kernel
theorem dL_isTask_199 : decode cL_isTask 199 = .ok (.iload_n 1, 1) := by decide +kernel
theorem dL_isTask_200 : decode cL_isTask 200 = .ok (.bipush 9, 2) := by decide +kernel
theorem dL_isTask_202 : decode cL_isTask 202 = .ok (.invokevirtual 32, 3) := by decide +kernel
theorem dL_isTask_205 : decode cL_isTask 205 = .ok (.iadd, 1) := by decide +kernel
theorem dL_isTask_206 : decode cL_isTask 206 = .ok (.iload 4, 2) := by decide +kernel
theorem dL_isTask_208 : decode cL_isTask 208 = .ok (.if_icmp .gt 37, 3) := by decide +kernel
theorem dL_isTask_211 : decode cL_isTask 211 = .ok (.aload_n 0, 1) := by decide +kernel
theorem dL_isTask_212 : decode cL_isTask 212 = .ok (.iconst 0, 1) := by decide +kernel
theorem dL_isTask_213 : decode cL_isTask 213 = .ok (.invokevirtual 13, 3) := by decide +kernel
theorem dL_isTask_216 : decode cL_isTask 216 = .ok (.aload_n 0, 1) := by decide +kernel
theorem dL_isTask_217 : decode cL_isTask 217 = .ok (.iload_n 1, 1) := by decide +kernel
theorem dL_isTask_218 : decode cL_isTask 218 = .ok (.bipush 9, 2) := by decide +kernel
theorem dL_isTask_220 : decode cL_isTask 220 = .ok (.invokevirtual 32, 3) := by decide +kernel
theorem dL_isTask_223 : decode cL_isTask 223 = .ok (.iadd, 1) := by decide +kernel
theorem dL_isTask_224 : decode cL_isTask 224 = .ok (.aload_n 0, 1) := by decide +kernel
theorem dL_isTask_225 : decode cL_isTask 225 = .ok (.iload_n 1, 1) := by decide +kernel
theorem dL_isTask_226 : decode cL_isTask 226 = .ok (.bipush 6, 2) := by decide +kernel
theorem dL_isTask_228 : decode cL_isTask 228 = .ok (.invokevirtual 32, 3) := by decide +kernel
theorem dL_isTask_231 : decode cL_isTask 231 = .ok (.aload_n 0, 1) := by decide +kernel
theorem dL_isTask_232 : decode cL_isTask 232 = .ok (.iload_n 1, 1) := by decide +kernel
theorem dL_isTask_233 : decode cL_isTask 233 = .ok (.iconst 5, 1) := by decide +kernel
theorem dL_isTask_234 : decode cL_isTask 234 = .ok (.invokevirtual 32, 3) := by decide +kernel
theorem dL_isTask_237 : decode cL_isTask 237 = .ok (.iadd, 1) := by decide +kernel
theorem dL_isTask_238 : decode cL_isTask 238 = .ok (.if_icmp .lt 7, 3) := by decide +kernel
theorem dL_isTask_241 : decode cL_isTask 241 = .ok (.iconst 1, 1) := by decide +kernel
theorem dL_isTask_242 : decode cL_isTask 242 = .ok (.goto 4, 3) := by decide +kernel
theorem dL_isTask_245 : decode cL_isTask 245 = .ok (.iconst 0, 1) := by decide +kernel
theorem dL_isTask_246 : decode cL_isTask 246 = .ok (.ireturn, 1) := by decide +kernel
theorem dL_isAsset_0 : decode cL_isAsset 0 = .ok (.iconst 0, 1) := by decide +kernel
theorem dL_isAsset_1 : decode cL_isAsset 1 = .ok (.istore_n 2, 1) := by decide +kernel
theorem dL_isAsset_2 : decode cL_isAsset 2 = .ok (.aload_n 0, 1) := by decide +kernel
theorem dL_isAsset_3 : decode cL_isAsset 3 = .ok (.iload_n 1, 1) := by decide +kernel
theorem dL_isAsset_4 : decode cL_isAsset 4 = .ok (.iconst 0, 1) := by decide +kernel
theorem dL_isAsset_5 : decode cL_isAsset 5 = .ok (.invokevirtual 19, 3) := by decide +kernel
theorem dL_isAsset_8 : decode cL_isAsset 8 = .ok (.ifCond .eq 12, 3) := by decide +kernel
theorem dL_isAsset_11 : decode cL_isAsset 11 = .ok (.aload_n 0, 1) := by decide +kernel
theorem dL_isAsset_12 : decode cL_isAsset 12 = .ok (.iload_n 1, 1) := by decide +kernel
theorem dL_isAsset_13 : decode cL_isAsset 13 = .ok (.iconst 1, 1) := by decide +kernel
theorem dL_isAsset_14 : decode cL_isAsset 14 = .ok (.invokevirtual 19, 3) := by decide +kernel
theorem dL_isAsset_17 : decode cL_isAsset 17 = .ok (.ifCond .ne 7, 3) := by decide +kernel
theorem dL_isAsset_20 : decode cL_isAsset 20 = .ok (.iconst 1, 1) := by decide +kernel
theorem dL_isAsset_21 : decode cL_isAsset 21 = .ok (.goto 4, 3) := by decide +kernel
theorem dL_isAsset_24 : decode cL_isAsset 24 = .ok (.iconst 0, 1) := by decide +kernel
theorem dL_isAsset_25 : decode cL_isAsset 25 = .ok (.istore_n 3, 1) := by decide +kernel
theorem dL_isAsset_26 : decode cL_isAsset 26 = .ok (.iconst 0, 1) := by decide +kernel
theorem dL_isAsset_27 : decode cL_isAsset 27 = .ok (.istore 4, 2) := by decide +kernel
theorem dL_isAsset_29 : decode cL_isAsset 29 = .ok (.iload 4, 2) := by decide +kernel
theorem dL_isAsset_31 : decode cL_isAsset 31 = .ok (.aload_n 0, 1) := by decide +kernel
theorem dL_isAsset_32 : decode cL_isAsset 32 = .ok (.iconst 4, 1) := by decide +kernel
theorem dL_isAsset_33 : decode cL_isAsset 33 = .ok (.invokevirtual 13, 3) := by decide +kernel
theorem dL_isAsset_36 : decode cL_isAsset 36 = .ok (.if_icmp .ge 49, 3) := by decide +kernel
theorem dL_isAsset_39 : decode cL_isAsset 39 = .ok (.iload_n 2, 1) := by decide +kernel
theorem dL_isAsset_40 : decode cL_isAsset 40 = .ok (.aload_n 0, 1) := by decide +kernel
theorem dL_isAsset_41 : decode cL_isAsset 41 = .ok (.iload 4, 2) := by decide +kernel
theorem dL_isAsset_43 : decode cL_isAsset 43 = .ok (.iconst 0, 1) := by decide +kernel
theorem dL_isAsset_44 : decode cL_isAsset 44 = .ok (.invokevirtual 32, 3) := by decide +kernel
theorem dL_isAsset_47 : decode cL_isAsset 47 = .ok (.iload_n 1, 1) := by decide +kernel
theorem dL_isAsset_48 : decode cL_isAsset 48 = .ok (.if_icmp .ne 28, 3) := by decide +kernel
theorem dL_isAsset_51 : decode cL_isAsset 51 = .ok (.aload_n 0, 1) := by decide +kernel
theorem dL_isAsset_52 : decode cL_isAsset 52 = .ok (.iload 4, 2) := by decide +kernel
theorem dL_isAsset_54 : decode cL_isAsset 54 = .ok (.iconst 1, 1) := by decide +kernel
theorem dL_isAsset_55 : decode cL_isAsset 55 = .ok (.invokevirtual 32, 3) := by decide +kernel
theorem dL_isAsset_58 : decode cL_isAsset 58 = .ok (.ifCond .le 18, 3) := by decide +kernel
theorem dL_isAsset_61 : decode cL_isAsset 61 = .ok (.aload_n 0, 1) := by decide +kernel
theorem dL_isAsset_62 : decode cL_isAsset 62 = .ok (.iload 4, 2) := by decide +kernel
theorem dL_isAsset_64 : decode cL_isAsset 64 = .ok (.iconst 1, 1) := by decide +kernel
theorem dL_isAsset_65 : decode cL_isAsset 65 = .ok (.invokevirtual 32, 3) := by decide +kernel
theorem dL_isAsset_68 : decode cL_isAsset 68 = .ok (.iconst 4, 1) := by decide +kernel
theorem dL_isAsset_69 : decode cL_isAsset 69 = .ok (.if_icmp .ge 7, 3) := by decide +kernel
theorem dL_isAsset_72 : decode cL_isAsset 72 = .ok (.iconst 1, 1) := by decide +kernel
theorem dL_isAsset_73 : decode cL_isAsset 73 = .ok (.goto 4, 3) := by decide +kernel
theorem dL_isAsset_76 : decode cL_isAsset 76 = .ok (.iconst 0, 1) := by decide +kernel
theorem dL_isAsset_77 : decode cL_isAsset 77 = .ok (.iadd, 1) := by decide +kernel
theorem dL_isAsset_78 : decode cL_isAsset 78 = .ok (.istore_n 2, 1) := by decide +kernel
theorem dL_isAsset_79 : decode cL_isAsset 79 = .ok (.iinc 4 1, 3) := by decide +kernel
theorem dL_isAsset_82 : decode cL_isAsset 82 = .ok (.goto (-53), 3) := by decide +kernel
theorem dL_isAsset_85 : decode cL_isAsset 85 = .ok (.iload_n 3, 1) := by decide +kernel
theorem dL_isAsset_86 : decode cL_isAsset 86 = .ok (.ifCond .eq 43, 3) := by decide +kernel
theorem dL_isAsset_89 : decode cL_isAsset 89 = .ok (.iload_n 2, 1) := by decide +kernel
theorem dL_isAsset_90 : decode cL_isAsset 90 = .ok (.aload_n 0, 1) := by decide +kernel
theorem dL_isAsset_91 : decode cL_isAsset 91 = .ok (.iload_n 1, 1) := by decide +kernel
theorem dL_isAsset_92 : decode cL_isAsset 92 = .ok (.iconst 1, 1) := by decide +kernel
theorem dL_isAsset_93 : decode cL_isAsset 93 = .ok (.invokevirtual 19, 3) := by decide +kernel
theorem dL_isAsset_96 : decode cL_isAsset 96 = .ok (.if_icmp .ne 33, 3) := by decide +kernel
theorem dL_isAsset_99 : decode cL_isAsset 99 = .ok (.aload_n 0, 1) := by decide +kernel
theorem dL_isAsset_100 : decode cL_isAsset 100 = .ok (.iload_n 1, 1) := by decide +kernel
theorem dL_isAsset_101 : decode cL_isAsset 101 = .ok (.iconst 2, 1) := by decide +kernel
theorem dL_isAsset_102 : decode cL_isAsset 102 = .ok (.invokevirtual 19, 3) := by decide +kernel
theorem dL_isAsset_105 : decode cL_isAsset 105 = .ok (.aload_n 0, 1) := by decide +kernel
theorem dL_isAsset_106 : decode cL_isAsset 106 = .ok (.iload_n 1, 1) := by decide +kernel
theorem dL_isAsset_107 : decode cL_isAsset 107 = .ok (.iconst 0, 1) := by decide +kernel
theorem dL_isAsset_108 : decode cL_isAsset 108 = .ok (.invokevirtual 23, 3) := by decide +kernel
theorem dL_isAsset_111 : decode cL_isAsset 111 = .ok (.if_icmp .ne 18, 3) := by decide +kernel
theorem dL_isAsset_114 : decode cL_isAsset 114 = .ok (.aload_n 0, 1) := by decide +kernel
theorem dL_isAsset_115 : decode cL_isAsset 115 = .ok (.iload_n 1, 1) := by decide +kernel
theorem dL_isAsset_116 : decode cL_isAsset 116 = .ok (.iload_n 2, 1) := by decide +kernel
theorem dL_isAsset_117 : decode cL_isAsset 117 = .ok (.invokevirtual 23, 3) := by decide +kernel
theorem dL_isAsset_120 : decode cL_isAsset 120 = .ok (.bipush (-5), 2) := by decide +kernel
theorem dL_isAsset_122 : decode cL_isAsset 122 = .ok (.if_icmp .ne 7, 3) := by decide +kernel
theorem dL_isAsset_125 : decode cL_isAsset 125 = .ok (.iconst 1, 1) := by decide +kernel
theorem dL_isAsset_126 : decode cL_isAsset 126 = .ok (.goto 4, 3) := by decide +kernel
theorem dL_isAsset_129 : decode cL_isAsset 129 = .ok (.iconst 0, 1) := by decide +kernel
theorem dL_isAsset_130 : decode cL_isAsset 130 = .ok (.istore_n 3, 1) := by decide +kernel
theorem dL_isAsset_131 : decode cL_isAsset 131 = .ok (.iconst 0, 1) := by decide +kernel
theorem dL_isAsset_132 : decode cL_isAsset 132 = .ok (.istore 4, 2) := by decide +kernel
theorem dL_isAsset_134 : decode cL_isAsset 134 = .ok (.iload 4, 2) := by decide +kernel
theorem dL_isAsset_136 : decode cL_isAsset 136 = .ok (.iload_n 2, 1) := by decide +kernel
theorem dL_isAsset_137 : decode cL_isAsset 137 = .ok (.if_icmp .ge 98, 3) := by decide +kernel
theorem dL_isAsset_140 : decode cL_isAsset 140 = .ok (.iload_n 3, 1) := by decide +kernel
theorem dL_isAsset_141 : decode cL_isAsset 141 = .ok (.ifCond .eq 94, 3) := by decide +kernel
theorem dL_isAsset_144 : decode cL_isAsset 144 = .ok (.aload_n 0, 1) := by decide +kernel
theorem dL_isAsset_145 : decode cL_isAsset 145 = .ok (.iload_n 1, 1) := by decide +kernel
theorem dL_isAsset_146 : decode cL_isAsset 146 = .ok (.iload 4, 2) := by decide +kernel
theorem dL_isAsset_148 : decode cL_isAsset 148 = .ok (.invokevirtual 23, 3) := by decide +kernel
theorem dL_isAsset_151 : decode cL_isAsset 151 = .ok (.istore 5, 2) := by decide +kernel
theorem dL_isAsset_153 : decode cL_isAsset 153 = .ok (.aload_n 0, 1) := by decide +kernel
theorem dL_isAsset_154 : decode cL_isAsset 154 = .ok (.iload 5, 2) := by decide +kernel
theorem dL_isAsset_156 : decode cL_isAsset 156 = .ok (.iconst 0, 1) := by decide +kernel
theorem dL_isAsset_157 : decode cL_isAsset 157 = .ok (.invokevirtual 32, 3) := by decide +kernel
theorem dL_isAsset_160 : decode cL_isAsset 160 = .ok (.iload_n 1, 1) := by decide +kernel
theorem dL_isAsset_161 : decode cL_isAsset 161 = .ok (.if_icmp .ne 28, 3) := by decide +kernel
theorem dL_isAsset_164 : decode cL_isAsset 164 = .ok (.aload_n 0, 1) := by decide +kernel
theorem dL_isAsset_165 : decode cL_isAsset 165 = .ok (.iload 5, 2) := by decide +kernel
theorem dL_isAsset_167 : decode cL_isAsset 167 = .ok (.iconst 1, 1) := by decide +kernel
theorem dL_isAsset_168 : decode cL_isAsset 168 = .ok (.invokevirtual 32, 3) := by decide +kernel
theorem dL_isAsset_171 : decode cL_isAsset 171 = .ok (.ifCond .le 18, 3) := by decide +kernel
theorem dL_isAsset_174 : decode cL_isAsset 174 = .ok (.aload_n 0, 1) := by decide +kernel
theorem dL_isAsset_175 : decode cL_isAsset 175 = .ok (.iload 5, 2) := by decide +kernel
theorem dL_isAsset_177 : decode cL_isAsset 177 = .ok (.iconst 1, 1) := by decide +kernel
theorem dL_isAsset_178 : decode cL_isAsset 178 = .ok (.invokevirtual 32, 3) := by decide +kernel
theorem dL_isAsset_181 : decode cL_isAsset 181 = .ok (.iconst 4, 1) := by decide +kernel
theorem dL_isAsset_182 : decode cL_isAsset 182 = .ok (.if_icmp .ge 7, 3) := by decide +kernel
theorem dL_isAsset_185 : decode cL_isAsset 185 = .ok (.iconst 1, 1) := by decide +kernel
theorem dL_isAsset_186 : decode cL_isAsset 186 = .ok (.goto 4, 3) := by decide +kernel
theorem dL_isAsset_189 : decode cL_isAsset 189 = .ok (.iconst 0, 1) := by decide +kernel
theorem dL_isAsset_190 : decode cL_isAsset 190 = .ok (.istore_n 3, 1) := by decide +kernel
theorem dL_isAsset_191 : decode cL_isAsset 191 = .ok (.iconst 0, 1) := by decide +kernel
theorem dL_isAsset_192 : decode cL_isAsset 192 = .ok (.istore 6, 2) := by decide +kernel
theorem dL_isAsset_194 : decode cL_isAsset 194 = .ok (.iload 6, 2) := by decide +kernel
theorem dL_isAsset_196 : decode cL_isAsset 196 = .ok (.iload 4, 2) := by decide +kernel
theorem dL_isAsset_198 : decode cL_isAsset 198 = .ok (.if_icmp .ge 31, 3) := by decide +kernel
theorem dL_isAsset_201 : decode cL_isAsset 201 = .ok (.iload_n 3, 1) := by decide +kernel
theorem dL_isAsset_202 : decode cL_isAsset 202 = .ok (.ifCond .eq 19, 3) := by decide +kernel
theorem dL_isAsset_205 : decode cL_isAsset 205 = .ok (.aload_n 0, 1) := by decide +kernel
theorem dL_isAsset_206 : decode cL_isAsset 206 = .ok (.iload_n 1, 1) := by decide +kernel
theorem dL_isAsset_207 : decode cL_isAsset 207 = .ok (.iload 6, 2) := by decide +kernel
theorem dL_isAsset_209 : decode cL_isAsset 209 = .ok (.invokevirtual 23, 3) := by decide +kernel
theorem dL_isAsset_212 : decode cL_isAsset 212 = .ok (.iload 5, 2) := by decide +kernel
theorem dL_isAsset_214 : decode cL_isAsset 214 = .ok (.if_icmp .eq 7, 3) := by decide +kernel
theorem dL_isAsset_217 : decode cL_isAsset 217 = .ok (.iconst 1, 1) := by decide +kernel
theorem dL_isAsset_218 : decode cL_isAsset 218 = .ok (.goto 4, 3) := by decide +kernel
theorem dL_isAsset_221 : decode cL_isAsset 221 = .ok (.iconst 0, 1) := by decide +kernel
theorem dL_isAsset_222 : decode cL_isAsset 222 = .ok (.istore_n 3, 1) := by decide +kernel
theorem dL_isAsset_223 : decode cL_isAsset 223 = .ok (.iinc 6 1, 3) := by decide +kernel
theorem dL_isAsset_226 : decode cL_isAsset 226 = .ok (.goto (-32), 3) := by decide +kernel
theorem dL_isAsset_229 : decode cL_isAsset 229 = .ok (.iinc 4 1, 3) := by decide +kernel
theorem dL_isAsset_232 : decode cL_isAsset 232 = .ok (.goto (-98), 3) := by decide +kernel
theorem dL_isAsset_235 : decode cL_isAsset 235 = .ok (.iload_n 3, 1) := by decide +kernel
theorem dL_isAsset_236 : decode cL_isAsset 236 = .ok (.ifCond .eq 41, 3) := by decide +kernel
theorem dL_isAsset_239 : decode cL_isAsset 239 = .ok (.aload_n 0, 1) := by decide +kernel
theorem dL_isAsset_240 : decode cL_isAsset 240 = .ok (.iload_n 1, 1) := by decide +kernel
theorem dL_isAsset_241 : decode cL_isAsset 241 = .ok (.iconst 0, 1) := by decide +kernel
theorem dL_isAsset_242 : decode cL_isAsset 242 = .ok (.invokevirtual 88, 3) := by decide +kernel
theorem dL_isAsset_245 : decode cL_isAsset 245 = .ok (.ldc 92, 2) := by decide +kernel
theorem dL_isAsset_247 : decode cL_isAsset 247 = .ok (.fcmp .l, 1) := by decide +kernel
theorem dL_isAsset_248 : decode cL_isAsset 248 = .ok (.ifCond .lt 29, 3) := by decide +kernel
theorem dL_isAsset_251 : decode cL_isAsset 251 = .ok (.aload_n 0, 1) := by decide +kernel
theorem dL_isAsset_252 : decode cL_isAsset 252 = .ok (.iload_n 1, 1) := by decide +kernel
theorem dL_isAsset_253 : decode cL_isAsset 253 = .ok (.iconst 0, 1) := by decide +kernel
theorem dL_isAsset_254 : decode cL_isAsset 254 = .ok (.invokevirtual 88, 3) := by decide +kernel
theorem dL_isAsset_257 : decode cL_isAsset 257 = .ok (.fconst 1, 1) := by decide +kernel
theorem dL_isAsset_258 : decode cL_isAsset 258 = .ok (.fcmp .g, 1) := by decide +kernel
theorem dL_isAsset_259 : decode cL_isAsset 259 = .ok (.ifCond .gt 18, 3) := by decide +kernel
theorem dL_isAsset_262 : decode cL_isAsset 262 = .ok (.aload_n 0, 1) := by decide +kernel
theorem dL_isAsset_263 : decode cL_isAsset 263 = .ok (.iload_n 1, 1) := by decide +kernel
theorem dL_isAsset_264 : decode cL_isAsset 264 = .ok (.iconst 1, 1) := by decide +kernel
theorem dL_isAsset_265 : decode cL_isAsset 265 = .ok (.invokevirtual 88, 3) := by decide +kernel
theorem dL_isAsset_268 : decode cL_isAsset 268 = .ok (.fconst 0, 1) := by decide +kernel
theorem dL_isAsset_269 : decode cL_isAsset 269 = .ok (.fcmp .l, 1) := by decide +kernel
theorem dL_isAsset_270 : decode cL_isAsset 270 = .ok (.ifCond .lt 7, 3) := by decide +kernel
theorem dL_isAsset_273 : decode cL_isAsset 273 = .ok (.iconst 1, 1) := by decide +kernel
theorem dL_isAsset_274 : decode cL_isAsset 274 = .ok (.goto 4, 3) := by decide +kernel
theorem dL_isAsset_277 : decode cL_isAsset 277 = .ok (.iconst 0, 1) := by decide +kernel
theorem dL_isAsset_278 : decode cL_isAsset 278 = .ok (.ireturn, 1) := by decide +kernel
theorem dL_areRight_0 : decode cL_areRight 0 = .ok (.iconst 1, 1) := by decide +kernel
theorem dL_areRight_1 : decode cL_areRight 1 = .ok (.istore_n 1, 1) := by decide +kernel
theorem dL_areRight_2 : decode cL_areRight 2 = .ok (.iconst 0, 1) := by decide +kernel
theorem dL_areRight_3 : decode cL_areRight 3 = .ok (.istore_n 2, 1) := by decide +kernel
theorem dL_areRight_4 : decode cL_areRight 4 = .ok (.iload_n 2, 1) := by decide +kernel
theorem dL_areRight_5 : decode cL_areRight 5 = .ok (.aload_n 0, 1) := by decide +kernel
theorem dL_areRight_6 : decode cL_areRight 6 = .ok (.iconst 4, 1) := by decide +kernel
theorem dL_areRight_7 : decode cL_areRight 7 = .ok (.invokevirtual 13, 3) := by decide +kernel
theorem dL_areRight_10 : decode cL_areRight 10 = .ok (.if_icmp .ge 19, 3) := by decide +kernel
theorem dL_areRight_13 : decode cL_areRight 13 = .ok (.iload_n 1, 1) := by decide +kernel
theorem dL_areRight_14 : decode cL_areRight 14 = .ok (.ifCond .eq 15, 3) := by decide +kernel
theorem dL_areRight_17 : decode cL_areRight 17 = .ok (.aload_n 0, 1) := by decide +kernel
theorem dL_areRight_18 : decode cL_areRight 18 = .ok (.iload_n 2, 1) := by decide +kernel
theorem dL_areRight_19 : decode cL_areRight 19 = .ok (.invokestatic 93, 3) := by decide +kernel
theorem dL_areRight_22 : decode cL_areRight 22 = .ok (.istore_n 1, 1) := by decide +kernel
theorem dL_areRight_23 : decode cL_areRight 23 = .ok (.iinc 2 1, 3) := by decide +kernel
theorem dL_areRight_26 : decode cL_areRight 26 = .ok (.goto (-22), 3) := by decide +kernel
theorem dL_areRight_29 : decode cL_areRight 29 = .ok (.iconst 0, 1) := by decide +kernel
theorem dL_areRight_30 : decode cL_areRight 30 = .ok (.istore_n 2, 1) := by decide +kernel
theorem dL_areRight_31 : decode cL_areRight 31 = .ok (.iload_n 2, 1) := by decide +kernel
theorem dL_areRight_32 : decode cL_areRight 32 = .ok (.aload_n 0, 1) := by decide +kernel
theorem dL_areRight_33 : decode cL_areRight 33 = .ok (.iconst 1, 1) := by decide +kernel
theorem dL_areRight_34 : decode cL_areRight 34 = .ok (.invokevirtual 13, 3) := by decide +kernel
theorem dL_areRight_37 : decode cL_areRight 37 = .ok (.if_icmp .ge 19, 3) := by decide +kernel
theorem dL_areRight_40 : decode cL_areRight 40 = .ok (.iload_n 1, 1) := by decide +kernel
theorem dL_areRight_41 : decode cL_areRight 41 = .ok (.ifCond .eq 15, 3) := by decide +kernel
theorem dL_areRight_44 : decode cL_areRight 44 = .ok (.aload_n 0, 1) := by decide +kernel
theorem dL_areRight_45 : decode cL_areRight 45 = .ok (.iload_n 2, 1) := by decide +kernel
theorem dL_areRight_46 : decode cL_areRight 46 = .ok (.invokestatic 97, 3) := by decide +kernel
theorem dL_areRight_49 : decode cL_areRight 49 = .ok (.istore_n 1, 1) := by decide +kernel
theorem dL_areRight_50 : decode cL_areRight 50 = .ok (.iinc 2 1, 3) := by decide +kernel
theorem dL_areRight_53 : decode cL_areRight 53 = .ok (.goto (-22), 3) := by decide +kernel
theorem dL_areRight_56 : decode cL_areRight 56 = .ok (.iconst 0, 1) := by decide +kernel
theorem dL_areRight_57 : decode cL_areRight 57 = .ok (.istore_n 2, 1) := by decide +kernel
theorem dL_areRight_58 : decode cL_areRight 58 = .ok (.iconst 0, 1) := by decide +kernel
theorem dL_areRight_59 : decode cL_areRight 59 = .ok (.istore_n 3, 1) := by decide +kernel
theorem dL_areRight_60 : decode cL_areRight 60 = .ok (.iload_n 3, 1) := by decide +kernel
theorem dL_areRight_61 : decode cL_areRight 61 = .ok (.aload_n 0, 1) := by decide +kernel
theorem dL_areRight_62 : decode cL_areRight 62 = .ok (.iconst 3, 1) := by decide +kernel
theorem dL_areRight_63 : decode cL_areRight 63 = .ok (.invokevirtual 13, 3) := by decide +kernel
theorem dL_areRight_66 : decode cL_areRight 66 = .ok (.if_icmp .ge 107, 3) := by decide +kernel
theorem dL_areRight_69 : decode cL_areRight 69 = .ok (.iload_n 1, 1) := by decide +kernel
theorem dL_areRight_70 : decode cL_areRight 70 = .ok (.ifCond .eq 103, 3) := by decide +kernel
theorem dL_areRight_73 : decode cL_areRight 73 = .ok (.iconst 0, 1) := by decide +kernel
theorem dL_areRight_74 : decode cL_areRight 74 = .ok (.istore 4, 2) := by decide +kernel
theorem dL_areRight_76 : decode cL_areRight 76 = .ok (.iconst 0, 1) := by decide +kernel
theorem dL_areRight_77 : decode cL_areRight 77 = .ok (.istore 5, 2) := by decide +kernel
theorem dL_areRight_79 : decode cL_areRight 79 = .ok (.iload 5, 2) := by decide +kernel
theorem dL_areRight_81 : decode cL_areRight 81 = .ok (.aload_n 0, 1) := by decide +kernel
theorem dL_areRight_82 : decode cL_areRight 82 = .ok (.iconst 4, 1) := by decide +kernel
theorem dL_areRight_83 : decode cL_areRight 83 = .ok (.invokevirtual 13, 3) := by decide +kernel
theorem dL_areRight_86 : decode cL_areRight 86 = .ok (.if_icmp .ge 48, 3) := by decide +kernel
theorem dL_areRight_89 : decode cL_areRight 89 = .ok (.iload 4, 2) := by decide +kernel
theorem dL_areRight_91 : decode cL_areRight 91 = .ok (.aload_n 0, 1) := by decide +kernel
theorem dL_areRight_92 : decode cL_areRight 92 = .ok (.iload 5, 2) := by decide +kernel
theorem dL_areRight_94 : decode cL_areRight 94 = .ok (.bipush 8, 2) := by decide +kernel
theorem dL_areRight_96 : decode cL_areRight 96 = .ok (.invokevirtual 32, 3) := by decide +kernel
theorem dL_areRight_99 : decode cL_areRight 99 = .ok (.iload_n 3, 1) := by decide +kernel
theorem dL_areRight_100 : decode cL_areRight 100 = .ok (.if_icmp .ne 24, 3) := by decide +kernel
theorem dL_areRight_103 : decode cL_areRight 103 = .ok (.aload_n 0, 1) := by decide +kernel
theorem dL_areRight_104 : decode cL_areRight 104 = .ok (.iload 5, 2) := by decide +kernel
theorem dL_areRight_106 : decode cL_areRight 106 = .ok (.iconst 1, 1) := by decide +kernel
theorem dL_areRight_107 : decode cL_areRight 107 = .ok (.invokevirtual 32, 3) := by decide +kernel
theorem dL_areRight_110 : decode cL_areRight 110 = .ok (.iconst 4, 1) := by decide +kernel
theorem dL_areRight_111 : decode cL_areRight 111 = .ok (.if_icmp .ge 13, 3) := by decide +kernel
theorem dL_areRight_114 : decode cL_areRight 114 = .ok (.aload_n 0, 1) := by decide +kernel
theorem dL_areRight_115 : decode cL_areRight 115 = .ok (.iload 5, 2) := by decide +kernel
theorem dL_areRight_117 : decode cL_areRight 117 = .ok (.iconst 3, 1) := by decide +kernel
theorem dL_areRight_118 : decode cL_areRight 118 = .ok (.invokevirtual 32, 3) := by decide +kernel
theorem dL_areRight_121 : decode cL_areRight 121 = .ok (.goto 4, 3) := by decide +kernel
theorem dL_areRight_124 : decode cL_areRight 124 = .ok (.iconst 0, 1) := by decide +kernel
theorem dL_areRight_125 : decode cL_areRight 125 = .ok (.iadd, 1) := by decide +kernel
theorem dL_areRight_126 : decode cL_areRight 126 = .ok (.istore 4, 2) := by decide +kernel
theorem dL_areRight_128 : decode cL_areRight 128 = .ok (.iinc 5 1, 3) := by decide +kernel
theorem dL_areRight_131 : decode cL_areRight 131 = .ok (.goto (-52), 3) := by decide +kernel
theorem dL_areRight_134 : decode cL_areRight 134 = .ok (.aload_n 0, 1) := by decide +kernel
theorem dL_areRight_135 : decode cL_areRight 135 = .ok (.iload_n 3, 1) := by decide +kernel
theorem dL_areRight_136 : decode cL_areRight 136 = .ok (.iconst 2, 1) := by decide +kernel
theorem dL_areRight_137 : decode cL_areRight 137 = .ok (.invokevirtual 29, 3) := by decide +kernel
theorem dL_areRight_140 : decode cL_areRight 140 = .ok (.iload 4, 2) := by decide +kernel
theorem dL_areRight_142 : decode cL_areRight 142 = .ok (.if_icmp .ne 18, 3) := by decide +kernel
theorem dL_areRight_145 : decode cL_areRight 145 = .ok (.iload 4, 2) := by decide +kernel
theorem dL_areRight_147 : decode cL_areRight 147 = .ok (.aload_n 0, 1) := by decide +kernel
theorem dL_areRight_148 : decode cL_areRight 148 = .ok (.iload_n 3, 1) := by decide +kernel
theorem dL_areRight_149 : decode cL_areRight 149 = .ok (.iconst 0, 1) := by decide +kernel
theorem dL_areRight_150 : decode cL_areRight 150 = .ok (.invokevirtual 29, 3) := by decide +kernel
theorem dL_areRight_153 : decode cL_areRight 153 = .ok (.if_icmp .gt 7, 3) := by decide +kernel
theorem dL_areRight_156 : decode cL_areRight 156 = .ok (.iconst 1, 1) := by decide +kernel
theorem dL_areRight_157 : decode cL_areRight 157 = .ok (.goto 4, 3) := by decide +kernel
theorem dL_areRight_160 : decode cL_areRight 160 = .ok (.iconst 0, 1) := by decide +kernel
theorem dL_areRight_161 : decode cL_areRight 161 = .ok (.istore_n 1, 1) := by decide +kernel
theorem dL_areRight_162 : decode cL_areRight 162 = .ok (.iload_n 2, 1) := by decide +kernel
theorem dL_areRight_163 : decode cL_areRight 163 = .ok (.iload 4, 2) := by decide +kernel
theorem dL_areRight_165 : decode cL_areRight 165 = .ok (.iadd, 1) := by decide +kernel
theorem dL_areRight_166 : decode cL_areRight 166 = .ok (.istore_n 2, 1) := by decide +kernel
theorem dL_areRight_167 : decode cL_areRight 167 = .ok (.iinc 3 1, 3) := by decide +kernel
theorem dL_areRight_170 : decode cL_areRight 170 = .ok (.goto (-110), 3) := by decide +kernel
theorem dL_areRight_173 : decode cL_areRight 173 = .ok (.iload_n 1, 1) := by decide +kernel
theorem dL_areRight_174 : decode cL_areRight 174 = .ok (.ifCond .eq 41, 3) := by decide +kernel
theorem dL_areRight_177 : decode cL_areRight 177 = .ok (.iload_n 2, 1) := by decide +kernel
theorem dL_areRight_178 : decode cL_areRight 178 = .ok (.aload_n 0, 1) := by decide +kernel
theorem dL_areRight_179 : decode cL_areRight 179 = .ok (.bipush 14, 2) := by decide +kernel
theorem dL_areRight_181 : decode cL_areRight 181 = .ok (.invokevirtual 13, 3) := by decide +kernel
theorem dL_areRight_184 : decode cL_areRight 184 = .ok (.if_icmp .ne 31, 3) := by decide +kernel
theorem dL_areRight_187 : decode cL_areRight 187 = .ok (.aload_n 0, 1) := by decide +kernel
theorem dL_areRight_188 : decode cL_areRight 188 = .ok (.aload_n 0, 1) := by decide +kernel
theorem dL_areRight_189 : decode cL_areRight 189 = .ok (.iconst 1, 1) := by decide +kernel
theorem dL_areRight_190 : decode cL_areRight 190 = .ok (.invokevirtual 13, 3) := by decide +kernel
theorem dL_areRight_193 : decode cL_areRight 193 = .ok (.iconst 0, 1) := by decide +kernel
theorem dL_areRight_194 : decode cL_areRight 194 = .ok (.invokevirtual 88, 3) := by decide +kernel
theorem dL_areRight_197 : decode cL_areRight 197 = .ok (.aload_n 0, 1) := by decide +kernel
theorem dL_areRight_198 : decode cL_areRight 198 = .ok (.aload_n 0, 1) := by decide +kernel
theorem dL_areRight_199 : decode cL_areRight 199 = .ok (.iconst 1, 1) := by decide +kernel
theorem dL_areRight_200 : decode cL_areRight 200 = .ok (.invokevirtual 13, 3) := by decide +kernel
theorem dL_areRight_203 : decode cL_areRight 203 = .ok (.iconst 0, 1) := by decide +kernel
theorem dL_areRight_204 : decode cL_areRight 204 = .ok (.invokevirtual 88, 3) := by decide +kernel
theorem dL_areRight_207 : decode cL_areRight 207 = .ok (.fcmp .l, 1) := by decide +kernel
theorem dL_areRight_208 : decode cL_areRight 208 = .ok (.ifCond .eq 7, 3) := by decide +kernel
theorem dL_areRight_211 : decode cL_areRight 211 = .ok (.iconst 1, 1) := by decide +kernel
theorem dL_areRight_212 : decode cL_areRight 212 = .ok (.goto 4, 3) := by decide +kernel
theorem dL_areRight_215 : decode cL_areRight 215 = .ok (.iconst 0, 1) := by decide +kernel
theorem dL_areRight_216 : decode cL_areRight 216 = .ok (.ireturn, 1) := by decide +kernel
theorem dL_isUndone_0 : decode cL_isUndone 0 = .ok (.aload_n 0, 1) := by decide +kernel
theorem dL_isUndone_1 : decode cL_isUndone 1 = .ok (.invokestatic 100, 3) := by decide +kernel
theorem dL_isUndone_4 : decode cL_isUndone 4 = .ok (.lstore 7, 2) := by decide +kernel
theorem dL_isUndone_6 : decode cL_isUndone 6 = .ok (.aload_n 0, 1) := by decide +kernel
theorem dL_isUndone_7 : decode cL_isUndone 7 = .ok (.bipush 15, 2) := by decide +kernel
theorem dL_isUndone_9 : decode cL_isUndone 9 = .ok (.invokevirtual 13, 3) := by decide +kernel
theorem dL_isUndone_12 : decode cL_isUndone 12 = .ok (.istore 9, 2) := by decide +kernel
theorem dL_isUndone_14 : decode cL_isUndone 14 = .ok (.aload_n 0, 1) := by decide +kernel
theorem dL_isUndone_15 : decode cL_isUndone 15 = .ok (.invokevirtual 104, 3) := by decide +kernel
theorem dL_isUndone_18 : decode cL_isUndone 18 = .ok (.iload 9, 2) := by decide +kernel
theorem dL_isUndone_20 : decode cL_isUndone 20 = .ok (.iconst 1, 1) := by decide +kernel
theorem dL_isUndone_21 : decode cL_isUndone 21 = .ok (.isub, 1) := by decide +kernel
theorem dL_isUndone_22 : decode cL_isUndone 22 = .ok (.if_icmp .ne 50, 3) := by decide +kernel
theorem dL_isUndone_25 : decode cL_isUndone 25 = .ok (.aload_n 0, 1) := by decide +kernel
theorem dL_isUndone_26 : decode cL_isUndone 26 = .ok (.invokestatic 100, 3) := by decide +kernel
theorem dL_isUndone_29 : decode cL_isUndone 29 = .ok (.lload 5, 2) := by decide +kernel
theorem dL_isUndone_31 : decode cL_isUndone 31 = .ok (.lcmp, 1) := by decide +kernel
theorem dL_isUndone_32 : decode cL_isUndone 32 = .ok (.ifCond .ne 40, 3) := by decide +kernel
theorem dL_isUndone_35 : decode cL_isUndone 35 = .ok (.aload_n 0, 1) := by decide +kernel
theorem dL_isUndone_36 : decode cL_isUndone 36 = .ok (.iload_n 1, 1) := by decide +kernel
theorem dL_isUndone_37 : decode cL_isUndone 37 = .ok (.iload_n 2, 1) := by decide +kernel
theorem dL_isUndone_38 : decode cL_isUndone 38 = .ok (.iload_n 3, 1) := by decide +kernel
theorem dL_isUndone_39 : decode cL_isUndone 39 = .ok (.invokestatic 108, 3) := by decide +kernel
theorem dL_isUndone_42 : decode cL_isUndone 42 = .ok (.iload 4, 2) := by decide +kernel
theorem dL_isUndone_44 : decode cL_isUndone 44 = .ok (.if_icmp .ne 28, 3) := by decide +kernel
theorem dL_isUndone_47 : decode cL_isUndone 47 = .ok (.aload_n 0, 1) := by decide +kernel
theorem dL_isUndone_48 : decode cL_isUndone 48 = .ok (.invokestatic 100, 3) := by decide +kernel
theorem dL_isUndone_51 : decode cL_isUndone 51 = .ok (.lload 7, 2) := by decide +kernel
theorem dL_isUndone_53 : decode cL_isUndone 53 = .ok (.lcmp, 1) := by decide +kernel
theorem dL_isUndone_54 : decode cL_isUndone 54 = .ok (.ifCond .ne 18, 3) := by decide +kernel
theorem dL_isUndone_57 : decode cL_isUndone 57 = .ok (.aload_n 0, 1) := by decide +kernel
theorem dL_isUndone_58 : decode cL_isUndone 58 = .ok (.bipush 15, 2) := by decide +kernel
theorem dL_isUndone_60 : decode cL_isUndone 60 = .ok (.invokevirtual 13, 3) := by decide +kernel
theorem dL_isUndone_63 : decode cL_isUndone 63 = .ok (.iload 9, 2) := by decide +kernel
theorem dL_isUndone_65 : decode cL_isUndone 65 = .ok (.if_icmp .ne 7, 3) := by decide +kernel
theorem dL_isUndone_68 : decode cL_isUndone 68 = .ok (.iconst 1, 1) := by decide +kernel
theorem dL_isUndone_69 : decode cL_isUndone 69 = .ok (.goto 4, 3) := by decide +kernel
theorem dL_isUndone_72 : decode cL_isUndone 72 = .ok (.iconst 0, 1) := by decide +kernel
theorem dL_isUndone_73 : decode cL_isUndone 73 = .ok (.ireturn, 1) := by decide +kernel
theorem dL_isKept_0 : decode cL_isKept 0 = .ok (.aload_n 0, 1) := by decide +kernel
theorem dL_isKept_1 : decode cL_isKept 1 = .ok (.invokestatic 100, 3) := by decide +kernel
theorem dL_isKept_4 : decode cL_isKept 4 = .ok (.lstore_n 3, 1) := by decide +kernel
theorem dL_isKept_5 : decode cL_isKept 5 = .ok (.aload_n 0, 1) := by decide +kernel
theorem dL_isKept_6 : decode cL_isKept 6 = .ok (.invokevirtual 112, 3) := by decide +kernel
theorem dL_isKept_9 : decode cL_isKept 9 = .ok (.aload_n 0, 1) := by decide +kernel
theorem dL_isKept_10 : decode cL_isKept 10 = .ok (.iconst 0, 1) := by decide +kernel
theorem dL_isKept_11 : decode cL_isKept 11 = .ok (.invokevirtual 13, 3) := by decide +kernel
theorem dL_isKept_14 : decode cL_isKept 14 = .ok (.if_icmp .eq 5, 3) := by decide +kernel
theorem dL_isKept_17 : decode cL_isKept 17 = .ok (.iconst 0, 1) := by decide +kernel
theorem dL_isKept_18 : decode cL_isKept 18 = .ok (.ireturn, 1) := by decide +kernel
theorem dL_isKept_19 : decode cL_isKept 19 = .ok (.aload_n 0, 1) := by decide +kernel
theorem dL_isKept_20 : decode cL_isKept 20 = .ok (.iload_n 2, 1) := by decide +kernel
theorem dL_isKept_21 : decode cL_isKept 21 = .ok (.bipush 15, 2) := by decide +kernel
theorem dL_isKept_23 : decode cL_isKept 23 = .ok (.invokestatic 61, 3) := by decide +kernel
theorem dL_isKept_26 : decode cL_isKept 26 = .ok (.iload_n 2, 1) := by decide +kernel
theorem dL_isKept_27 : decode cL_isKept 27 = .ok (.iload_n 1, 1) := by decide +kernel
theorem dL_isKept_28 : decode cL_isKept 28 = .ok (.invokestatic 108, 3) := by decide +kernel
theorem dL_isKept_31 : decode cL_isKept 31 = .ok (.pop, 1) := by decide +kernel
theorem dL_isKept_32 : decode cL_isKept 32 = .ok (.aload_n 0, 1) := by decide +kernel
theorem dL_isKept_33 : decode cL_isKept 33 = .ok (.invokevirtual 115, 3) := by decide +kernel
theorem dL_isKept_36 : decode cL_isKept 36 = .ok (.aload_n 0, 1) := by decide +kernel
theorem dL_isKept_37 : decode cL_isKept 37 = .ok (.iconst 0, 1) := by decide +kernel
theorem dL_isKept_38 : decode cL_isKept 38 = .ok (.invokevirtual 13, 3) := by decide +kernel
theorem dL_isKept_41 : decode cL_isKept 41 = .ok (.if_icmp .ne 16, 3) := by decide +kernel
theorem dL_isKept_44 : decode cL_isKept 44 = .ok (.aload_n 0, 1) := by decide +kernel
theorem dL_isKept_45 : decode cL_isKept 45 = .ok (.invokestatic 100, 3) := by decide +kernel
theorem dL_isKept_48 : decode cL_isKept 48 = .ok (.lload_n 3, 1) := by decide +kernel
theorem dL_isKept_49 : decode cL_isKept 49 = .ok (.lcmp, 1) := by decide +kernel
theorem dL_isKept_50 : decode cL_isKept 50 = .ok (.ifCond .ne 7, 3) := by decide +kernel
theorem dL_isKept_53 : decode cL_isKept 53 = .ok (.iconst 1, 1) := by decide +kernel
theorem dL_isKept_54 : decode cL_isKept 54 = .ok (.goto 4, 3) := by decide +kernel
theorem dL_isKept_57 : decode cL_isKept 57 = .ok (.iconst 0, 1) := by decide +kernel
theorem dL_isKept_58 : decode cL_isKept 58 = .ok (.ireturn, 1) := by decide +kernel
theorem dL_law_0 : decode cL_law 0 = .ok (.new 14, 3) := by decide +kernel
theorem dL_law_3 : decode cL_law 3 = .ok (.dup, 1) := by decide +kernel
theorem dL_law_4 : decode cL_law 4 = .ok (.invokespecial 118, 3) := by decide +kernel
theorem dL_law_7 : decode cL_law 7 = .ok (.astore_n 1, 1) := by decide +kernel
theorem dL_law_8 : decode cL_law 8 = .ok (.aload_n 1, 1) := by decide +kernel
theorem dL_law_9 : decode cL_law 9 = .ok (.bipush 10, 2) := by decide +kernel
theorem dL_law_11 : decode cL_law 11 = .ok (.bipush 20, 2) := by decide +kernel
theorem dL_law_13 : decode cL_law 13 = .ok (.invokevirtual 35, 3) := by decide +kernel
theorem dL_law_16 : decode cL_law 16 = .ok (.pop, 1) := by decide +kernel
theorem dL_law_17 : decode cL_law 17 = .ok (.aload_n 1, 1) := by decide +kernel
theorem dL_law_18 : decode cL_law 18 = .ok (.iconst 3, 1) := by decide +kernel
theorem dL_law_19 : decode cL_law 19 = .ok (.bipush 15, 2) := by decide +kernel
theorem dL_law_21 : decode cL_law 21 = .ok (.invokevirtual 69, 3) := by decide +kernel
theorem dL_law_24 : decode cL_law 24 = .ok (.pop, 1) := by decide +kernel
theorem dL_law_25 : decode cL_law 25 = .ok (.aload_n 0, 1) := by decide +kernel
theorem dL_law_26 : decode cL_law 26 = .ok (.arraylength, 1) := by decide +kernel
theorem dL_law_27 : decode cL_law 27 = .ok (.iconst 3, 1) := by decide +kernel
theorem dL_law_28 : decode cL_law 28 = .ok (.idiv, 1) := by decide +kernel
theorem dL_law_29 : decode cL_law 29 = .ok (.bipush 40, 2) := by decide +kernel
theorem dL_law_31 : decode cL_law 31 = .ok (.if_icmp .ge 10, 3) := by decide +kernel
theorem dL_law_34 : decode cL_law 34 = .ok (.aload_n 0, 1) := by decide +kernel
theorem dL_law_35 : decode cL_law 35 = .ok (.arraylength, 1) := by decide +kernel
theorem dL_law_36 : decode cL_law 36 = .ok (.iconst 3, 1) := by decide +kernel
theorem dL_law_37 : decode cL_law 37 = .ok (.idiv, 1) := by decide +kernel
theorem dL_law_38 : decode cL_law 38 = .ok (.goto 5, 3) := by decide +kernel
theorem dL_law_41 : decode cL_law 41 = .ok (.bipush 40, 2) := by decide +kernel
theorem dL_law_43 : decode cL_law 43 = .ok (.istore_n 2, 1) := by decide +kernel
theorem dL_law_44 : decode cL_law 44 = .ok (.iconst 0, 1) := by decide +kernel
theorem dL_law_45 : decode cL_law 45 = .ok (.istore_n 3, 1) := by decide +kernel
theorem dL_law_46 : decode cL_law 46 = .ok (.iload_n 3, 1) := by decide +kernel
theorem dL_law_47 : decode cL_law 47 = .ok (.iload_n 2, 1) := by decide +kernel
theorem dL_law_48 : decode cL_law 48 = .ok (.if_icmp .ge 198, 3) := by decide +kernel
theorem dL_law_51 : decode cL_law 51 = .ok (.aload_n 0, 1) := by decide +kernel
theorem dL_law_52 : decode cL_law 52 = .ok (.iconst 3, 1) := by decide +kernel
theorem dL_law_53 : decode cL_law 53 = .ok (.iload_n 3, 1) := by decide +kernel
theorem dL_law_54 : decode cL_law 54 = .ok (.imul, 1) := by decide +kernel
theorem dL_law_55 : decode cL_law 55 = .ok (.invokestatic 119, 3) := by decide +kernel
theorem dL_law_58 : decode cL_law 58 = .ok (.istore 4, 2) := by decide +kernel
theorem dL_law_60 : decode cL_law 60 = .ok (.aload_n 0, 1) := by decide +kernel
theorem dL_law_61 : decode cL_law 61 = .ok (.iconst 3, 1) := by decide +kernel
theorem dL_law_62 : decode cL_law 62 = .ok (.iload_n 3, 1) := by decide +kernel
theorem dL_law_63 : decode cL_law 63 = .ok (.imul, 1) := by decide +kernel
theorem dL_law_64 : decode cL_law 64 = .ok (.iconst 1, 1) := by decide +kernel
theorem dL_law_65 : decode cL_law 65 = .ok (.iadd, 1) := by decide +kernel
theorem dL_law_66 : decode cL_law 66 = .ok (.invokestatic 119, 3) := by decide +kernel
theorem dL_law_69 : decode cL_law 69 = .ok (.istore 5, 2) := by decide +kernel
theorem dL_law_71 : decode cL_law 71 = .ok (.aload_n 0, 1) := by decide +kernel
theorem dL_law_72 : decode cL_law 72 = .ok (.iconst 3, 1) := by decide +kernel
theorem dL_law_73 : decode cL_law 73 = .ok (.iload_n 3, 1) := by decide +kernel
theorem dL_law_74 : decode cL_law 74 = .ok (.imul, 1) := by decide +kernel
theorem dL_law_75 : decode cL_law 75 = .ok (.iconst 2, 1) := by decide +kernel
theorem dL_law_76 : decode cL_law 76 = .ok (.iadd, 1) := by decide +kernel
theorem dL_law_77 : decode cL_law 77 = .ok (.invokestatic 119, 3) := by decide +kernel
theorem dL_law_80 : decode cL_law 80 = .ok (.istore 6, 2) := by decide +kernel
theorem dL_law_82 : decode cL_law 82 = .ok (.iload 4, 2) := by decide +kernel
theorem dL_law_84 : decode cL_law 84 = .ok (.bipush 15, 2) := by decide +kernel
theorem dL_law_86 : decode cL_law 86 = .ok (.iand, 1) := by decide +kernel
theorem dL_law_87 : decode cL_law 87 = .ok (.istore 7, 2) := by decide +kernel
theorem dL_law_89 : decode cL_law 89 = .ok (.aload_n 1, 1) := by decide +kernel
theorem dL_law_90 : decode cL_law 90 = .ok (.invokestatic 100, 3) := by decide +kernel
theorem dL_law_93 : decode cL_law 93 = .ok (.lstore 8, 2) := by decide +kernel
theorem dL_law_95 : decode cL_law 95 = .ok (.aload_n 1, 1) := by decide +kernel
theorem dL_law_96 : decode cL_law 96 = .ok (.bipush 15, 2) := by decide +kernel
theorem dL_law_98 : decode cL_law 98 = .ok (.invokevirtual 13, 3) := by decide +kernel
theorem dL_law_101 : decode cL_law 101 = .ok (.istore 10, 2) := by decide +kernel
theorem dL_law_103 : decode cL_law 103 = .ok (.aload_n 1, 1) := by decide +kernel
theorem dL_law_104 : decode cL_law 104 = .ok (.bipush 13, 2) := by decide +kernel
theorem dL_law_106 : decode cL_law 106 = .ok (.invokevirtual 13, 3) := by decide +kernel
theorem dL_law_109 : decode cL_law 109 = .ok (.istore 11, 2) := by decide +kernel
theorem dL_law_111 : decode cL_law 111 = .ok (.aload_n 1, 1) := by decide +kernel
theorem dL_law_112 : decode cL_law 112 = .ok (.iload 7, 2) := by decide +kernel
theorem dL_law_114 : decode cL_law 114 = .ok (.iload 5, 2) := by decide +kernel
theorem dL_law_116 : decode cL_law 116 = .ok (.iload 6, 2) := by decide +kernel
theorem dL_law_118 : decode cL_law 118 = .ok (.invokestatic 108, 3) := by decide +kernel
theorem dL_law_121 : decode cL_law 121 = .ok (.istore 12, 2) := by decide +kernel
theorem dL_law_123 : decode cL_law 123 = .ok (.iload 12, 2) := by decide +kernel
theorem dL_law_125 : decode cL_law 125 = .ok (.ifCond .ge 26, 3) := by decide +kernel
theorem dL_law_128 : decode cL_law 128 = .ok (.aload_n 1, 1) := by decide +kernel
theorem dL_law_129 : decode cL_law 129 = .ok (.invokestatic 100, 3) := by decide +kernel
theorem dL_law_132 : decode cL_law 132 = .ok (.lload 8, 2) := by decide +kernel
theorem dL_law_134 : decode cL_law 134 = .ok (.lcmp, 1) := by decide +kernel
theorem dL_law_135 : decode cL_law 135 = .ok (.ifCond .ne 14, 3) := by decide +kernel
theorem dL_law_138 : decode cL_law 138 = .ok (.aload_n 1, 1) := by decide +kernel
theorem dL_law_139 : decode cL_law 139 = .ok (.bipush 15, 2) := by decide +kernel
theorem dL_law_141 : decode cL_law 141 = .ok (.invokevirtual 13, 3) := by decide +kernel
theorem dL_law_144 : decode cL_law 144 = .ok (.iload 10, 2) := by decide +kernel
theorem dL_law_146 : decode cL_law 146 = .ok (.if_icmp .eq 55, 3) := by decide +kernel
theorem dL_law_149 : decode cL_law 149 = .ok (.iconst 0, 1) := by decide +kernel
theorem dL_law_150 : decode cL_law 150 = .ok (.ireturn, 1) := by decide +kernel
theorem dL_law_151 : decode cL_law 151 = .ok (.aload_n 1, 1) := by decide +kernel
theorem dL_law_152 : decode cL_law 152 = .ok (.bipush 15, 2) := by decide +kernel
theorem dL_law_154 : decode cL_law 154 = .ok (.invokevirtual 13, 3) := by decide +kernel
theorem dL_law_157 : decode cL_law 157 = .ok (.iload 10, 2) := by decide +kernel
theorem dL_law_159 : decode cL_law 159 = .ok (.iconst 4, 1) := by decide +kernel
theorem dL_law_160 : decode cL_law 160 = .ok (.if_icmp .ge 10, 3) := by decide +kernel
theorem dL_law_163 : decode cL_law 163 = .ok (.iload 10, 2) := by decide +kernel
theorem dL_law_165 : decode cL_law 165 = .ok (.iconst 1, 1) := by decide +kernel
theorem dL_law_166 : decode cL_law 166 = .ok (.iadd, 1) := by decide +kernel
theorem dL_law_167 : decode cL_law 167 = .ok (.goto 4, 3) := by decide +kernel
theorem dL_law_170 : decode cL_law 170 = .ok (.iconst 4, 1) := by decide +kernel
theorem dL_law_171 : decode cL_law 171 = .ok (.if_icmp .ne 28, 3) := by decide +kernel
theorem dL_law_174 : decode cL_law 174 = .ok (.iload 4, 2) := by decide +kernel
theorem dL_law_176 : decode cL_law 176 = .ok (.bipush 16, 2) := by decide +kernel
theorem dL_law_178 : decode cL_law 178 = .ok (.iand, 1) := by decide +kernel
theorem dL_law_179 : decode cL_law 179 = .ok (.ifCond .ne 22, 3) := by decide +kernel
theorem dL_law_182 : decode cL_law 182 = .ok (.aload_n 1, 1) := by decide +kernel
theorem dL_law_183 : decode cL_law 183 = .ok (.iload 7, 2) := by decide +kernel
theorem dL_law_185 : decode cL_law 185 = .ok (.iload 5, 2) := by decide +kernel
theorem dL_law_187 : decode cL_law 187 = .ok (.iload 6, 2) := by decide +kernel
theorem dL_law_189 : decode cL_law 189 = .ok (.iload 12, 2) := by decide +kernel
theorem dL_law_191 : decode cL_law 191 = .ok (.lload 8, 2) := by decide +kernel
theorem dL_law_193 : decode cL_law 193 = .ok (.invokestatic 123, 3) := by decide +kernel
theorem dL_law_196 : decode cL_law 196 = .ok (.ifCond .ne 5, 3) := by decide +kernel
theorem dL_law_199 : decode cL_law 199 = .ok (.iconst 0, 1) := by decide +kernel
theorem dL_law_200 : decode cL_law 200 = .ok (.ireturn, 1) := by decide +kernel
theorem dL_law_201 : decode cL_law 201 = .ok (.aload_n 1, 1) := by decide +kernel
theorem dL_law_202 : decode cL_law 202 = .ok (.bipush 13, 2) := by decide +kernel
theorem dL_law_204 : decode cL_law 204 = .ok (.invokevirtual 13, 3) := by decide +kernel
theorem dL_law_207 : decode cL_law 207 = .ok (.iload 11, 2) := by decide +kernel
theorem dL_law_209 : decode cL_law 209 = .ok (.if_icmp .lt 29, 3) := by decide +kernel
theorem dL_law_212 : decode cL_law 212 = .ok (.iload 4, 2) := by decide +kernel
theorem dL_law_214 : decode cL_law 214 = .ok (.bipush 96, 2) := by decide +kernel
theorem dL_law_216 : decode cL_law 216 = .ok (.iand, 1) := by decide +kernel
theorem dL_law_217 : decode cL_law 217 = .ok (.ifCond .ne 14, 3) := by decide +kernel
theorem dL_law_220 : decode cL_law 220 = .ok (.aload_n 1, 1) := by decide +kernel
theorem dL_law_221 : decode cL_law 221 = .ok (.iload 5, 2) := by decide +kernel
theorem dL_law_223 : decode cL_law 223 = .ok (.iload 6, 2) := by decide +kernel
theorem dL_law_225 : decode cL_law 225 = .ok (.invokestatic 127, 3) := by decide +kernel
theorem dL_law_228 : decode cL_law 228 = .ok (.ifCond .eq 10, 3) := by decide +kernel
theorem dL_law_231 : decode cL_law 231 = .ok (.aload_n 1, 1) := by decide +kernel
theorem dL_law_232 : decode cL_law 232 = .ok (.invokestatic 131, 3) := by decide +kernel
theorem dL_law_235 : decode cL_law 235 = .ok (.ifCond .ne 5, 3) := by decide +kernel
theorem dL_law_238 : decode cL_law 238 = .ok (.iconst 0, 1) := by decide +kernel
theorem dL_law_239 : decode cL_law 239 = .ok (.ireturn, 1) := by decide +kernel
theorem dL_law_240 : decode cL_law 240 = .ok (.iinc 3 1, 3) := by decide +kernel
theorem dL_law_243 : decode cL_law 243 = .ok (.goto (-197), 3) := by decide +kernel
theorem dL_law_246 : decode cL_law 246 = .ok (.iconst 1, 1) := by decide +kernel
theorem dL_law_247 : decode cL_law 247 = .ok (.ireturn, 1) := by decide +kernel
end
section
/-! the words that every method takes: all good ones of the tables -/
def wsA : List Cond := lw_tbl.filter goodWord
theorem wsA_in : ∀ w ∈ wsA, w ∈ lw_tbl := fun _ h => (List.mem_filter.mp h).1
theorem wsA_gd : ∀ w ∈ wsA, (w.onTables && w.keeps) = true ∨ ∃ ty, w = .arrayClass ty := fun _ h => good_of_word (List.mem_filter.mp h).2
theorem wsA_at {w : Cond} (i : Nat) (h : lw_tbl[i]? = some w) (hg : goodWord w = true) : w ∈ wsA := List.mem_filter.mpr ⟨List.mem_of_getElem? h, hg⟩
theorem wsA_ps (ws : List Cond) (ps : List Nat) (hp : ws = ps.filterMap (fun i => lw_tbl[i]?)) (h : ws.all goodWord = true) : ∀ w ∈ ws, w ∈ wsA := fun w hw => List.mem_filter.mpr ⟨(goodIn_r ws ps hp h w hw).1, List.all_eq_true.mp h w hw⟩
theorem iAX0 : ∀ w ∈ u_ws RX0 TX0 6, w ∈ wsA := wsA_ps _ [57, 59, 61, 63, 65, 67] (by decide +kernel) (by decide +kernel)
theorem iAX1 : ∀ w ∈ u_ws RX1 TX1 2, w ∈ wsA := wsA_ps _ [81, 83] (by decide +kernel) (by decide +kernel)
theorem iAX2 : ∀ w ∈ u_ws RX2 TX2 3, w ∈ wsA := wsA_ps _ [195, 197, 199] (by decide +kernel) (by decide +kernel)
theorem iAX3 : ∀ w ∈ u_ws RX3 TX3 3, w ∈ wsA := wsA_ps _ [218, 220, 222] (by decide +kernel) (by decide +kernel)
theorem iAX4 : ∀ w ∈ u_ws RX4 TX4 5, w ∈ wsA := wsA_ps _ [232, 234, 236, 238, 240] (by decide +kernel) (by decide +kernel)
theorem iAX5 : ∀ w ∈ u_ws RX5 TX5 8, w ∈ wsA := wsA_ps _ [165, 167, 169, 171, 173, 175, 177, 179] (by decide +kernel) (by decide +kernel)
theorem iAX6 : ∀ w ∈ u_ws RX6 TX6 12, w ∈ wsA := wsA_ps _ [125, 127, 129, 131, 133, 135, 137, 139, 141, 143, 145, 147] (by decide +kernel) (by decide +kernel)
theorem iAX7 : ∀ w ∈ u_ws RX7 TX7 6, w ∈ wsA := wsA_ps _ [249, 251, 253, 255, 257, 259] (by decide +kernel) (by decide +kernel)
/-! words that want a way of their own: nest mates, arrays over a class -/
def spN : List (String × Nat × MethodName × String) := [(RX5, 46, yX0_init, "TagWindows"), (RX5, 47, yX1_init, "TagWindows"), (RX5, 48, yX6_init, "TagWindows"), (RX4, 31, yX3_init, "TagWindows"), (RX5, 59, yX7_within, "TagWindows")]
def spA : List String := [RX0, RX1, RX6, RX5, RX3]
theorem spN_in : ∀ q ∈ spN, Cond.methodLinkNest q.1 q.2.1 q.2.2.1 q.2.2.2 ∈ lw_tbl := by
  intro q hq
  simp only [spN, List.mem_cons, List.not_mem_nil, or_false] at hq
  rcases hq with rfl | rfl | rfl | rfl | rfl
  · exact List.mem_of_getElem? (i := 40) (by decide +kernel)
  · exact List.mem_of_getElem? (i := 72) (by decide +kernel)
  · exact List.mem_of_getElem? (i := 87) (by decide +kernel)
  · exact List.mem_of_getElem? (i := 211) (by decide +kernel)
  · exact List.mem_of_getElem? (i := 286) (by decide +kernel)
theorem spA_in : ∀ C ∈ spA, Cond.arrayOver (.object C) ∈ lw_tbl := by
  intro q hq
  simp only [spA, List.mem_cons, List.not_mem_nil, or_false] at hq
  rcases hq with rfl | rfl | rfl | rfl | rfl
  · exact List.mem_of_getElem? (i := 34) (by decide +kernel)
  · exact List.mem_of_getElem? (i := 36) (by decide +kernel)
  · exact List.mem_of_getElem? (i := 38) (by decide +kernel)
  · exact List.mem_of_getElem? (i := 189) (by decide +kernel)
  · exact List.mem_of_getElem? (i := 209) (by decide +kernel)
theorem nk_RX5_46 : (RX5, 46, yX0_init, "TagWindows") ∈ spN := by simp [spN]
theorem nk_RX5_47 : (RX5, 47, yX1_init, "TagWindows") ∈ spN := by simp [spN]
theorem nk_RX5_48 : (RX5, 48, yX6_init, "TagWindows") ∈ spN := by simp [spN]
theorem nk_RX4_31 : (RX4, 31, yX3_init, "TagWindows") ∈ spN := by simp [spN]
theorem nk_RX5_59 : (RX5, 59, yX7_within, "TagWindows") ∈ spN := by simp [spN]
theorem ao_RX0 : RX0 ∈ spA := by simp [spA]
theorem ao_RX1 : RX1 ∈ spA := by simp [spA]
theorem ao_RX6 : RX6 ∈ spA := by simp [spA]
theorem ao_RX5 : RX5 ∈ spA := by simp [spA]
theorem ao_RX3 : RX3 ∈ spA := by simp [spA]
end
section
/-! THE PURE WORLD: cells by number (0: the script), ints and floats by cell and slot; a NaN is any NaN -/
abbrev pT : Type := Nat × (Nat → Nat × Nat) × (Nat → Nat → Option Nat)
abbrev pI : Type := Nat → Nat → Int32
abbrev pF : Type := Nat → Nat → UInt32
/-- own class, maxLocals, what it returns, frames, locals' room, a constructor -/
abbrev mB : Type := String × Nat × Option FieldType × Nat × Nat × Bool
abbrev pJ : Value := .retAddr 0
def fty (c k : Nat) : FieldType := match c with
  | 0 => tyX0 k
  | 1 => tyX1 k
  | 2 => tyX2 k
  | 3 => tyX3 k
  | 4 => tyX4 k
  | 5 => tyX5 k
  | 6 => tyX6 k
  | 7 => tyX7 k
  | _ => tyX8 k
def fN (c : Nat) : Nat := match c with
  | 0 => 6
  | 1 => 2
  | 2 => 3
  | 3 => 3
  | 4 => 5
  | 5 => 8
  | 6 => 12
  | 7 => 6
  | _ => 0
def cnm (c : Nat) : String := match c with
  | 0 => RX0
  | 1 => RX1
  | 2 => RX2
  | 3 => RX3
  | 4 => RX4
  | 5 => RX5
  | 6 => RX6
  | 7 => RX7
  | _ => RX8
def rv (r : Option Nat) : Value := match r with
  | some q => .ref q
  | none => .null
def fv (σ : pT) (I : pI) (F : pF) (c q k : Nat) : Value := match fty c k with
  | .float => .float (F q k)
  | .object _ => rv (σ.2.2 q k)
  | .array _ => rv (σ.2.2 q k)
  | _ => .int (I q k)
/-! floats: alike ones are told apart by nothing but f2d's answer, which is alike too -/
theorem nan_dec {x : UInt32} (h : isNaN32 x = true) : FP.Core.decode FP.Core.b32 x.toNat = .nan := by
  have h1 := isNaN32_iff.mp h
  have hx : x.toNat < 4294967296 := x.toNat_lt
  generalize x.toNat = n at h1 hx
  have e1 : n &&& 2147483647 = n % 2147483648 := Nat.and_two_pow_sub_one_eq_mod n 31
  rw [show (0x7fffffff : Nat) = 2147483647 from rfl, e1] at h1
  have h2 : FP.Core.fieldE FP.Core.b32 n = 255 := by
    show n / 8388608 % 256 = 255
    omega
  have h3 : FP.Core.fieldT FP.Core.b32 n ≠ 0 := by
    show n % 8388608 ≠ 0
    omega
  unfold FP.Core.decode
  simp only [h2, h3]
  rfl
theorem alike_dec {x y : UInt32} (h : alike32 x y = true) : FP.Core.decode FP.Core.b32 x.toNat = FP.Core.decode FP.Core.b32 y.toNat := by
  simp only [alike32, Bool.or_eq_true, decide_eq_true_eq, Bool.and_eq_true] at h
  rcases h with rfl | ⟨h1, h2⟩
  · rfl
  · rw [nan_dec h1, nan_dec h2]
theorem alike_fadd {x y x' y' : UInt32} (h : alike32 x' x = true) (h2 : alike32 y' y = true) : FP.fadd x' y' = FP.fadd x y := by
  show FP.Core.fadd x' y' = FP.Core.fadd x y
  simp only [FP.Core.fadd, FP.Core.add, alike_dec h, alike_dec h2]
theorem alike_fsub {x y x' y' : UInt32} (h : alike32 x' x = true) (h2 : alike32 y' y = true) : FP.fsub x' y' = FP.fsub x y := by
  show FP.Core.fsub x' y' = FP.Core.fsub x y
  simp only [FP.Core.fsub, FP.Core.sub, alike_dec h, alike_dec h2]
theorem alike_fmul {x y x' y' : UInt32} (h : alike32 x' x = true) (h2 : alike32 y' y = true) : FP.fmul x' y' = FP.fmul x y := by
  show FP.Core.fmul x' y' = FP.Core.fmul x y
  simp only [FP.Core.fmul, FP.Core.mul, alike_dec h, alike_dec h2]
theorem alike_fdiv {x y x' y' : UInt32} (h : alike32 x' x = true) (h2 : alike32 y' y = true) : FP.fdiv x' y' = FP.fdiv x y := by
  show FP.Core.fdiv x' y' = FP.Core.fdiv x y
  simp only [FP.Core.fdiv, FP.Core.div, alike_dec h, alike_dec h2]
theorem alike_fcmp {x y x' y' : UInt32} (h : alike32 x' x = true) (h2 : alike32 y' y = true) : FP.fcmp x' y' = FP.fcmp x y := by
  show FP.Core.fcmp x' y' = FP.Core.fcmp x y
  simp only [FP.Core.fcmp, FP.Core.cmp, alike_dec h, alike_dec h2]
theorem alike_f2i {x x' : UInt32} (h : alike32 x' x = true) : FP.f2i x' = FP.f2i x := by
  show FP.Core.f2i x' = FP.Core.f2i x
  simp only [FP.Core.f2i, alike_dec h]
theorem nan_dec64 {x : UInt64} (h : isNaN64 x = true) : FP.Core.decode FP.Core.b64 x.toNat = .nan := by
  have h1 := isNaN64_iff.mp h
  have hx : x.toNat < 18446744073709551616 := x.toNat_lt
  generalize x.toNat = n at h1 hx
  have e1 : n &&& 9223372036854775807 = n % 9223372036854775808 := Nat.and_two_pow_sub_one_eq_mod n 63
  rw [show (0x7fffffffffffffff : Nat) = 9223372036854775807 from rfl, e1] at h1
  have h2 : FP.Core.fieldE FP.Core.b64 n = 2047 := by
    show n / 4503599627370496 % 2048 = 2047
    omega
  have h3 : FP.Core.fieldT FP.Core.b64 n ≠ 0 := by
    show n % 4503599627370496 ≠ 0
    omega
  unfold FP.Core.decode
  simp only [h2, h3]
  rfl
theorem alike_dec64 {x y : UInt64} (h : alike64 x y = true) : FP.Core.decode FP.Core.b64 x.toNat = FP.Core.decode FP.Core.b64 y.toNat := by
  simp only [alike64, Bool.or_eq_true, decide_eq_true_eq, Bool.and_eq_true] at h
  rcases h with rfl | ⟨h1, h2⟩
  · rfl
  · rw [nan_dec64 h1, nan_dec64 h2]
theorem alike_dcmp {x y x' y' : UInt64} (h : alike64 x' x = true) (h2 : alike64 y' y = true) : FP.dcmp x' y' = FP.dcmp x y := by
  show FP.Core.dcmp x' y' = FP.Core.dcmp x y
  simp only [FP.Core.dcmp, FP.Core.cmp, alike_dec64 h, alike_dec64 h2]
theorem alike64_trans {x y z : UInt64} (h : alike64 x y = true) (h2 : alike64 y z = true) : alike64 x z = true := by
  simp only [alike64, Bool.or_eq_true, decide_eq_true_eq, Bool.and_eq_true] at h h2 ⊢
  rcases h with rfl | ⟨h1, h3⟩
  · exact h2
  · rcases h2 with rfl | ⟨h4, h5⟩
    · exact Or.inr ⟨h1, h3⟩
    · exact Or.inr ⟨h1, h5⟩
theorem f2d_nan {a : UInt32} (h : isNaN32 a = true) : isNaN64 (FP.f2d a) = true := by
  have h1 : FP.Core.fIsNaN a = true := by
    simp [FP.Core.fIsNaN, FP.Core.isNaN, nan_dec h]
  unfold FP.f2d
  rw [if_pos h1]
  unfold FP.nanF2D
  exact isNaN64_or_left (isNaN64_or_right (by decide))
theorem alike_f2d {x x' : UInt32} (h : alike32 x' x = true) : alike64 (FP.f2d x') (FP.f2d x) = true := by
  simp only [alike32, Bool.or_eq_true, decide_eq_true_eq, Bool.and_eq_true] at h
  rcases h with rfl | ⟨h1, h2⟩
  · exact alike64_refl _
  · simp only [alike64, Bool.or_eq_true, Bool.and_eq_true]
    exact Or.inr ⟨f2d_nan h1, f2d_nan h2⟩
/-! values, stacks, locals -/
def vr (al : List Nat) (v v' : Value) : Prop := match v with
  | .int x => v' = .int x
  | .long x => v' = .long x
  | .float x => ∃ y, v' = .float y ∧ alike32 y x = true
  | .double x => ∃ y, v' = .double y ∧ alike64 y x = true
  | .ref q => ∃ a, al[q]? = some a ∧ v' = .ref a
  | .null => v' = .null
  | _ => False
theorem vr_app {al l : List Nat} {v v' : Value} (h : vr al v v') : vr (al ++ l) v v' := by
  cases v with
  | ref q =>
    obtain ⟨a, h1, h2⟩ := h
    refine ⟨a, ?_, h2⟩
    have hl := (List.getElem?_eq_some_iff.mp h1).1
    rw [List.getElem?_append_left hl]
    exact h1
  | _ => exact h
theorem vr_cat {al : List Nat} {v v' : Value} (h : vr al v v') : v'.category = v.category := by
  cases v with
  | int x => rw [show v' = .int x from h]
  | float x => obtain ⟨y, rfl, -⟩ := h; rfl
  | double x => obtain ⟨y, rfl, -⟩ := h; rfl
  | ref q => obtain ⟨a, -, rfl⟩ := h; rfl
  | null => rw [show v' = .null from h]
  | long x => rw [show v' = .long x from h]
  | retAddr x => exact h.elim
def sr (al : List Nat) : List Value → List Value → Prop
  | [], stM => stM = []
  | v :: st, stM => ∃ v' t, stM = v' :: t ∧ vr al v v' ∧ sr al st t
theorem sr_app {al l : List Nat} : ∀ {st stM : List Value}, sr al st stM → sr (al ++ l) st stM
  | [], _, h => h
  | _ :: _, _, ⟨v', t, h1, h2, h3⟩ => ⟨v', t, h1, vr_app h2, sr_app h3⟩
theorem sr_cat {al : List Nat} : ∀ {st stM : List Value}, sr al st stM → (stM.map fun v => v.category) = (st.map fun v => v.category)
  | [], _, h => by rw [show _ = [] from h]
  | v :: st, _, ⟨v', t, h1, h2, h3⟩ => by
    subst h1
    simp only [List.map_cons, vr_cat h2, sr_cat h3]
theorem sr_split {al : List Nat} : ∀ {a st stM : List Value}, sr al (a ++ st) stM → ∃ aM tM, stM = aM ++ tM ∧ sr al a aM ∧ sr al st tM
  | [], st, stM, h => ⟨[], stM, rfl, rfl, h⟩
  | v :: a, st, stM, ⟨v', t, h1, h2, h3⟩ => by
    obtain ⟨aM, tM, h4, h5, h6⟩ := sr_split (a := a) h3
    exact ⟨v' :: aM, tM, by rw [h1, h4]; rfl, ⟨v', aM, rfl, h2, h5⟩, h6⟩
theorem sr_join {al : List Nat} : ∀ {a st aM tM : List Value}, sr al a aM → sr al st tM → sr al (a ++ st) (aM ++ tM)
  | [], st, aM, tM, h, h2 => by rw [show aM = [] from h]; exact h2
  | v :: a, st, _, tM, ⟨v', t, h1, h2, h3⟩, h4 => ⟨v', t ++ tM, by rw [h1]; rfl, h2, sr_join h3 h4⟩
theorem sr_rev {al : List Nat} : ∀ {a aM : List Value}, sr al a aM → sr al a.reverse aM.reverse
  | [], aM, h => by rw [show aM = [] from h]; rfl
  | v :: a, _, ⟨v', t, h1, h2, h3⟩ => by
    subst h1
    rw [List.reverse_cons, List.reverse_cons]
    exact sr_join (sr_rev h3) ⟨v', [], rfl, h2, rfl⟩
theorem sr_get {al : List Nat} : ∀ {a aM : List Value} {k : Nat} {v : Value}, sr al a aM → a[k]? = some v → ∃ v', aM[k]? = some v' ∧ vr al v v'
  | [], _, k, v, _, hk => by simp at hk
  | u :: a, _, 0, v, ⟨v', t, h1, h2, _⟩, hk => by
    subst h1
    simp only [List.getElem?_cons_zero, Option.some.injEq] at hk
    subst hk
    exact ⟨v', by simp, h2⟩
  | u :: a, _, k + 1, v, ⟨v', t, h1, _, h3⟩, hk => by
    subst h1
    rw [List.getElem?_cons_succ] at hk
    obtain ⟨w, h4, h5⟩ := sr_get h3 hk
    exact ⟨w, by rw [List.getElem?_cons_succ]; exact h4, h5⟩
theorem sr_len {al : List Nat} : ∀ {a aM : List Value}, sr al a aM → aM.length = a.length
  | [], aM, h => by rw [show aM = [] from h]
  | v :: a, _, ⟨v', t, h1, _, h3⟩ => by
    subst h1
    simp [sr_len h3]
def lr (al : List Nat) (nL : Nat) (ls : List Value) (lsM : Array Slot) : Prop :=
  lsM.size = nL ∧ lv_wf lsM ∧ ls.length = nL ∧ ∀ (k : Nat) (v : Value), ls[k]? = some v → v = pJ ∨ ∃ v', vr al v v' ∧ lsM[k]? = some (Slot.val v')
theorem lr_app {al l : List Nat} {nL : Nat} {ls : List Value} {lsM : Array Slot} (h : lr al nL ls lsM) : lr (al ++ l) nL ls lsM :=
  ⟨h.1, h.2.1, h.2.2.1, fun k v hk => (h.2.2.2 k v hk).imp id fun ⟨v', h1, h2⟩ => ⟨v', vr_app h1, h2⟩⟩
theorem lr_get {al : List Nat} {nL : Nat} {ls : List Value} {lsM : Array Slot} (h : lr al nL ls lsM) {k : Nat} {v : Value} (hk : ls[k]? = some v) (hv : v ≠ pJ) : ∃ v', vr al v v' ∧ lsM[k]? = some (Slot.val v') := (h.2.2.2 k v hk).resolve_left hv
/-- all that the machine's locals hold, as the kit lists them -/
def lr_all (lsM : Array Slot) : List (Nat × Value) := (List.range lsM.size).filterMap fun k => match lsM[k]? with
  | some (Slot.val v) => some (k, v)
  | _ => none
theorem lr_mem {lsM : Array Slot} {k : Nat} {v : Value} : (k, v) ∈ lr_all lsM ↔ lsM[k]? = some (Slot.val v) := by
  unfold lr_all
  rw [List.mem_filterMap]
  constructor
  · rintro ⟨j, -, hj⟩
    split at hj
    · rename_i w hw
      cases hj
      exact hw
    · cases hj
  · intro h
    refine ⟨k, List.mem_range.mpr (Array.getElem?_eq_some_iff.mp h).1, ?_⟩
    rw [h]
theorem lr_has {al : List Nat} {nL : Nat} {ls : List Value} {lsM : Array Slot} (h : lr al nL ls lsM) : lv_has lsM nL (lr_all lsM) := ⟨h.1, h.2.1, fun q hq => lr_mem.mp hq⟩
/-- no value of two words at the place below -/
def lo2 (ls : List Value) (i : Nat) : Bool := match i with
  | 0 => true
  | j + 1 => match ls[j]? with
    | some w => w.category == 1
    | none => true
theorem lo2_ok {ls : List Value} {i : Nat} (h : lo2 ls i = true) : ∀ (j : Nat) (w : Value), ls[j]? = some w → j + 1 = i → w.category = 1 := by
  intro j w hj hi
  subst hi
  simpa [lo2, hj] using h
/-- a local of one word, written -/
theorem lr_set {al : List Nat} {nL : Nat} {ls : List Value} {lsM ls' : Array Slot} {i : Nat} {v v' : Value} (h : lr al nL ls lsM) (hv : vr al v v') (h2 : lv_has ls' nL ((i, v') :: (lr_all lsM).filter (fun q => !(q.1 == i) && !(q.1 + 1 == i && q.2.category == 2)))) (hi : ∀ (j : Nat) (w : Value), ls[j]? = some w → j + 1 = i → w.category = 1) : lr al nL (ls.set i v) ls' := by
  refine ⟨h2.1, h2.2.1, by rw [List.length_set]; exact h.2.2.1, fun k w hk => ?_⟩
  by_cases hki : i = k
  · subst hki
    have hlt : i < ls.length := by
      have := (List.getElem?_eq_some_iff.mp hk).1
      rwa [List.length_set] at this
    rw [List.getElem?_set_self hlt] at hk
    cases hk
    exact Or.inr ⟨v', hv, h2.2.2 _ List.mem_cons_self⟩
  · rw [List.getElem?_set_ne hki] at hk
    rcases h.2.2.2 k w hk with h3 | ⟨w', h3, h4⟩
    · exact Or.inl h3
    · by_cases hw : w = pJ
      · exact Or.inl hw
      refine Or.inr ⟨w', h3, h2.2.2 (k, w') (List.mem_cons_of_mem _ (List.mem_filter.mpr ⟨lr_mem.mpr h4, ?_⟩))⟩
      simp only [Bool.and_eq_true, Bool.not_eq_true', beq_eq_false_iff_ne, ne_eq, Bool.and_eq_false_imp, beq_iff_eq]
      refine ⟨fun z => hki z.symm, fun z => ?_⟩
      have h5 := hi k w hk z
      rw [vr_cat h3, h5]
      decide
/-- a local of two words, written -/
theorem lr_set2 {al : List Nat} {nL : Nat} {ls : List Value} {lsM ls' : Array Slot} {i : Nat} {v v' : Value} (h : lr al nL ls lsM) (hv : vr al v v') (h2 : lv_has ls' nL ((i, v') :: (lr_all lsM).filter (fun q => !(q.1 == i) && (!(q.1 == i + 1) && !(q.1 + 1 == i && q.2.category == 2))))) (hi : ∀ (j : Nat) (w : Value), ls[j]? = some w → j + 1 = i → w.category = 1) : lr al nL ((ls.set i v).set (i + 1) pJ) ls' := by
  refine ⟨h2.1, h2.2.1, by rw [List.length_set, List.length_set]; exact h.2.2.1, fun k w hk => ?_⟩
  by_cases hk1 : i + 1 = k
  · subst hk1
    have hlt : i + 1 < (ls.set i v).length := by
      have := (List.getElem?_eq_some_iff.mp hk).1
      rwa [List.length_set] at this
    rw [List.getElem?_set_self hlt] at hk
    cases hk
    exact Or.inl rfl
  rw [List.getElem?_set_ne hk1] at hk
  by_cases hki : i = k
  · subst hki
    have hlt : i < ls.length := by
      have := (List.getElem?_eq_some_iff.mp hk).1
      rwa [List.length_set] at this
    rw [List.getElem?_set_self hlt] at hk
    cases hk
    exact Or.inr ⟨v', hv, h2.2.2 _ List.mem_cons_self⟩
  · rw [List.getElem?_set_ne hki] at hk
    rcases h.2.2.2 k w hk with h3 | ⟨w', h3, h4⟩
    · exact Or.inl h3
    · by_cases hw : w = pJ
      · exact Or.inl hw
      refine Or.inr ⟨w', h3, h2.2.2 (k, w') (List.mem_cons_of_mem _ (List.mem_filter.mpr ⟨lr_mem.mpr h4, ?_⟩))⟩
      simp only [Bool.and_eq_true, Bool.not_eq_true', beq_eq_false_iff_ne, ne_eq, Bool.and_eq_false_imp, beq_iff_eq]
      refine ⟨fun z => hki z.symm, fun z => hk1 z.symm, fun z => ?_⟩
      have h5 := hi k w hk z
      rw [vr_cat h3, h5]
      decide
/-! the world -/
def ce (al : List Nat) (tys : List (ClassId × FieldType)) (σ : pT) (I : pI) (F : pF) (q : Nat) (e : va_E) : Prop :=
  (∀ c, (σ.2.1 q).1 = c + 1 → c < 8 → ∃ fs, e = .inr (c, fs) ∧ ∀ k, k < fN c → ∃ v', fs[k]? = some v' ∧ vr al (fv σ I F c q k) v') ∧
  ((σ.2.1 q).1 = 20 → ∃ cA f, e = .inl (cA, (σ.2.1 q).2, .inl f) ∧ (∃ t0 : Nat, tys[t0]? = some (cA, .int)) ∧ ∀ k, k < (σ.2.1 q).2 → f k = I q k) ∧
  ((σ.2.1 q).1 = 21 → ∃ cA f, e = .inl (cA, (σ.2.1 q).2, .inl f) ∧ (∃ t0 : Nat, tys[t0]? = some (cA, .char)) ∧ ∀ k, k < (σ.2.1 q).2 → f k = I q k) ∧
  ((σ.2.1 q).1 = 22 → ∃ cA f, e = .inl (cA, (σ.2.1 q).2, .inr (.inr (.inl f))) ∧ (∃ t0 : Nat, tys[t0]? = some (cA, .float)) ∧ ∀ k, k < (σ.2.1 q).2 → alike32 (f k) (F q k) = true) ∧
  (∀ c, (σ.2.1 q).1 = c + 30 → c < 8 → ∃ cA f, e = .inl (cA, (σ.2.1 q).2, .inr (.inr (.inr (.inr f)))) ∧ (∃ t0 : Nat, tys[t0]? = some (cA, .object (cnm c))) ∧ ∀ k, k < (σ.2.1 q).2 → vr al (rv (σ.2.2 q k)) (va_rf (f k)))
theorem ce_congr {al : List Nat} {tys : List (ClassId × FieldType)} {σ σ' : pT} {I I' : pI} {F F' : pF} {q : Nat} {e : va_E} (hK : σ'.2.1 q = σ.2.1 q) (hR : σ'.2.2 q = σ.2.2 q) (hI : I' q = I q) (hF : F' q = F q) (h : ce al tys σ I F q e) : ce al tys σ' I' F' q e := by
  have hfv : ∀ c k, fv σ' I' F' c q k = fv σ I F c q k := fun c k => by simp only [fv, hR, hI, hF]
  refine ⟨fun c h1 h2 => ?_, fun h1 => ?_, fun h1 => ?_, fun h1 => ?_, fun c h1 h2 => ?_⟩
  · obtain ⟨fs, e1, e2⟩ := h.1 c (by rw [← hK]; exact h1) h2
    exact ⟨fs, e1, fun k hk => by rw [hfv]; exact e2 k hk⟩
  · rw [hK, hI]; exact h.2.1 (by rw [← hK]; exact h1)
  · rw [hK, hI]; exact h.2.2.1 (by rw [← hK]; exact h1)
  · rw [hK, hF]; exact h.2.2.2.1 (by rw [← hK]; exact h1)
  · rw [hK, hR]; exact h.2.2.2.2 c (by rw [← hK]; exact h1) h2
theorem ce_app {al l : List Nat} {tys ts : List (ClassId × FieldType)} {σ : pT} {I : pI} {F : pF} {q : Nat} {e : va_E} (h : ce al tys σ I F q e) : ce (al ++ l) (tys ++ ts) σ I F q e := by
  have ht : ∀ {x : ClassId × FieldType}, (∃ t0 : Nat, tys[t0]? = some x) → ∃ t0 : Nat, (tys ++ ts)[t0]? = some x := by
    intro x ⟨t0, h0⟩
    refine ⟨t0, ?_⟩
    rw [List.getElem?_append_left (List.getElem?_eq_some_iff.mp h0).1]
    exact h0
  refine ⟨fun c h1 h2 => ?_, fun h1 => ?_, fun h1 => ?_, fun h1 => ?_, fun c h1 h2 => ?_⟩
  · obtain ⟨fs, e1, e2⟩ := h.1 c h1 h2
    exact ⟨fs, e1, fun k hk => by obtain ⟨v', a1, a2⟩ := e2 k hk; exact ⟨v', a1, vr_app a2⟩⟩
  · obtain ⟨cA, f, e1, e2, e3⟩ := h.2.1 h1
    exact ⟨cA, f, e1, ht e2, e3⟩
  · obtain ⟨cA, f, e1, e2, e3⟩ := h.2.2.1 h1
    exact ⟨cA, f, e1, ht e2, e3⟩
  · obtain ⟨cA, f, e1, e2, e3⟩ := h.2.2.2.1 h1
    exact ⟨cA, f, e1, ht e2, e3⟩
  · obtain ⟨cA, f, e1, e2, e3⟩ := h.2.2.2.2 c h1 h2
    exact ⟨cA, f, e1, ht e2, fun k hk => vr_app (e3 k hk)⟩
/-- the heap H of state U holds the pure world: ws its cells behind the script's (b), al all addresses by number -/
def wr (D : va_G) (base b : Nat) (al : List Nat) (σ : pT) (I : pI) (F : pF) (U : State) (H : Heap) : Prop :=
  ∃ (ws : va_W) (tys : List (ClassId × FieldType)), al = b :: ws.map Prod.fst ∧ ws.length = σ.1 ∧ va_P D vwCl ws H ∧ va_K D vwCl tys U ∧ va_D (fun q : Nat => base ≤ q) ws ∧
    (∀ (j a : Nat) (e : va_E), ws[j]? = some (a, e) → ce al tys σ I F (j + 1) e) ∧ (∀ j, (σ.2.1 (j + 1)).1 ≠ 0 → j < ws.length) ∧ (σ.2.1 0).1 = 99 ∧ b < base ∧ base ≤ H.size ∧ va_X b (σ.2.1 0).2 (I 0) U H
theorem wr_moved {D : va_G} {base b : Nat} {al : List Nat} {σ : pT} {I : pI} {F : pF} {u U : State} {H : Heap} (hvm : u.vm.Alike U.vm) (h : wr D base b al σ I F u H) : wr D base b al σ I F U H := by
  obtain ⟨ws, tys, h1, h2, h3, h4, h5, h6, h7, h8, h9, h10, h11⟩ := h
  exact ⟨ws, tys, h1, h2, h3, h4.moved hvm, h5, h6, h7, h8, h9, h10, h11.moved hvm⟩
theorem wr_al {b : Nat} {al : List Nat} {ws : va_W} {j a : Nat} {e : va_E} (h : al = b :: ws.map Prod.fst) (hj : ws[j]? = some (a, e)) : al[j + 1]? = some a := by
  rw [h, List.getElem?_cons_succ, List.getElem?_map, hj]
  rfl
theorem map_fst_set {ws : va_W} {j a : Nat} {e e' : va_E} (hj : ws[j]? = some (a, e)) : (ws.set j (a, e')).map Prod.fst = ws.map Prod.fst := by
  apply List.ext_getElem?
  intro i
  rw [List.getElem?_map, List.getElem?_map]
  by_cases h : j = i
  · subst h
    rw [List.getElem?_set_self (List.getElem?_eq_some_iff.mp hj).1, hj]
    rfl
  · rw [List.getElem?_set_ne h]
/-- where a cell that is not the script's lies -/
theorem wr_cell {D : va_G} {base b : Nat} {al : List Nat} {σ : pT} {I : pI} {F : pF} {U : State} {H : Heap} {ws : va_W} {tys : List (ClassId × FieldType)} {q a : Nat} (h1 : al = b :: ws.map Prod.fst) (h6 : ∀ (j a : Nat) (e : va_E), ws[j]? = some (a, e) → ce al tys σ I F (j + 1) e) (h7 : ∀ j, (σ.2.1 (j + 1)).1 ≠ 0 → j < ws.length) (h8 : (σ.2.1 0).1 = 99) (hk : (σ.2.1 q).1 ≠ 99) (hk0 : (σ.2.1 q).1 ≠ 0) (ha : al[q]? = some a) : ∃ j e, q = j + 1 ∧ ws[j]? = some (a, e) ∧ ce al tys σ I F q e := by
  cases q with
  | zero => exact absurd h8 hk
  | succ j =>
    have hj := h7 j hk0
    obtain ⟨e1, he1⟩ : ∃ e1, ws[j]? = some e1 := ⟨ws[j], List.getElem?_eq_getElem hj⟩
    obtain ⟨a1, e⟩ := e1
    have h2 := wr_al h1 he1
    rw [ha] at h2
    cases h2
    exact ⟨j, e, rfl, he1, h6 j a e he1⟩
/-- a cell of the world was written -/
theorem wr_set {D : va_G} {base b : Nat} {al : List Nat} {σ σ' : pT} {I I' : pI} {F F' : pF} {U : State} {H H1 H0 : Heap} {locs locs1 : List Loc} {ws : va_W} {tys : List (ClassId × FieldType)} {j a : Nat} {e e' : va_E} (h1 : al = b :: ws.map Prod.fst) (h2 : ws.length = σ.1) (h4 : va_K D vwCl tys U)
    (h6 : ∀ (j a : Nat) (e : va_E), ws[j]? = some (a, e) → ce al tys σ I F (j + 1) e) (h7 : ∀ j, (σ.2.1 (j + 1)).1 ≠ 0 → j < ws.length) (h8 : (σ.2.1 0).1 = 99) (h9 : b < base) (h10 : base ≤ H0.size) (h11 : va_X b (σ.2.1 0).2 (I 0) U H)
    (hj : ws[j]? = some (a, e)) (hP : va_P D vwCl (ws.set j (a, e')) H1) (hD : va_D (fun q : Nat => base ≤ q) (ws.set j (a, e'))) (hS0 : va_S (fun q : Nat => base ≤ q) H0 H locs) (hS : va_S (fun q : Nat => base ≤ q) H0 H1 locs1) (e1 : σ'.1 = σ.1) (e2 : σ'.2.1 = σ.2.1) (hR : ∀ q, q ≠ j + 1 → σ'.2.2 q = σ.2.2 q) (hI : ∀ q, q ≠ j + 1 → I' q = I q) (hF : ∀ q, q ≠ j + 1 → F' q = F q) (hc : ce al tys σ' I' F' (j + 1) e') : wr D base b al σ' I' F' U H1 := by
  have hl := (List.getElem?_eq_some_iff.mp hj).1
  refine ⟨ws.set j (a, e'), tys, by rw [map_fst_set hj]; exact h1, by rw [List.length_set, e1]; exact h2, hP, h4, hD, fun i a' x hx => ?_, fun i hi => by rw [List.length_set]; rw [e2] at hi; exact h7 i hi, by rw [e2]; exact h8, h9, Nat.le_trans h10 hS.1, ?_⟩
  · by_cases hij : j = i
    · subst hij
      rw [List.getElem?_set_self hl] at hx
      cases hx
      exact hc
    · rw [List.getElem?_set_ne hij] at hx
      exact ce_congr (by rw [e2]) (hR _ (by omega)) (hI _ (by omega)) (hF _ (by omega)) (h6 i a' x hx)
  · rw [e2, hI 0 (by omega)]
    have hb0 : b < H0.size := Nat.lt_of_lt_of_le h9 h10
    exact h11.kept ((hS.2.1 b hb0 (Nat.not_le.mpr h9)).trans (hS0.2.1 b hb0 (Nat.not_le.mpr h9)).symm)
/-- a cell was made -/
theorem wr_push {D : va_G} {base b : Nat} {al : List Nat} {σ σ' : pT} {I I' : pI} {F F' : pF} {U : State} {H H1 H0 : Heap} {locs : List Loc} {ws : va_W} {tys ts : List (ClassId × FieldType)} {a : Nat} {e : va_E} (h1 : al = b :: ws.map Prod.fst) (h2 : ws.length = σ.1)
    (h6 : ∀ (j a : Nat) (e : va_E), ws[j]? = some (a, e) → ce al tys σ I F (j + 1) e) (h7 : ∀ j, (σ.2.1 (j + 1)).1 ≠ 0 → j < ws.length) (h8 : (σ.2.1 0).1 = 99) (h9 : b < base) (h10 : base ≤ H0.size) (h11 : va_X b (σ.2.1 0).2 (I 0) U H)
    (h4 : va_K D vwCl (tys ++ ts) U) (hP : va_P D vwCl (ws ++ [(a, e)]) H1) (hD : va_D (fun q : Nat => base ≤ q) (ws ++ [(a, e)])) (hS0 : va_S (fun q : Nat => base ≤ q) H0 H locs) (hS : va_S (fun q : Nat => base ≤ q) H0 H1 locs) (e1 : σ'.1 = σ.1 + 1) (hK : ∀ q, q ≠ σ.1 + 1 → σ'.2.1 q = σ.2.1 q) (hR : ∀ q, q ≠ σ.1 + 1 → σ'.2.2 q = σ.2.2 q) (hI : ∀ q, q ≠ σ.1 + 1 → I' q = I q) (hF : ∀ q, q ≠ σ.1 + 1 → F' q = F q) (hc : ce (al ++ [a]) (tys ++ ts) σ' I' F' (σ.1 + 1) e) : wr D base b (al ++ [a]) σ' I' F' U H1 ∧ (al ++ [a])[σ.1 + 1]? = some a := by
  refine ⟨⟨ws ++ [(a, e)], tys ++ ts, by rw [h1, List.map_append]; rfl, by rw [List.length_append, e1, h2]; rfl, hP, h4, hD, fun i a' x hx => ?_, fun i hi => ?_, by rw [hK 0 (by omega)]; exact h8, h9, Nat.le_trans h10 hS.1, ?_⟩, ?_⟩
  · by_cases hi : i < ws.length
    · rw [List.getElem?_append_left hi] at hx
      exact ce_congr (hK _ (by omega)) (hR _ (by omega)) (hI _ (by omega)) (hF _ (by omega)) (ce_app (h6 i a' x hx))
    · rw [List.getElem?_append_right (by omega)] at hx
      have hz : i - ws.length < 1 := (List.getElem?_eq_some_iff.mp hx).1
      have hi0 : i = ws.length := by omega
      subst hi0
      rw [Nat.sub_self] at hx
      cases hx
      rw [h2]
      exact hc
  · rw [List.length_append, List.length_singleton]
    by_cases hi0 : i + 1 = σ.1 + 1
    · omega
    · rw [hK _ hi0] at hi
      have := h7 i hi
      omega
  · rw [hK 0 (by omega), hI 0 (by omega)]
    have hb0 : b < H0.size := Nat.lt_of_lt_of_le h9 h10
    exact h11.kept ((hS.2.1 b hb0 (Nat.not_le.mpr h9)).trans (hS0.2.1 b hb0 (Nat.not_le.mpr h9)).symm)
  · rw [List.getElem?_append_right (by rw [h1]; simp; omega), h1]
    simp [h2]
/-- the words that have a way of their own hold -/
def spW (U : State) : Prop := (∀ q ∈ spN, va_Nw (.methodLinkNest q.1 q.2.1 q.2.2.1 q.2.2.2) U) ∧ ∀ C ∈ spA, va_AO C U
theorem spW_warm {s U : State} (hW : s.WarmedH U.vm) (h : spW s) : spW U := ⟨fun q hq => va_Nw.warmM hW (h.1 q hq), fun C hC => (h.2 C hC).moved hW.alike⟩
theorem spW_vm {u U : State} (hvm : u.vm = U.vm) (h : spW u) : spW U := ⟨fun q hq => va_Nw.same rfl hvm (h.1 q hq), fun C hC => (h.2 C hC).moved (by rw [hvm]; exact Vm.Alike.refl _)⟩
/-! the judgement: from here on, in any machine that holds the pure world, the method comes to the end that Z tells -/
abbrev pZ : Type := va_G → Nat → Nat → List Nat → List Frame → Array Value → State → Room → State → Prop
def cx (cc : ByteArray) (Y : mB) (base : Nat) (p : Program) (R : Room) (s : State) (m : MethodId) (args : Array Value) (meth : Method) (c : Code) : Prop :=
  p.tables.exec = Jvm.exec ∧ c.code = cc ∧ meth.sig.returnType = Y.2.2.1 ∧ (∀ w ∈ wsA, w.before args s = true) ∧ s.vm.findClass Y.1 = some m.cls ∧ meth.locks = false ∧ c.maxLocals = Y.2.1 ∧ R.frames = Y.2.2.2.1 ∧ R.locals = Y.2.2.2.2.1 ∧ base ≤ s.heap.size ∧ spW s ∧ (Y.2.2.2.2.2 = true → meth.name = "<init>")
def PW (cc : ByteArray) (Y : mB) (Z : pZ) (pc : Nat) (ls st : List Value) (σ : pT) (I : pI) (F : pF) (β : Nat × Nat) : Prop :=
  ∀ (p : Program) (l : Launch) (e : Env) (R : Room) (s : State) (m : MethodId) (args : Array Value) (below : List Frame) (meth : Method) (c : Code) (D : va_G) (base b : Nat) (al0 l0 : List Nat) (d0 : Drawn) (H : Heap) (locs : List Loc) (cells slots : Nat) (lsM : Array Slot) (stM : List Value),
    cx cc Y base p R s m args meth c → s.drawn.sameBut d0 lw_cs → lr (al0 ++ l0) Y.2.1 ls lsM → sr (al0 ++ l0) st stM → wr D base b (al0 ++ l0) σ I F s H → va_S (fun q : Nat => base ≤ q) s.heap H locs → cells + β.1 ≤ R.cells → slots + β.2 ≤ R.slots →
      W p l e R (s.setDrawn d0) m args below meth c H locs cells slots (Z D base b al0 below args s R) (F0 m pc lsM stM)
def vro (al : List Nat) (v v' : Option Value) : Prop := match v with
  | some x => ∃ x', v' = some x' ∧ vr al x x'
  | none => v' = none
abbrev pQ : Type := Option Value → pT → pI → pF → Prop
def qcOf (D : va_G) (base b : Nat) (al0 : List Nat) (Post : pQ) : Array Value → State → Outcome → State → Prop := fun _ st o t =>
  (∃ (v v' : Option Value) (l : List Nat) (σ : pT) (I : pI) (F : pF), o = .returned v' ∧ vro (al0 ++ l) v v' ∧ Post v σ I F ∧ wr D base b (al0 ++ l) σ I F t t.heap) ∧ va_F (fun q : Nat => base ≤ q) st t
def fM (Post : pQ) : pZ := fun D base b al0 below args s R => MQD lw_cs below (qcOf D base b al0 Post) args s R.cells R.slots (fun q : Nat => base ≤ q)
abbrev pPc (D : va_G) (base b : Nat) (al : List Nat) (σ : pT) (I : pI) (F : pF) (asM : List Value) : Array Value → State → Prop := va_Pc asM (fun U => base ≤ U.heap.size ∧ spW U ∧ wr D base b al σ I F U U.heap)
abbrev pWs (y : MethodName) (cc : ByteArray) (Y : mB) : List Cond := Cond.code y cc Y.2.1 Y.2.2.1 :: wsA
abbrev pRm (Y : mB) (β : Nat × Nat) : Room := { frames := Y.2.2.2.1, cells := β.1, slots := β.2, locals := Y.2.2.2.2.1 }
/-- a method's contract over the pure world -/
def PM (y : MethodName) (cc : ByteArray) (Y : mB) (β : Nat × Nat) (as : List Value) (σ : pT) (I : pI) (F : pF) (Post : pQ) : Prop :=
  ∀ (l : Launch) (D : va_G) (base b : Nat) (al : List Nat) (asM : List Value), sr al as asM →
    MetD lw_cs l y (pWs y cc Y) (pRm Y β) (pPc D base b al σ I F asM) (qcOf D base b al Post) β.1 β.2 (fun q : Nat => base ≤ q)
theorem PM.imp {y : MethodName} {cc : ByteArray} {Y : mB} {β : Nat × Nat} {as : List Value} {σ : pT} {I : pI} {F : pF} {P P' : pQ} (h : PM y cc Y β as σ I F P) (hp : ∀ v σ' I' F', P v σ' I' F' → P' v σ' I' F') : PM y cc Y β as σ I F P' := by
  intro l D base b al asM hs p e ha hc hk s m args below hf happ hP hK
  obtain ⟨n, o, h1, h2, h3, d, h4, ⟨⟨v, v', l', σ', I', F', q1, q2, q3, q4⟩, h5⟩, h6⟩ := h l D base b al asM hs p e ha hc hk s m args below hf happ hP hK
  exact ⟨n, o, h1, h2, h3, d, h4, ⟨⟨v, v', l', σ', I', F', q1, q2, hp _ _ _ _ q3, q4⟩, h5⟩, h6⟩
theorem wsL_at {w : Cond} (i : Nat) (h : wsA[i]? = some w) : w ∈ wsA := List.mem_of_getElem? h
theorem lv_args_mem : ∀ (vs : List Value) (i : Nat), (∀ v ∈ vs, v.category = 1) → ∀ (k : Nat) (v : Value), vs[k]? = some v → (i + k, v) ∈ lv_args i vs
  | [], i, _, k, v, h => by simp at h
  | u :: vs, i, hc, 0, v, h => by
    simp only [List.getElem?_cons_zero, Option.some.injEq] at h
    subst h
    exact List.mem_cons_self
  | u :: vs, i, hc, k + 1, v, h => by
    rw [List.getElem?_cons_succ] at h
    have h1 : ¬ u.category = 2 := by rw [hc u List.mem_cons_self]; decide
    show (i + (k + 1), v) ∈ (i, u) :: lv_args (if u.category = 2 then i + 2 else i + 1) vs
    rw [if_neg h1]
    have h2 := lv_args_mem vs (i + 1) (fun w hw => hc w (List.mem_cons_of_mem _ hw)) k v h
    rw [show i + (k + 1) = i + 1 + k by omega]
    exact List.mem_cons_of_mem _ h2
theorem lg_sl_len : ∀ (vs : List Value), (∀ v ∈ vs, v.category = 1) → (lg_sl vs).length = vs.length
  | [], _ => rfl
  | u :: vs, hc => by
    have h1 : ¬ u.category = 2 := by rw [hc u List.mem_cons_self]; decide
    have h2 := lg_sl_len vs (fun w hw => hc w (List.mem_cons_of_mem _ hw))
    unfold lg_sl at h2 ⊢
    rw [List.flatMap_cons, if_neg h1, List.length_append, h2]
    simp [Nat.add_comm]
theorem sr_cats {al : List Nat} {as asM : List Value} (h : sr al as asM) (hc : ∀ v ∈ as, v.category = 1) : ∀ v ∈ asM, v.category = 1 := by
  intro v hv
  obtain ⟨k, hk⟩ := List.getElem?_of_mem hv
  have hl := (List.getElem?_eq_some_iff.mp hk).1
  rw [sr_len h] at hl
  obtain ⟨u, hu⟩ : ∃ u, as[k]? = some u := ⟨as[k], List.getElem?_eq_getElem hl⟩
  obtain ⟨w, h1, h2⟩ := sr_get h hu
  rw [hk] at h1
  cases h1
  rw [vr_cat h2]
  exact hc u (List.mem_of_getElem? hu)
theorem lr_entry {al : List Nat} {as asM : List Value} {nL : Nat} (h : sr al as asM) (hc : ∀ v ∈ as, v.category = 1) (hn : as.length ≤ nL) :
    lr al nL (as ++ List.replicate (nL - as.length) pJ) ((lg_sl asM ++ List.replicate (nL - (lg_sl asM).length) Slot.unset).toArray) := by
  have hcM := sr_cats h hc
  have hlen : (lg_sl asM).length = as.length := by rw [lg_sl_len asM hcM, sr_len h]
  have hE := lv_entry asM (n := nL) (by rw [hlen]; exact hn)
  refine ⟨hE.1, hE.2.1, by simp; omega, fun k v hk => ?_⟩
  by_cases hl : k < as.length
  · rw [List.getElem?_append_left hl] at hk
    obtain ⟨v', h1, h2⟩ := sr_get h hk
    refine Or.inr ⟨v', h2, ?_⟩
    have h3 := hE.2.2 _ (lv_args_mem asM 0 hcM k v' h1)
    rwa [Nat.zero_add] at h3
  · rw [List.getElem?_append_right (by omega), List.getElem?_replicate] at hk
    split at hk
    · cases hk; exact Or.inl rfl
    · cases hk
theorem PM.of {y : MethodName} {cc : ByteArray} {Y : mB} {β : Nat × Nat} {as : List Value} {σ : pT} {I : pI} {F : pF} {Post : pQ} (hy : plainName y.cls = true ∧ y.cls = Y.1 ∧ (Y.2.2.2.2.2 = true → y.name = "<init>")) (hcat : ∀ v ∈ as, v.category = 1) (hn : as.length ≤ Y.2.1)
    (k : PW cc Y (fM Post) 0 (as ++ List.replicate (Y.2.1 - as.length) pJ) [] σ I F β) : PM y cc Y β as σ I F Post := by
  intro l D base b al asM hs
  refine MetD.ofW (cc := cc) (maxL := Y.2.1) (ret := Y.2.2.1) hy.1 rfl ?_
  intro p e s m args below meth c s₁ B hml hv hd0
  obtain ⟨rfl, hsz, hsp, hw⟩ := hv
  have hts0 := atoms_spec (ws := pWs y cc Y) B.pre
  have hts : ∀ w ∈ wsA, w.before asM.toArray s = true := fun w h => hts0 w (List.mem_cons_of_mem _ h)
  have hown : s.vm.findClass Y.1 = some m.cls := by rw [← hy.2.1]; exact findClass_of_methodNamed B.named
  rw [lg_entry_eq]
  refine k p l e _ s m _ below meth c D base b al [] s.drawn s.heap [] 0 0 _ [] ⟨B.exec, B.bytes, B.returns, hts, hown, B.notSynchronized, hml, rfl, rfl, hsz, hsp, fun h => ?_⟩ (Drawn.sameBut.refl _ _) (by rw [List.append_nil]; exact lr_entry hs hcat hn) rfl (by rw [List.append_nil]; exact hw) va_S.rf (by simp [headSpec]) (by simp [headSpec])
  exact (name_of_methodNamed B.named B.method).1.trans (hy.2.2 h)
theorem pw_blind {D : va_G} {base b : Nat} {al : List Nat} {σ : pT} {I : pI} {F : pF} {asM : List Value} : FrameBlind (pPc D base b al σ I F asM) := by
  intro a U g mk h
  obtain ⟨h1, h2, hsp, h3⟩ := h
  exact ⟨h1, h2, spW_vm (u := U) (U := U.calling g mk a) rfl hsp, wr_moved (u := U) (U := U.calling g mk a) (Vm.Alike.refl U.vm) h3⟩
/-- what a call comes back with -/
theorem pw_back {p : Program} {l : Launch} {e : Env} {R : Room} {s : State} {m : MethodId} {args : Array Value} {below : List Frame} {meth : Method} {c : Code} {H H0 : Heap} {locs : List Loc} {cells slots mc ms : Nat} {Q : State → Prop} {pc : Nat} {ls : Array Slot} {rest st0 : List Value} {Qa : State → Outcome → State → Prop} {A : Nat → Prop}
    (hr : va_RunD lw_cs p l e R s m args below meth c H locs cells slots mc ms (F0 m pc ls st0) rest Qa A) (hS : va_S A H0 H locs) (hQ : ∀ st o t, Qa st o t → va_F A st t)
    (kk : ∀ (v : Option Value) (st₀ t : State) (H1 : Heap) (locs1 : List Loc) (d' : Drawn), st₀.heap = H → t.heap = H1 → s.vm.Alike t.vm → Qa st₀ (.returned v) t → va_S A H0 H1 locs1 → s.drawn.sameBut d' lw_cs → W p l e R (s.setDrawn d') m args below meth c H1 locs1 (cells + mc) (slots + ms) Q (F0 m (pc + 3) ls (v.toList ++ rest))) : W p l e R s m args below meth c H locs cells slots Q (F0 m pc ls st0) := by
  intro T hT X
  obtain ⟨v, st₀, t, T', L, d', hd', h0, X', hL, e1, e2, hq, st⟩ := hr T hT X
  obtain ⟨hz, hk⟩ := hQ _ _ _ hq
  rw [h0] at hz hk
  obtain ⟨t2, a1, b1⟩ := kk v st₀ t T'.heap (locs ++ L) d' h0 e1.symm (by rw [← e2]; exact X'.warmed.alike) hq
    ⟨Nat.le_trans hS.1 (by rw [e1]; exact hz), fun q h1 h2 => by rw [e1, hk q (Nat.lt_of_lt_of_le h1 hS.1) h2]; exact hS.2.1 q h1 h2, fun q hq => by
      rcases List.mem_append.mp hq with h | h
      · exact hS.2.2 q h
      · exact hL q h⟩ hd' T' rfl X'
  exact ⟨t2, st t2 a1, b1⟩
theorem qc_F {D : va_G} {base b : Nat} {al0 : List Nat} {Post : pQ} {a : Array Value} (st : State) (o : Outcome) (t : State) (h : qcOf D base b al0 Post a st o t) : va_F (fun q : Nat => base ≤ q) st t := h.2
theorem vro_sr {al : List Nat} {v v' : Option Value} {st stM : List Value} (h : vro al v v') (hs : sr al st stM) : sr al (v.toList ++ st) (v'.toList ++ stM) := by
  cases v with
  | none => rw [show v' = none from h]; exact hs
  | some x =>
    obtain ⟨x', rfl, h1⟩ := h
    exact ⟨x', stM, rfl, h1, hs⟩
/-- a callee as the words tell it: name, code, what it returns; its parameters -/
def mOK (y : MethodName) (cc : ByteArray) (Y : mB) (n : Nat) : Prop :=
  Cond.code y cc Y.2.1 Y.2.2.1 ∈ wsA ∧ Cond.initialized y.cls ∈ wsA ∧ y.cls ≠ "java/lang/invoke/MethodHandle" ∧ y.cls ≠ "java/lang/invoke/VarHandle" ∧ (parseMethodDescriptor y.desc).map (fun d => d.parameters.length) = some n
def mOKV (y : MethodName) (cc : ByteArray) (Y : mB) (n ci : Nat) : Prop :=
  mOK y cc Y n ∧ Cond.instanceMethod y ∈ wsA ∧ Cond.selects y.cls y y ∈ wsA ∧ ci < 8 ∧ (∃ q, vwCl[ci]? = some q ∧ q.1 = y.cls)
def mOKS (y : MethodName) (cc : ByteArray) (Y : mB) (n : Nat) : Prop := mOK y cc Y n ∧ Cond.static y ∈ wsA
def mOKI (y : MethodName) (cc : ByteArray) (Y : mB) (n : Nat) : Prop := mOK y cc Y n ∧ Cond.instanceMethod y ∈ wsA ∧ y.name = "<init>" ∧ Y.2.2.1 = none
section PC
variable {cc : ByteArray} {Y : mB} {Z : pZ} {pc : Nat} {ls st : List Value} {σ : pT} {I : pI} {F : pF} {β : Nat × Nat}
theorem pw_callV {y : MethodName} {cy : ByteArray} {Yy : mB} {βy : Nat × Nat} {n ci idx q : Nat} {as : List Value} {Post : pQ} {stk : List Value} (hdg : decode cc pc = .ok (.invokevirtual idx, 3)) (hy : mOKV y cy Yy n ci) (hl : Cond.methodLink Y.1 idx y ∈ wsA) (hM : PM y cy Yy βy (.ref q :: as) σ I F Post)
    (hq : (σ.2.1 q).1 = ci + 1) (hn : as.length = n) (hst : stk = as.reverse ++ .ref q :: st) (hcat : (st.map fun v => v.category).sum ≤ 8) (hR : Yy.2.2.2.1 + 1 ≤ Y.2.2.2.1 ∧ 8 + (Yy.2.1 + 11) + Yy.2.2.2.2.1 ≤ Y.2.2.2.2.1) (hβ : βy.1 ≤ β.1 ∧ βy.2 ≤ β.2)
    (k : ∀ v σ' I' F', Post v σ' I' F' → PW cc Y Z (pc + 3) ls (v.toList ++ st) σ' I' F' (β.1 - βy.1, β.2 - βy.2)) : PW cc Y Z pc ls stk σ I F β := by
  subst hst
  intro p l e R s m args below meth c D base b al0 l0 d0 H locs cells slots lsM stM hc hd hls hs hw hS hk1 hk2
  obtain ⟨hx, hb, hr, hts, hown, hlk, hml, hrf, hrl, hbs, hsp, -⟩ := id hc
  obtain ⟨aM, t1, rfl, ha, a', tM, rfl, ⟨a, haq, rfl⟩, hst⟩ : ∃ aM t1, stM = aM ++ t1 ∧ sr (al0 ++ l0) as.reverse aM ∧ sr (al0 ++ l0) (.ref q :: st) t1 := sr_split hs
  obtain ⟨⟨hcode, hini, hmh, hvh, hpn⟩, hinst, hsel, hci, ⟨vq, hvq, hvn⟩⟩ := hy
  obtain ⟨ws, tys, g1, g2, g3, g4, g5, g6, g7, g8, g9, g10, g11⟩ := id hw
  obtain ⟨j, en, hj, hjw, hce⟩ := wr_cell (D := D) (base := base) (b := b) (U := s) (H := H) g1 g6 g7 g8 (by rw [hq]; omega) (by rw [hq]; omega) haq
  obtain ⟨fs, rfl, -⟩ := hce.1 ci hq hci
  have hasr := sr_rev ha
  rw [List.reverse_reverse] at hasr
  have hts' := dr_words hts d0
  have hG : GoodIn wsA (pWs y cy Yy) := fun w h => by
    rcases List.mem_cons.mp h with rfl | h
    · exact ⟨hcode, wsA_gd _ hcode⟩
    · exact ⟨h, wsA_gd _ h⟩
  have hCB : CallB R (s.setDrawn d0) args Y.1 idx y cy Yy.2.1 Yy.2.2.1 (pWs y cy Yy) (pRm Yy βy) βy.1 βy.2 n := callB_of n hts' hG rfl rfl rfl (hts' _ hini) (hts' _ hl) ⟨hmh, hvh, hpn⟩ ⟨by rw [hrf]; exact hR.1, by rw [hrl]; exact hR.2⟩
  refine pw_back (va_runV_D (cs := lw_cs) (As := aM.reverse) (rest := tM) (C := y.cls) ⟨hx, hb, hml, hown, hts'⟩ (hM l D base b (al0 ++ l0) (.ref a :: aM.reverse) ⟨_, _, rfl, ⟨a, haq, rfl⟩, hasr⟩) ⟨hCB, hts' _ hinst, hts' _ hsel⟩ ⟨pw_blind, by rw [← hvn]; exact va_recv g4 g3 hvq hjw, fun U hU hW => ⟨rfl, by rw [hU]; exact g10, spW_warm hW hsp, by rw [hU]; exact wr_moved hW.alike hw⟩⟩ rfl (by rw [List.length_reverse, sr_len ha, List.length_reverse]; exact hn) hls.1 (by rw [List.reverse_reverse]) (lv_room (by rw [sr_cat hst]; exact hcat)) hdg ⟨by omega, by omega⟩) hS qc_F ?_
  intro v st₀ t H1 locs1 d' h0 ht hvm ⟨⟨vp, v', l', σ', I', F', e1, e2, e3, e4⟩, hF⟩ hS1 hd1
  cases e1
  rw [List.append_assoc] at e2 e4
  have := k vp σ' I' F' e3 p l e R s m args below meth c D base b al0 (l0 ++ l') d' H1 locs1 (cells + βy.1) (slots + βy.2) lsM (v.toList ++ tM) hc (hd.trans hd1) (by rw [← List.append_assoc]; exact lr_app hls) (vro_sr e2 (by rw [← List.append_assoc]; exact sr_app hst)) (by rw [ht] at e4; exact wr_moved hvm.symm e4) hS1 (by show cells + βy.1 + (β.1 - βy.1) ≤ _; omega) (by show slots + βy.2 + (β.2 - βy.2) ≤ _; omega)
  exact this
theorem pw_callS {y : MethodName} {cy : ByteArray} {Yy : mB} {βy : Nat × Nat} {n idx : Nat} {as : List Value} {Post : pQ} {stk : List Value} (hdg : decode cc pc = .ok (.invokestatic idx, 3)) (hy : mOKS y cy Yy n) (hl : Cond.methodLink Y.1 idx y ∈ wsA) (hM : PM y cy Yy βy as σ I F Post)
    (hn : as.length = n) (hst : stk = as.reverse ++ st) (hcat : (st.map fun v => v.category).sum ≤ 8) (hR : Yy.2.2.2.1 + 1 ≤ Y.2.2.2.1 ∧ 8 + (Yy.2.1 + 11) + Yy.2.2.2.2.1 ≤ Y.2.2.2.2.1) (hβ : βy.1 ≤ β.1 ∧ βy.2 ≤ β.2)
    (k : ∀ v σ' I' F', Post v σ' I' F' → PW cc Y Z (pc + 3) ls (v.toList ++ st) σ' I' F' (β.1 - βy.1, β.2 - βy.2)) : PW cc Y Z pc ls stk σ I F β := by
  subst hst
  intro p l e R s m args below meth c D base b al0 l0 d0 H locs cells slots lsM stM hc hd hls hs hw hS hk1 hk2
  obtain ⟨hx, hb, hr, hts, hown, hlk, hml, hrf, hrl, hbs, hsp, -⟩ := id hc
  obtain ⟨aM, tM, rfl, ha, hst⟩ : ∃ aM t1, stM = aM ++ t1 ∧ sr (al0 ++ l0) as.reverse aM ∧ sr (al0 ++ l0) st t1 := sr_split hs
  obtain ⟨⟨hcode, hini, hmh, hvh, hpn⟩, hstat⟩ := hy
  obtain ⟨ws, tys, g1, g2, g3, g4, g5, g6, g7, g8, g9, g10, g11⟩ := id hw
  have hasr := sr_rev ha
  rw [List.reverse_reverse] at hasr
  have hts' := dr_words hts d0
  have hG : GoodIn wsA (pWs y cy Yy) := fun w h => by
    rcases List.mem_cons.mp h with rfl | h
    · exact ⟨hcode, wsA_gd _ hcode⟩
    · exact ⟨h, wsA_gd _ h⟩
  have hCB : CallB R (s.setDrawn d0) args Y.1 idx y cy Yy.2.1 Yy.2.2.1 (pWs y cy Yy) (pRm Yy βy) βy.1 βy.2 n := callB_of n hts' hG rfl rfl rfl (hts' _ hini) (hts' _ hl) ⟨hmh, hvh, hpn⟩ ⟨by rw [hrf]; exact hR.1, by rw [hrl]; exact hR.2⟩
  refine pw_back (va_runS_D (cs := lw_cs) (As := aM.reverse) (rest := tM) ⟨hx, hb, hml, hown, hts'⟩ (hM l D base b (al0 ++ l0) aM.reverse hasr) ⟨hCB, hts' _ hstat⟩ ⟨pw_blind, fun U hU hW => ⟨rfl, by rw [hU]; exact g10, spW_warm hW hsp, by rw [hU]; exact wr_moved hW.alike hw⟩⟩ rfl (by rw [List.length_reverse, sr_len ha, List.length_reverse]; exact hn) hls.1 (by rw [List.reverse_reverse]) (lv_room (by rw [sr_cat hst]; exact hcat)) hdg ⟨by omega, by omega⟩) hS qc_F ?_
  intro v st₀ t H1 locs1 d' h0 ht hvm ⟨⟨vp, v', l', σ', I', F', e1, e2, e3, e4⟩, hF⟩ hS1 hd1
  cases e1
  rw [List.append_assoc] at e2 e4
  have := k vp σ' I' F' e3 p l e R s m args below meth c D base b al0 (l0 ++ l') d' H1 locs1 (cells + βy.1) (slots + βy.2) lsM (v.toList ++ tM) hc (hd.trans hd1) (by rw [← List.append_assoc]; exact lr_app hls) (vro_sr e2 (by rw [← List.append_assoc]; exact sr_app hst)) (by rw [ht] at e4; exact wr_moved hvm.symm e4) hS1 (by show cells + βy.1 + (β.1 - βy.1) ≤ _; omega) (by show slots + βy.2 + (β.2 - βy.2) ≤ _; omega)
  exact this
theorem pw_callI {y : MethodName} {cy : ByteArray} {Yy : mB} {βy : Nat × Nat} {n idx q : Nat} {as : List Value} {Post : pQ} {stk : List Value} (hdg : decode cc pc = .ok (.invokespecial idx, 3)) (hy : mOKI y cy Yy n) (hl : Cond.methodLink Y.1 idx y ∈ wsA) (hM : PM y cy Yy βy (.ref q :: as) σ I F Post)
    (hn : as.length = n) (hst : stk = as.reverse ++ .ref q :: st) (hcat : (st.map fun v => v.category).sum ≤ 8) (hR : Yy.2.2.2.1 + 1 ≤ Y.2.2.2.1 ∧ 8 + (Yy.2.1 + 11) + Yy.2.2.2.2.1 ≤ Y.2.2.2.2.1) (hβ : βy.1 ≤ β.1 ∧ βy.2 ≤ β.2)
    (k : ∀ v σ' I' F', Post v σ' I' F' → PW cc Y Z (pc + 3) ls (v.toList ++ st) σ' I' F' (β.1 - βy.1, β.2 - βy.2)) : PW cc Y Z pc ls stk σ I F β := by
  subst hst
  intro p l e R s m args below meth c D base b al0 l0 d0 H locs cells slots lsM stM hc hd hls hs hw hS hk1 hk2
  obtain ⟨hx, hb, hr, hts, hown, hlk, hml, hrf, hrl, hbs, hsp, -⟩ := id hc
  obtain ⟨aM, t1, rfl, ha, a', tM, rfl, ⟨a, haq, rfl⟩, hst⟩ : ∃ aM t1, stM = aM ++ t1 ∧ sr (al0 ++ l0) as.reverse aM ∧ sr (al0 ++ l0) (.ref q :: st) t1 := sr_split hs
  obtain ⟨⟨hcode, hini, hmh, hvh, hpn⟩, hinst, hnm, hret⟩ := hy
  obtain ⟨ws, tys, g1, g2, g3, g4, g5, g6, g7, g8, g9, g10, g11⟩ := id hw
  have hasr := sr_rev ha
  rw [List.reverse_reverse] at hasr
  have hts' := dr_words hts d0
  have hG : GoodIn wsA (pWs y cy Yy) := fun w h => by
    rcases List.mem_cons.mp h with rfl | h
    · exact ⟨hcode, wsA_gd _ hcode⟩
    · exact ⟨h, wsA_gd _ h⟩
  have hCB : CallB R (s.setDrawn d0) args Y.1 idx y cy Yy.2.1 none (pWs y cy Yy) (pRm Yy βy) βy.1 βy.2 n := callB_of n hts' hG (by show Cond.code y cy Yy.2.1 Yy.2.2.1 :: wsA = _; rw [hret]) rfl rfl (hts' _ hini) (hts' _ hl) ⟨hmh, hvh, hpn⟩ ⟨by rw [hrf]; exact hR.1, by rw [hrl]; exact hR.2⟩
  refine pw_back (va_runI_D (cs := lw_cs) (As := aM.reverse) (rest := tM) ⟨hx, hb, hml, hown, hts'⟩ (hM l D base b (al0 ++ l0) (.ref a :: aM.reverse) ⟨_, _, rfl, ⟨a, haq, rfl⟩, hasr⟩) ⟨hCB, hnm, hts' _ hinst⟩ ⟨pw_blind, fun U hU hW => ⟨rfl, by rw [hU]; exact g10, spW_warm hW hsp, by rw [hU]; exact wr_moved hW.alike hw⟩⟩ rfl (by rw [List.length_reverse, sr_len ha, List.length_reverse]; exact hn) hls.1 (by rw [List.reverse_reverse]) (lv_room (by rw [sr_cat hst]; exact hcat)) hdg ⟨by omega, by omega⟩) hS qc_F ?_
  intro v st₀ t H1 locs1 d' h0 ht hvm ⟨⟨vp, v', l', σ', I', F', e1, e2, e3, e4⟩, hF⟩ hS1 hd1
  cases e1
  rw [List.append_assoc] at e2 e4
  have := k vp σ' I' F' e3 p l e R s m args below meth c D base b al0 (l0 ++ l') d' H1 locs1 (cells + βy.1) (slots + βy.2) lsM (v.toList ++ tM) hc (hd.trans hd1) (by rw [← List.append_assoc]; exact lr_app hls) (vro_sr e2 (by rw [← List.append_assoc]; exact sr_app hst)) (by rw [ht] at e4; exact wr_moved hvm.symm e4) hS1 (by show cells + βy.1 + (β.1 - βy.1) ≤ _; omega) (by show slots + βy.2 + (β.2 - βy.2) ≤ _; omega)
  exact this
theorem pw_callSN {y : MethodName} {cy : ByteArray} {Yy : mB} {βy : Nat × Nat} {n idx : Nat} {as : List Value} {Post : pQ} {stk : List Value} (hdg : decode cc pc = .ok (.invokestatic idx, 3)) (hy : mOKS y cy Yy n) {host : String} (hl : (Y.1, idx, y, host) ∈ spN) (hM : PM y cy Yy βy as σ I F Post)
    (hn : as.length = n) (hst : stk = as.reverse ++ st) (hcat : (st.map fun v => v.category).sum ≤ 8) (hR : Yy.2.2.2.1 + 1 ≤ Y.2.2.2.1 ∧ 8 + (Yy.2.1 + 11) + Yy.2.2.2.2.1 ≤ Y.2.2.2.2.1) (hβ : βy.1 ≤ β.1 ∧ βy.2 ≤ β.2)
    (k : ∀ v σ' I' F', Post v σ' I' F' → PW cc Y Z (pc + 3) ls (v.toList ++ st) σ' I' F' (β.1 - βy.1, β.2 - βy.2)) : PW cc Y Z pc ls stk σ I F β := by
  subst hst
  intro p l e R s m args below meth c D base b al0 l0 d0 H locs cells slots lsM stM hc hd hls hs hw hS hk1 hk2
  obtain ⟨hx, hb, hr, hts, hown, hlk, hml, hrf, hrl, hbs, hsp, -⟩ := id hc
  obtain ⟨aM, tM, rfl, ha, hst⟩ : ∃ aM t1, stM = aM ++ t1 ∧ sr (al0 ++ l0) as.reverse aM ∧ sr (al0 ++ l0) st t1 := sr_split hs
  obtain ⟨⟨hcode, hini, hmh, hvh, hpn⟩, hstat⟩ := hy
  obtain ⟨ws, tys, g1, g2, g3, g4, g5, g6, g7, g8, g9, g10, g11⟩ := id hw
  have hasr := sr_rev ha
  rw [List.reverse_reverse] at hasr
  have hts' := dr_words hts d0
  have hG : GoodIn wsA (pWs y cy Yy) := fun w h => by
    rcases List.mem_cons.mp h with rfl | h
    · exact ⟨hcode, wsA_gd _ hcode⟩
    · exact ⟨h, wsA_gd _ h⟩
  have hCB : va_CN R (s.setDrawn d0) args Y.1 idx y host cy Yy.2.1 Yy.2.2.1 (pWs y cy Yy) (pRm Yy βy) βy.1 βy.2 n := va_cnB n hts' hG rfl rfl rfl (spW_vm (u := s) (U := s.setDrawn d0) rfl hsp |>.1 _ hl) (hts' _ hini) ⟨hmh, hvh, hpn⟩ ⟨by rw [hrf]; exact hR.1, by rw [hrl]; exact hR.2⟩
  refine pw_back (va_runSN_D (cs := lw_cs) (As := aM.reverse) (rest := tM) ⟨hx, hb, hml, hown, hts'⟩ (hM l D base b (al0 ++ l0) aM.reverse hasr) ⟨hCB, hts' _ hstat, trivial⟩ ⟨pw_blind, fun U hU hW => ⟨rfl, by rw [hU]; exact g10, spW_warm hW hsp, by rw [hU]; exact wr_moved hW.alike hw⟩⟩ rfl (by rw [List.length_reverse, sr_len ha, List.length_reverse]; exact hn) hls.1 (by rw [List.reverse_reverse]) (lv_room (by rw [sr_cat hst]; exact hcat)) hdg ⟨by omega, by omega⟩) hS qc_F ?_
  intro v st₀ t H1 locs1 d' h0 ht hvm ⟨⟨vp, v', l', σ', I', F', e1, e2, e3, e4⟩, hF⟩ hS1 hd1
  cases e1
  rw [List.append_assoc] at e2 e4
  have := k vp σ' I' F' e3 p l e R s m args below meth c D base b al0 (l0 ++ l') d' H1 locs1 (cells + βy.1) (slots + βy.2) lsM (v.toList ++ tM) hc (hd.trans hd1) (by rw [← List.append_assoc]; exact lr_app hls) (vro_sr e2 (by rw [← List.append_assoc]; exact sr_app hst)) (by rw [ht] at e4; exact wr_moved hvm.symm e4) hS1 (by show cells + βy.1 + (β.1 - βy.1) ≤ _; omega) (by show slots + βy.2 + (β.2 - βy.2) ≤ _; omega)
  exact this
theorem pw_callIN {y : MethodName} {cy : ByteArray} {Yy : mB} {βy : Nat × Nat} {n idx q : Nat} {as : List Value} {Post : pQ} {stk : List Value} (hdg : decode cc pc = .ok (.invokespecial idx, 3)) (hy : mOKI y cy Yy n) {host : String} (hl : (Y.1, idx, y, host) ∈ spN) (hM : PM y cy Yy βy (.ref q :: as) σ I F Post)
    (hn : as.length = n) (hst : stk = as.reverse ++ .ref q :: st) (hcat : (st.map fun v => v.category).sum ≤ 8) (hR : Yy.2.2.2.1 + 1 ≤ Y.2.2.2.1 ∧ 8 + (Yy.2.1 + 11) + Yy.2.2.2.2.1 ≤ Y.2.2.2.2.1) (hβ : βy.1 ≤ β.1 ∧ βy.2 ≤ β.2)
    (k : ∀ v σ' I' F', Post v σ' I' F' → PW cc Y Z (pc + 3) ls (v.toList ++ st) σ' I' F' (β.1 - βy.1, β.2 - βy.2)) : PW cc Y Z pc ls stk σ I F β := by
  subst hst
  intro p l e R s m args below meth c D base b al0 l0 d0 H locs cells slots lsM stM hc hd hls hs hw hS hk1 hk2
  obtain ⟨hx, hb, hr, hts, hown, hlk, hml, hrf, hrl, hbs, hsp, -⟩ := id hc
  obtain ⟨aM, t1, rfl, ha, a', tM, rfl, ⟨a, haq, rfl⟩, hst⟩ : ∃ aM t1, stM = aM ++ t1 ∧ sr (al0 ++ l0) as.reverse aM ∧ sr (al0 ++ l0) (.ref q :: st) t1 := sr_split hs
  obtain ⟨⟨hcode, hini, hmh, hvh, hpn⟩, hinst, hnm, hret⟩ := hy
  obtain ⟨ws, tys, g1, g2, g3, g4, g5, g6, g7, g8, g9, g10, g11⟩ := id hw
  have hasr := sr_rev ha
  rw [List.reverse_reverse] at hasr
  have hts' := dr_words hts d0
  have hG : GoodIn wsA (pWs y cy Yy) := fun w h => by
    rcases List.mem_cons.mp h with rfl | h
    · exact ⟨hcode, wsA_gd _ hcode⟩
    · exact ⟨h, wsA_gd _ h⟩
  have hCB : va_CN R (s.setDrawn d0) args Y.1 idx y host cy Yy.2.1 none (pWs y cy Yy) (pRm Yy βy) βy.1 βy.2 n := va_cnB n hts' hG (by show Cond.code y cy Yy.2.1 Yy.2.2.1 :: wsA = _; rw [hret]) rfl rfl (spW_vm (u := s) (U := s.setDrawn d0) rfl hsp |>.1 _ hl) (hts' _ hini) ⟨hmh, hvh, hpn⟩ ⟨by rw [hrf]; exact hR.1, by rw [hrl]; exact hR.2⟩
  refine pw_back (va_runIN_D (cs := lw_cs) (As := aM.reverse) (rest := tM) ⟨hx, hb, hml, hown, hts'⟩ (hM l D base b (al0 ++ l0) (.ref a :: aM.reverse) ⟨_, _, rfl, ⟨a, haq, rfl⟩, hasr⟩) ⟨hCB, hnm, hts' _ hinst⟩ ⟨pw_blind, fun U hU hW => ⟨rfl, by rw [hU]; exact g10, spW_warm hW hsp, by rw [hU]; exact wr_moved hW.alike hw⟩⟩ rfl (by rw [List.length_reverse, sr_len ha, List.length_reverse]; exact hn) hls.1 (by rw [List.reverse_reverse]) (lv_room (by rw [sr_cat hst]; exact hcat)) hdg ⟨by omega, by omega⟩) hS qc_F ?_
  intro v st₀ t H1 locs1 d' h0 ht hvm ⟨⟨vp, v', l', σ', I', F', e1, e2, e3, e4⟩, hF⟩ hS1 hd1
  cases e1
  rw [List.append_assoc] at e2 e4
  have := k vp σ' I' F' e3 p l e R s m args below meth c D base b al0 (l0 ++ l') d' H1 locs1 (cells + βy.1) (slots + βy.2) lsM (v.toList ++ tM) hc (hd.trans hd1) (by rw [← List.append_assoc]; exact lr_app hls) (vro_sr e2 (by rw [← List.append_assoc]; exact sr_app hst)) (by rw [ht] at e4; exact wr_moved hvm.symm e4) hS1 (by show cells + βy.1 + (β.1 - βy.1) ≤ _; omega) (by show slots + βy.2 + (β.2 - βy.2) ≤ _; omega)
  exact this
theorem pw_objInit {idx q : Nat} (hdg : decode cc pc = .ok (.invokespecial idx, 3)) (hl : Cond.methodLink Y.1 idx objectInit ∈ wsA) (hi : Cond.instanceMethod objectInit ∈ wsA) (ho : Cond.code objectInit ⟨#[0xb1]⟩ 1 none ∈ wsA) (hR : 1 ≤ Y.2.2.2.1 ∧ 12 ≤ Y.2.2.2.2.1) (k : PW cc Y Z (pc + 3) ls [] σ I F β) : PW cc Y Z pc ls [.ref q] σ I F β := by
  intro p l e R s m args below meth c D base b al0 l0 d0 H locs cells slots lsM stM hc hd hls hs hw hS hk1 hk2
  obtain ⟨hx, hb, hr, hts, hown, hlk, hml, hrf, hrl, hbs, hsp, -⟩ := id hc
  obtain ⟨a', tM, rfl, ⟨a, haq, rfl⟩, hst⟩ := hs
  rw [show tM = [] from hst]
  have hts' := dr_words hts d0
  have h0 : (F0 m pc lsM [Value.ref a]).monitorRoom = 0 := rfl
  have hR2 : 2 * (F0 m pc lsM [Value.ref a]).monitorRoom + (([] : List Value).map fun v => v.category).sum + 12 ≤ R.locals := by
    rw [h0, hrl, List.map_nil, List.sum_nil]
    have := hR.2
    omega
  have hR1 : 1 ≤ R.frames := by
    rw [hrf]
    exact hR.1
  have hsz : (F0 m pc lsM [Value.ref a]).locals.size = c.maxLocals := by
    rw [hml]
    exact hls.1
  refine W.objInit (s := s.setDrawn d0) (rest := []) hx hb hown (hts' _ hl) (hts' _ hi) (hts' _ ho) rfl hsz rfl hdg hR1 hR2 ?_
  refine W.eq (g2 := F0 m (pc + 3) lsM []) rfl ?_
  exact k p l e R s m args below meth c D base b al0 l0 d0 H locs cells slots lsM [] hc hd hls rfl hw hS hk1 hk2
/-! the ends -/
theorem pw_zret {Post : pQ} {x : Int32} {ty : FieldType} (hdg : decode cc pc = .ok (.ireturn, 1)) (hr : Y.2.2.1 = some ty) (hn : narrow ty (.int x) = .int x) (h : Post (some (.int x)) σ I F) : PW cc Y (fM Post) pc ls [.int x] σ I F β := by
  intro p l e R s m args below meth c D base b al0 l0 d0 H locs cells slots lsM stM hc hd hls hs hw hS hk1 hk2
  obtain ⟨hx, hb, hr0, hts, hown, hlk, hml, hrf, hrl, hbs, hsp, -⟩ := id hc
  obtain ⟨v', tM, rfl, rfl, hst⟩ := hs
  rw [show tM = [] from hst]
  refine W.widen (k := R.cells) (n := R.slots) (by omega) (by omega) ?_
  refine W.endD hd ?_
  exact W.zret hx hb (hr0.trans hr) hn (fun t ht hW => ⟨⟨some (.int x), some (.int x), l0, σ, I, F, rfl, ⟨_, rfl, rfl⟩, h, by rw [ht]; exact wr_moved hW.alike hw⟩, hS.F ht⟩) hS.2.2 hdg
theorem pw_iret {Post : pQ} {x : Int32} (hdg : decode cc pc = .ok (.ireturn, 1)) (hr : Y.2.2.1 = some .int) (h : Post (some (.int x)) σ I F) : PW cc Y (fM Post) pc ls [.int x] σ I F β := pw_zret hdg hr rfl h
theorem pw_fret {Post : pQ} {x : UInt32} (hdg : decode cc pc = .ok (.freturn, 1)) (hr : Y.2.2.1 = some .float) (h : Post (some (.float x)) σ I F) : PW cc Y (fM Post) pc ls [.float x] σ I F β := by
  intro p l e R s m args below meth c D base b al0 l0 d0 H locs cells slots lsM stM hc hd hls hs hw hS hk1 hk2
  obtain ⟨hx, hb, hr0, hts, hown, hlk, hml, hrf, hrl, hbs, hsp, -⟩ := id hc
  obtain ⟨v', tM, rfl, ⟨y, rfl, hy⟩, hst⟩ := hs
  rw [show tM = [] from hst]
  refine W.widen (k := R.cells) (n := R.slots) (by omega) (by omega) ?_
  refine W.endD hd ?_
  exact W.fret hx hb (hr0.trans hr) (fun t ht hW => ⟨⟨some (.float x), some (.float y), l0, σ, I, F, rfl, ⟨_, rfl, ⟨y, rfl, hy⟩⟩, h, by rw [ht]; exact wr_moved hW.alike hw⟩, hS.F ht⟩) hS.2.2 hdg hlk
theorem pw_vret {Post : pQ} (hdg : decode cc pc = .ok (.return_, 1)) (hr : Y.2.2.1 = none) (h : Post none σ I F) : PW cc Y (fM Post) pc ls [] σ I F β := by
  intro p l e R s m args below meth c D base b al0 l0 d0 H locs cells slots lsM stM hc hd hls hs hw hS hk1 hk2
  obtain ⟨hx, hb, hr0, hts, hown, hlk, hml, hrf, hrl, hbs, hsp, -⟩ := id hc
  rw [show stM = [] from hs]
  refine W.widen (k := R.cells) (n := R.slots) (by omega) (by omega) ?_
  refine W.endD hd ?_
  exact W.vret hx hb (hr0.trans hr) (fun t ht hW => ⟨⟨none, none, l0, σ, I, F, rfl, rfl, h, by rw [ht]; exact wr_moved hW.alike hw⟩, hS.F ht⟩) hS.2.2 hdg
end PC
end
section
/-! helpers -/
def up2 {α : Type} (f : Nat → Nat → α) (q k : Nat) (x : α) : Nat → Nat → α := fun i j => if i = q ∧ j = k then x else f i j
theorem up2_row {α : Type} {f : Nat → Nat → α} {q k : Nat} {x : α} {i : Nat} (h : i ≠ q) : up2 f q k x i = f i := by
  funext j
  simp [up2, h]
theorem up2_s {α : Type} {f : Nat → Nat → α} {q k : Nat} {x : α} : up2 f q k x q k = x := by simp [up2]
theorem up2_n {α : Type} {f : Nat → Nat → α} {q k i j : Nat} {x : α} (h : ¬ (i = q ∧ j = k)) : up2 f q k x i j = f i j := by simp [up2, h]
def isIt (t : FieldType) : Bool := match t with
  | .float => false
  | .object _ => false
  | .array _ => false
  | _ => true
def isRt (t : FieldType) : Bool := match t with
  | .object _ => true
  | .array _ => true
  | _ => false
theorem isRt_n {t : FieldType} {a : Nat} (h : isRt t = true) : narrow t (.ref a) = .ref a := by cases t <;> first | rfl | cases h
theorem isRt_f {t : FieldType} {a : Nat} (h : isRt t = true) : fits t (.ref a) = true := by cases t <;> first | rfl | cases h
theorem fv_I {σ : pT} {I : pI} {F : pF} {c q k : Nat} (h : isIt (fty c k) = true) : fv σ I F c q k = .int (I q k) := by
  unfold fv
  generalize fty c k = t at h
  cases t <;> first | rfl | cases h
theorem fv_F {σ : pT} {I : pI} {F : pF} {c q k : Nat} (h : fty c k = .float) : fv σ I F c q k = .float (F q k) := by
  unfold fv
  rw [h]
theorem fv_R {σ : pT} {I : pI} {F : pF} {c q k : Nat} (h : isRt (fty c k) = true) : fv σ I F c q k = rv (σ.2.2 q k) := by
  unfold fv
  generalize fty c k = t at h
  cases t <;> first | rfl | cases h
theorem fv_upI {σ : pT} {I : pI} {F : pF} {c q k j : Nat} {x : Int32} (h : j ≠ k) : fv σ (up2 I q k x) F c q j = fv σ I F c q j := by
  unfold fv
  rw [up2_n (f := I) (fun z => h z.2)]
theorem fv_upF {σ : pT} {I : pI} {F : pF} {c q k j : Nat} {x : UInt32} (h : j ≠ k) : fv σ I (up2 F q k x) c q j = fv σ I F c q j := by
  unfold fv
  rw [up2_n (f := F) (fun z => h z.2)]
theorem fv_upR {σ : pT} {I : pI} {F : pF} {c q k j : Nat} {x : Option Nat} (h : j ≠ k) : fv (σ.1, σ.2.1, up2 σ.2.2 q k x) I F c q j = fv σ I F c q j := by
  unfold fv
  dsimp only
  rw [up2_n (f := σ.2.2) (fun z => h z.2)]
def ffin (ci k : Nat) : Bool := match vwCl[ci]? with
  | some r => (r.2.1 k).2.2.2
  | none => true
def fdecl (ci k : Nat) : String := match vwCl[ci]? with
  | some r => (r.2.1 k).1
  | none => ""
theorem ffin_of {ci k : Nat} {C : String} {T : u_T} {N : Nat} (h : vwCl[ci]? = some (C, T, N)) : ffin ci k = (T k).2.2.2 := by
  unfold ffin
  rw [h]
theorem fdecl_of {ci k : Nat} {C : String} {T : u_T} {N : Nat} (h : vwCl[ci]? = some (C, T, N)) : fdecl ci k = (T k).1 := by
  unfold fdecl
  rw [h]
theorem vw_at {ci : Nat} (h : ci < 8) : ∃ rr : vw_C, vwCl[ci]? = some rr ∧ rr.1 = cnm ci := by
  match ci, h with
  | 0, _ => exact ⟨_, rfl, rfl⟩
  | 1, _ => exact ⟨_, rfl, rfl⟩
  | 2, _ => exact ⟨_, rfl, rfl⟩
  | 3, _ => exact ⟨_, rfl, rfl⟩
  | 4, _ => exact ⟨_, rfl, rfl⟩
  | 5, _ => exact ⟨_, rfl, rfl⟩
  | 6, _ => exact ⟨_, rfl, rfl⟩
  | 7, _ => exact ⟨_, rfl, rfl⟩
/-- a field's link, with all that the rows ask of its class -/
def fdOK (own : String) (idx ci k : Nat) : Prop := ∃ (C : String) (T : u_T), vwCl[ci]? = some (C, T, fN ci) ∧ (∀ w ∈ u_ws C T (fN ci), w ∈ wsA) ∧ k < fN ci ∧ (∀ j, j < fN ci → parseFieldDescriptor (T j).2.2.1 = some (fty ci j)) ∧ (∀ a, a < fN ci → ∀ b, b < fN ci → a ≠ b → (T a).2.1 ≠ (T b).2.1) ∧ Cond.fieldLink own idx (T k).1 (T k).2.1 (T k).2.2.1 ∈ wsA
section PR
variable {cc : ByteArray} {Y : mB} {Z : pZ} {pc : Nat} {ls st : List Value} {σ : pT} {I : pI} {F : pF} {β : Nat × Nat}
theorem pw_iconst {n : Int} {v : Int32} (hdg : decode cc pc = .ok (.iconst n, 1)) (hv : Int32.ofInt n = v) (k : PW cc Y Z (pc + 1) ls (.int v :: st) σ I F β) : PW cc Y Z pc ls st σ I F β := by
  intro p l e R s m args below meth c D base b al0 l0 d0 H locs cells slots lsM stM hc hd hls hs hw hS hk1 hk2
  obtain ⟨hx, hb, hr0, hts, hown, hlk, hml, hrf, hrl, hbs, hsp, -⟩ := id hc
  exact lv_iconst hx hb hdg hv (k p l e R s m args below meth c D base b al0 l0 d0 H locs cells slots lsM _ hc hd hls ⟨_, _, rfl, rfl, hs⟩ hw hS hk1 hk2)

theorem pw_bipush {n : Int} {v : Int32} (hdg : decode cc pc = .ok (.bipush n, 2)) (hv : (Int8.ofInt n).toInt32 = v) (k : PW cc Y Z (pc + 2) ls (.int v :: st) σ I F β) : PW cc Y Z pc ls st σ I F β := by
  intro p l e R s m args below meth c D base b al0 l0 d0 H locs cells slots lsM stM hc hd hls hs hw hS hk1 hk2
  obtain ⟨hx, hb, hr0, hts, hown, hlk, hml, hrf, hrl, hbs, hsp, -⟩ := id hc
  exact lv_bipush hx hb hdg hv (k p l e R s m args below meth c D base b al0 l0 d0 H locs cells slots lsM _ hc hd hls ⟨_, _, rfl, rfl, hs⟩ hw hS hk1 hk2)

theorem pw_sipush {n : Int} {v : Int32} (hdg : decode cc pc = .ok (.sipush n, 3)) (hv : (Int16.ofInt n).toInt32 = v) (k : PW cc Y Z (pc + 3) ls (.int v :: st) σ I F β) : PW cc Y Z pc ls st σ I F β := by
  intro p l e R s m args below meth c D base b al0 l0 d0 H locs cells slots lsM stM hc hd hls hs hw hS hk1 hk2
  obtain ⟨hx, hb, hr0, hts, hown, hlk, hml, hrf, hrl, hbs, hsp, -⟩ := id hc
  exact lv_sipush hx hb hdg hv (k p l e R s m args below meth c D base b al0 l0 d0 H locs cells slots lsM _ hc hd hls ⟨_, _, rfl, rfl, hs⟩ hw hS hk1 hk2)

-- FCONST
theorem pw_ldcf {idx : Nat} {v : UInt32} (hdg : decode cc pc = .ok (.ldc idx, 2)) (hw0 : Cond.constantFloat Y.1 idx v ∈ wsA) (k : PW cc Y Z (pc + 2) ls (.float v :: st) σ I F β) : PW cc Y Z pc ls st σ I F β := by
  intro p l e R s m args below meth c D base b al0 l0 d0 H locs cells slots lsM stM hc hd hls hs hw hS hk1 hk2
  obtain ⟨hx, hb, hr0, hts, hown, hlk, hml, hrf, hrl, hbs, hsp, -⟩ := id hc
  exact lv_ldcf hx hb hown (dr_words hts d0 _ hw0) hdg (k p l e R s m args below meth c D base b al0 l0 d0 H locs cells slots lsM _ hc hd hls ⟨_, _, rfl, ⟨_, rfl, alike32_refl _⟩, hs⟩ hw hS hk1 hk2)

theorem pw_ldcw {idx : Nat} {v : Int32} (hdg : decode cc pc = .ok (.ldc_w idx, 3)) (hw0 : Cond.constant Y.1 idx v ∈ wsA) (k : PW cc Y Z (pc + 3) ls (.int v :: st) σ I F β) : PW cc Y Z pc ls st σ I F β := by
  intro p l e R s m args below meth c D base b al0 l0 d0 H locs cells slots lsM stM hc hd hls hs hw hS hk1 hk2
  obtain ⟨hx, hb, hr0, hts, hown, hlk, hml, hrf, hrl, hbs, hsp, -⟩ := id hc
  exact lv_ldcw hx hb hown (dr_words hts d0 _ hw0) hdg (k p l e R s m args below meth c D base b al0 l0 d0 H locs cells slots lsM _ hc hd hls ⟨_, _, rfl, rfl, hs⟩ hw hS hk1 hk2)

theorem pw_iload_n {k0 : Fin 4} {i : Nat} {x : Int32} (hdg : decode cc pc = .ok (.iload_n k0, 1)) (hi : (k0 : Nat) = i) (hl : ls[i]? = some (.int x)) (k : PW cc Y Z (pc + 1) ls (.int x :: st) σ I F β) : PW cc Y Z pc ls st σ I F β := by
  intro p l e R s m args below meth c D base b al0 l0 d0 H locs cells slots lsM stM hc hd hls hs hw hS hk1 hk2
  obtain ⟨hx, hb, hr0, hts, hown, hlk, hml, hrf, hrl, hbs, hsp, -⟩ := id hc
  obtain ⟨_, rfl, h2⟩ := lr_get hls hl (by intro h; cases h)
  exact lv_iload_n hx hb hdg hi h2 (k p l e R s m args below meth c D base b al0 l0 d0 H locs cells slots lsM _ hc hd hls ⟨_, _, rfl, rfl, hs⟩ hw hS hk1 hk2)

theorem pw_iload {i : Nat} {x : Int32} (hdg : decode cc pc = .ok (.iload i, 2)) (hl : ls[i]? = some (.int x)) (k : PW cc Y Z (pc + 2) ls (.int x :: st) σ I F β) : PW cc Y Z pc ls st σ I F β := by
  intro p l e R s m args below meth c D base b al0 l0 d0 H locs cells slots lsM stM hc hd hls hs hw hS hk1 hk2
  obtain ⟨hx, hb, hr0, hts, hown, hlk, hml, hrf, hrl, hbs, hsp, -⟩ := id hc
  obtain ⟨_, rfl, h2⟩ := lr_get hls hl (by intro h; cases h)
  exact lv_iload hx hb hdg h2 (k p l e R s m args below meth c D base b al0 l0 d0 H locs cells slots lsM _ hc hd hls ⟨_, _, rfl, rfl, hs⟩ hw hS hk1 hk2)

theorem pw_fload_n {k0 : Fin 4} {i : Nat} {x : UInt32} (hdg : decode cc pc = .ok (.fload_n k0, 1)) (hi : (k0 : Nat) = i) (hl : ls[i]? = some (.float x)) (k : PW cc Y Z (pc + 1) ls (.float x :: st) σ I F β) : PW cc Y Z pc ls st σ I F β := by
  intro p l e R s m args below meth c D base b al0 l0 d0 H locs cells slots lsM stM hc hd hls hs hw hS hk1 hk2
  obtain ⟨hx, hb, hr0, hts, hown, hlk, hml, hrf, hrl, hbs, hsp, -⟩ := id hc
  obtain ⟨_, ⟨y, rfl, hy⟩, h2⟩ := lr_get hls hl (by intro h; cases h)
  exact lv_fload_n hx hb hdg hi h2 (k p l e R s m args below meth c D base b al0 l0 d0 H locs cells slots lsM _ hc hd hls ⟨_, _, rfl, ⟨y, rfl, hy⟩, hs⟩ hw hS hk1 hk2)

theorem pw_fload {i : Nat} {x : UInt32} (hdg : decode cc pc = .ok (.fload i, 2)) (hl : ls[i]? = some (.float x)) (k : PW cc Y Z (pc + 2) ls (.float x :: st) σ I F β) : PW cc Y Z pc ls st σ I F β := by
  intro p l e R s m args below meth c D base b al0 l0 d0 H locs cells slots lsM stM hc hd hls hs hw hS hk1 hk2
  obtain ⟨hx, hb, hr0, hts, hown, hlk, hml, hrf, hrl, hbs, hsp, -⟩ := id hc
  obtain ⟨_, ⟨y, rfl, hy⟩, h2⟩ := lr_get hls hl (by intro h; cases h)
  exact lv_fload hx hb hdg h2 (k p l e R s m args below meth c D base b al0 l0 d0 H locs cells slots lsM _ hc hd hls ⟨_, _, rfl, ⟨y, rfl, hy⟩, hs⟩ hw hS hk1 hk2)

theorem pw_aload_n {k0 : Fin 4} {i : Nat} {x : Nat} (hdg : decode cc pc = .ok (.aload_n k0, 1)) (hi : (k0 : Nat) = i) (hl : ls[i]? = some (.ref x)) (k : PW cc Y Z (pc + 1) ls (.ref x :: st) σ I F β) : PW cc Y Z pc ls st σ I F β := by
  intro p l e R s m args below meth c D base b al0 l0 d0 H locs cells slots lsM stM hc hd hls hs hw hS hk1 hk2
  obtain ⟨hx, hb, hr0, hts, hown, hlk, hml, hrf, hrl, hbs, hsp, -⟩ := id hc
  obtain ⟨_, ⟨a, ha, rfl⟩, h2⟩ := lr_get hls hl (by intro h; cases h)
  exact lv_aload_n hx hb hdg hi h2 (k p l e R s m args below meth c D base b al0 l0 d0 H locs cells slots lsM _ hc hd hls ⟨_, _, rfl, ⟨a, ha, rfl⟩, hs⟩ hw hS hk1 hk2)

theorem pw_aload {i : Nat} {x : Nat} (hdg : decode cc pc = .ok (.aload i, 2)) (hl : ls[i]? = some (.ref x)) (k : PW cc Y Z (pc + 2) ls (.ref x :: st) σ I F β) : PW cc Y Z pc ls st σ I F β := by
  intro p l e R s m args below meth c D base b al0 l0 d0 H locs cells slots lsM stM hc hd hls hs hw hS hk1 hk2
  obtain ⟨hx, hb, hr0, hts, hown, hlk, hml, hrf, hrl, hbs, hsp, -⟩ := id hc
  obtain ⟨_, ⟨a, ha, rfl⟩, h2⟩ := lr_get hls hl (by intro h; cases h)
  exact lv_aload hx hb hdg h2 (k p l e R s m args below meth c D base b al0 l0 d0 H locs cells slots lsM _ hc hd hls ⟨_, _, rfl, ⟨a, ha, rfl⟩, hs⟩ hw hS hk1 hk2)

theorem pw_dload {i : Nat} {x : UInt64} (hdg : decode cc pc = .ok (.dload i, 2)) (hl : ls[i]? = some (.double x)) (k : PW cc Y Z (pc + 2) ls (.double x :: st) σ I F β) : PW cc Y Z pc ls st σ I F β := by
  intro p l e R s m args below meth c D base b al0 l0 d0 H locs cells slots lsM stM hc hd hls hs hw hS hk1 hk2
  obtain ⟨hx, hb, hr0, hts, hown, hlk, hml, hrf, hrl, hbs, hsp, -⟩ := id hc
  obtain ⟨_, ⟨y, rfl, hy⟩, h2⟩ := lr_get hls hl (by intro h; cases h)
  exact lv_dload hx hb hdg h2 (k p l e R s m args below meth c D base b al0 l0 d0 H locs cells slots lsM _ hc hd hls ⟨_, _, rfl, ⟨y, rfl, hy⟩, hs⟩ hw hS hk1 hk2)

theorem pw_istore_n {k0 : Fin 4} {i : Nat} {x : Int32} (hdg : decode cc pc = .ok (.istore_n k0, 1)) (hi : (k0 : Nat) = i) (hn : i < Y.2.1) (ho : lo2 ls i = true) (k : PW cc Y Z (pc + 1) (ls.set i (.int x)) st σ I F β) : PW cc Y Z pc ls (.int x :: st) σ I F β := by
  intro p l e R s m args below meth c D base b al0 l0 d0 H locs cells slots lsM stM hc hd hls hs hw hS hk1 hk2
  obtain ⟨hx, hb, hr0, hts, hown, hlk, hml, hrf, hrl, hbs, hsp, -⟩ := id hc
  obtain ⟨_, t0, rfl, rfl, hs⟩ := hs
  refine lv_istore_n hx hb hdg hi (lr_has hls) hn rfl (fun ls1 hl1 => ?_)
  exact k p l e R s m args below meth c D base b al0 l0 d0 H locs cells slots ls1 _ hc hd (lr_set hls (rfl : vr _ (.int x) (.int x)) hl1 (lo2_ok ho)) hs hw hS hk1 hk2

theorem pw_istore {i : Nat} {x : Int32} (hdg : decode cc pc = .ok (.istore i, 2)) (hn : i < Y.2.1) (ho : lo2 ls i = true) (k : PW cc Y Z (pc + 2) (ls.set i (.int x)) st σ I F β) : PW cc Y Z pc ls (.int x :: st) σ I F β := by
  intro p l e R s m args below meth c D base b al0 l0 d0 H locs cells slots lsM stM hc hd hls hs hw hS hk1 hk2
  obtain ⟨hx, hb, hr0, hts, hown, hlk, hml, hrf, hrl, hbs, hsp, -⟩ := id hc
  obtain ⟨_, t0, rfl, rfl, hs⟩ := hs
  refine lv_istore hx hb hdg (lr_has hls) hn rfl (fun ls1 hl1 => ?_)
  exact k p l e R s m args below meth c D base b al0 l0 d0 H locs cells slots ls1 _ hc hd (lr_set hls (rfl : vr _ (.int x) (.int x)) hl1 (lo2_ok ho)) hs hw hS hk1 hk2

theorem pw_fstore_n {k0 : Fin 4} {i : Nat} {x : UInt32} (hdg : decode cc pc = .ok (.fstore_n k0, 1)) (hi : (k0 : Nat) = i) (hn : i < Y.2.1) (ho : lo2 ls i = true) (k : PW cc Y Z (pc + 1) (ls.set i (.float x)) st σ I F β) : PW cc Y Z pc ls (.float x :: st) σ I F β := by
  intro p l e R s m args below meth c D base b al0 l0 d0 H locs cells slots lsM stM hc hd hls hs hw hS hk1 hk2
  obtain ⟨hx, hb, hr0, hts, hown, hlk, hml, hrf, hrl, hbs, hsp, -⟩ := id hc
  obtain ⟨_, t0, rfl, ⟨x', rfl, hx'⟩, hs⟩ := hs
  refine lv_fstore_n hx hb hdg hi (lr_has hls) hn rfl (fun ls1 hl1 => ?_)
  exact k p l e R s m args below meth c D base b al0 l0 d0 H locs cells slots ls1 _ hc hd (lr_set hls (⟨x', rfl, hx'⟩ : vr _ (.float x) (.float x')) hl1 (lo2_ok ho)) hs hw hS hk1 hk2

theorem pw_fstore {i : Nat} {x : UInt32} (hdg : decode cc pc = .ok (.fstore i, 2)) (hn : i < Y.2.1) (ho : lo2 ls i = true) (k : PW cc Y Z (pc + 2) (ls.set i (.float x)) st σ I F β) : PW cc Y Z pc ls (.float x :: st) σ I F β := by
  intro p l e R s m args below meth c D base b al0 l0 d0 H locs cells slots lsM stM hc hd hls hs hw hS hk1 hk2
  obtain ⟨hx, hb, hr0, hts, hown, hlk, hml, hrf, hrl, hbs, hsp, -⟩ := id hc
  obtain ⟨_, t0, rfl, ⟨x', rfl, hx'⟩, hs⟩ := hs
  refine lv_fstore hx hb hdg (lr_has hls) hn rfl (fun ls1 hl1 => ?_)
  exact k p l e R s m args below meth c D base b al0 l0 d0 H locs cells slots ls1 _ hc hd (lr_set hls (⟨x', rfl, hx'⟩ : vr _ (.float x) (.float x')) hl1 (lo2_ok ho)) hs hw hS hk1 hk2

theorem pw_astore_n {k0 : Fin 4} {i : Nat} {x : Nat} (hdg : decode cc pc = .ok (.astore_n k0, 1)) (hi : (k0 : Nat) = i) (hn : i < Y.2.1) (ho : lo2 ls i = true) (k : PW cc Y Z (pc + 1) (ls.set i (.ref x)) st σ I F β) : PW cc Y Z pc ls (.ref x :: st) σ I F β := by
  intro p l e R s m args below meth c D base b al0 l0 d0 H locs cells slots lsM stM hc hd hls hs hw hS hk1 hk2
  obtain ⟨hx, hb, hr0, hts, hown, hlk, hml, hrf, hrl, hbs, hsp, -⟩ := id hc
  obtain ⟨_, t0, rfl, ⟨xa, hx', rfl⟩, hs⟩ := hs
  refine lv_astore_n hx hb hdg hi (lr_has hls) hn rfl (fun ls1 hl1 => ?_)
  exact k p l e R s m args below meth c D base b al0 l0 d0 H locs cells slots ls1 _ hc hd (lr_set hls (⟨xa, hx', rfl⟩ : vr _ (.ref x) (.ref xa)) hl1 (lo2_ok ho)) hs hw hS hk1 hk2

theorem pw_astore {i : Nat} {x : Nat} (hdg : decode cc pc = .ok (.astore i, 2)) (hn : i < Y.2.1) (ho : lo2 ls i = true) (k : PW cc Y Z (pc + 2) (ls.set i (.ref x)) st σ I F β) : PW cc Y Z pc ls (.ref x :: st) σ I F β := by
  intro p l e R s m args below meth c D base b al0 l0 d0 H locs cells slots lsM stM hc hd hls hs hw hS hk1 hk2
  obtain ⟨hx, hb, hr0, hts, hown, hlk, hml, hrf, hrl, hbs, hsp, -⟩ := id hc
  obtain ⟨_, t0, rfl, ⟨xa, hx', rfl⟩, hs⟩ := hs
  refine lv_astore hx hb hdg (lr_has hls) hn rfl (fun ls1 hl1 => ?_)
  exact k p l e R s m args below meth c D base b al0 l0 d0 H locs cells slots ls1 _ hc hd (lr_set hls (⟨xa, hx', rfl⟩ : vr _ (.ref x) (.ref xa)) hl1 (lo2_ok ho)) hs hw hS hk1 hk2

theorem pw_dstore {i : Nat} {x : UInt64} (hdg : decode cc pc = .ok (.dstore i, 2)) (hn : i + 1 < Y.2.1) (ho : lo2 ls i = true) (k : PW cc Y Z (pc + 2) ((ls.set i (.double x)).set (i + 1) pJ) st σ I F β) : PW cc Y Z pc ls (.double x :: st) σ I F β := by
  intro p l e R s m args below meth c D base b al0 l0 d0 H locs cells slots lsM stM hc hd hls hs hw hS hk1 hk2
  obtain ⟨hx, hb, hr0, hts, hown, hlk, hml, hrf, hrl, hbs, hsp, -⟩ := id hc
  obtain ⟨_, t0, rfl, ⟨x', rfl, hx'⟩, hs⟩ := hs
  refine lv_dstore hx hb hdg (lr_has hls) hn rfl (fun ls1 hl1 => ?_)
  exact k p l e R s m args below meth c D base b al0 l0 d0 H locs cells slots ls1 _ hc hd (lr_set2 hls (⟨_, rfl, hx'⟩ : vr _ (.double x) _) hl1 (lo2_ok ho)) hs hw hS hk1 hk2

theorem pw_iinc {i : Nat} {n : Int} {x v : Int32} (hdg : decode cc pc = .ok (.iinc i n, 3)) (hl : ls[i]? = some (.int x)) (hv : x + Int32.ofInt n = v) (ho : lo2 ls i = true) (k : PW cc Y Z (pc + 3) (ls.set i (.int v)) st σ I F β) : PW cc Y Z pc ls st σ I F β := by
  intro p l e R s m args below meth c D base b al0 l0 d0 H locs cells slots lsM stM hc hd hls hs hw hS hk1 hk2
  obtain ⟨hx, hb, hr0, hts, hown, hlk, hml, hrf, hrl, hbs, hsp, -⟩ := id hc
  obtain ⟨_, rfl, h2⟩ := lr_get hls hl (by intro h; cases h)
  obtain ⟨k9, hk9⟩ := List.getElem?_of_mem (lr_mem.mpr h2)
  have hn : i < Y.2.1 := by rw [← hls.2.2.1]; exact (List.getElem?_eq_some_iff.mp hl).1
  refine lv_iinc hx hb hdg (lr_has hls) hk9 hv hn rfl (fun ls1 hl1 => ?_)
  exact k p l e R s m args below meth c D base b al0 l0 d0 H locs cells slots ls1 _ hc hd (lr_set hls (rfl : vr _ (.int v) (.int v)) hl1 (lo2_ok ho)) hs hw hS hk1 hk2

theorem pw_iadd {x y : Int32} (hdg : decode cc pc = .ok (.iadd, 1)) (k : PW cc Y Z (pc + 1) ls (.int (x + y) :: st) σ I F β) : PW cc Y Z pc ls (.int y :: .int x :: st) σ I F β := by
  intro p l e R s m args below meth c D base b al0 l0 d0 H locs cells slots lsM stM hc hd hls hs hw hS hk1 hk2
  obtain ⟨hx, hb, hr0, hts, hown, hlk, hml, hrf, hrl, hbs, hsp, -⟩ := id hc
  obtain ⟨_, t0, rfl, rfl, hs⟩ := hs
  obtain ⟨_, t1, rfl, rfl, hs⟩ := hs
  exact lv_iadd hx hb hdg (k p l e R s m args below meth c D base b al0 l0 d0 H locs cells slots lsM _ hc hd hls ⟨_, _, rfl, rfl, hs⟩ hw hS hk1 hk2)

theorem pw_isub {x y : Int32} (hdg : decode cc pc = .ok (.isub, 1)) (k : PW cc Y Z (pc + 1) ls (.int (x - y) :: st) σ I F β) : PW cc Y Z pc ls (.int y :: .int x :: st) σ I F β := by
  intro p l e R s m args below meth c D base b al0 l0 d0 H locs cells slots lsM stM hc hd hls hs hw hS hk1 hk2
  obtain ⟨hx, hb, hr0, hts, hown, hlk, hml, hrf, hrl, hbs, hsp, -⟩ := id hc
  obtain ⟨_, t0, rfl, rfl, hs⟩ := hs
  obtain ⟨_, t1, rfl, rfl, hs⟩ := hs
  exact lv_isub hx hb hdg (k p l e R s m args below meth c D base b al0 l0 d0 H locs cells slots lsM _ hc hd hls ⟨_, _, rfl, rfl, hs⟩ hw hS hk1 hk2)

theorem pw_imul {x y : Int32} (hdg : decode cc pc = .ok (.imul, 1)) (k : PW cc Y Z (pc + 1) ls (.int (x * y) :: st) σ I F β) : PW cc Y Z pc ls (.int y :: .int x :: st) σ I F β := by
  intro p l e R s m args below meth c D base b al0 l0 d0 H locs cells slots lsM stM hc hd hls hs hw hS hk1 hk2
  obtain ⟨hx, hb, hr0, hts, hown, hlk, hml, hrf, hrl, hbs, hsp, -⟩ := id hc
  obtain ⟨_, t0, rfl, rfl, hs⟩ := hs
  obtain ⟨_, t1, rfl, rfl, hs⟩ := hs
  exact lv_imul hx hb hdg (k p l e R s m args below meth c D base b al0 l0 d0 H locs cells slots lsM _ hc hd hls ⟨_, _, rfl, rfl, hs⟩ hw hS hk1 hk2)

theorem pw_iand {x y : Int32} (hdg : decode cc pc = .ok (.iand, 1)) (k : PW cc Y Z (pc + 1) ls (.int (x &&& y) :: st) σ I F β) : PW cc Y Z pc ls (.int y :: .int x :: st) σ I F β := by
  intro p l e R s m args below meth c D base b al0 l0 d0 H locs cells slots lsM stM hc hd hls hs hw hS hk1 hk2
  obtain ⟨hx, hb, hr0, hts, hown, hlk, hml, hrf, hrl, hbs, hsp, -⟩ := id hc
  obtain ⟨_, t0, rfl, rfl, hs⟩ := hs
  obtain ⟨_, t1, rfl, rfl, hs⟩ := hs
  exact lv_iand hx hb hdg (k p l e R s m args below meth c D base b al0 l0 d0 H locs cells slots lsM _ hc hd hls ⟨_, _, rfl, rfl, hs⟩ hw hS hk1 hk2)

theorem pw_ixor {x y : Int32} (hdg : decode cc pc = .ok (.ixor, 1)) (k : PW cc Y Z (pc + 1) ls (.int (x ^^^ y) :: st) σ I F β) : PW cc Y Z pc ls (.int y :: .int x :: st) σ I F β := by
  intro p l e R s m args below meth c D base b al0 l0 d0 H locs cells slots lsM stM hc hd hls hs hw hS hk1 hk2
  obtain ⟨hx, hb, hr0, hts, hown, hlk, hml, hrf, hrl, hbs, hsp, -⟩ := id hc
  obtain ⟨_, t0, rfl, rfl, hs⟩ := hs
  obtain ⟨_, t1, rfl, rfl, hs⟩ := hs
  exact lv_ixor hx hb hdg (k p l e R s m args below meth c D base b al0 l0 d0 H locs cells slots lsM _ hc hd hls ⟨_, _, rfl, rfl, hs⟩ hw hS hk1 hk2)

theorem pw_ishl {x y : Int32} (hdg : decode cc pc = .ok (.ishl, 1)) (k : PW cc Y Z (pc + 1) ls (.int (x <<< (y &&& 31)) :: st) σ I F β) : PW cc Y Z pc ls (.int y :: .int x :: st) σ I F β := by
  intro p l e R s m args below meth c D base b al0 l0 d0 H locs cells slots lsM stM hc hd hls hs hw hS hk1 hk2
  obtain ⟨hx, hb, hr0, hts, hown, hlk, hml, hrf, hrl, hbs, hsp, -⟩ := id hc
  obtain ⟨_, t0, rfl, rfl, hs⟩ := hs
  obtain ⟨_, t1, rfl, rfl, hs⟩ := hs
  exact lv_ishl hx hb hdg (k p l e R s m args below meth c D base b al0 l0 d0 H locs cells slots lsM _ hc hd hls ⟨_, _, rfl, rfl, hs⟩ hw hS hk1 hk2)

theorem pw_ishr {x y : Int32} (hdg : decode cc pc = .ok (.ishr, 1)) (k : PW cc Y Z (pc + 1) ls (.int (x >>> (y &&& 31)) :: st) σ I F β) : PW cc Y Z pc ls (.int y :: .int x :: st) σ I F β := by
  intro p l e R s m args below meth c D base b al0 l0 d0 H locs cells slots lsM stM hc hd hls hs hw hS hk1 hk2
  obtain ⟨hx, hb, hr0, hts, hown, hlk, hml, hrf, hrl, hbs, hsp, -⟩ := id hc
  obtain ⟨_, t0, rfl, rfl, hs⟩ := hs
  obtain ⟨_, t1, rfl, rfl, hs⟩ := hs
  exact lv_ishr hx hb hdg (k p l e R s m args below meth c D base b al0 l0 d0 H locs cells slots lsM _ hc hd hls ⟨_, _, rfl, rfl, hs⟩ hw hS hk1 hk2)

theorem pw_irem {x y : Int32} (hdg : decode cc pc = .ok (.irem, 1)) (hne : ¬ y = 0) (k : PW cc Y Z (pc + 1) ls (.int (x - x / y * y) :: st) σ I F β) : PW cc Y Z pc ls (.int y :: .int x :: st) σ I F β := by
  intro p l e R s m args below meth c D base b al0 l0 d0 H locs cells slots lsM stM hc hd hls hs hw hS hk1 hk2
  obtain ⟨hx, hb, hr0, hts, hown, hlk, hml, hrf, hrl, hbs, hsp, -⟩ := id hc
  obtain ⟨_, t0, rfl, rfl, hs⟩ := hs
  obtain ⟨_, t1, rfl, rfl, hs⟩ := hs
  exact lv_irem hx hb hdg hne (k p l e R s m args below meth c D base b al0 l0 d0 H locs cells slots lsM _ hc hd hls ⟨_, _, rfl, rfl, hs⟩ hw hS hk1 hk2)

theorem pw_iushr {x y v : Int32} (hdg : decode cc pc = .ok (.iushr, 1)) (hv : (x.toUInt32 >>> (y.toUInt32 &&& Int32.toUInt32 31)).toInt32 = v) (k : PW cc Y Z (pc + 1) ls (.int v :: st) σ I F β) : PW cc Y Z pc ls (.int y :: .int x :: st) σ I F β := by
  intro p l e R s m args below meth c D base b al0 l0 d0 H locs cells slots lsM stM hc hd hls hs hw hS hk1 hk2
  obtain ⟨hx, hb, hr0, hts, hown, hlk, hml, hrf, hrl, hbs, hsp, -⟩ := id hc
  obtain ⟨_, t0, rfl, rfl, hs⟩ := hs
  obtain ⟨_, t1, rfl, rfl, hs⟩ := hs
  exact lv_iushr hx hb hdg hv (k p l e R s m args below meth c D base b al0 l0 d0 H locs cells slots lsM _ hc hd hls ⟨_, _, rfl, rfl, hs⟩ hw hS hk1 hk2)

theorem pw_fadd {x y : UInt32} (hdg : decode cc pc = .ok (.fadd, 1)) (k : PW cc Y Z (pc + 1) ls (.float (FP.fadd x y) :: st) σ I F β) : PW cc Y Z pc ls (.float y :: .float x :: st) σ I F β := by
  intro p l e R s m args below meth c D base b al0 l0 d0 H locs cells slots lsM stM hc hd hls hs hw hS hk1 hk2
  obtain ⟨hx, hb, hr0, hts, hown, hlk, hml, hrf, hrl, hbs, hsp, -⟩ := id hc
  obtain ⟨_, t0, rfl, ⟨y', rfl, hy'⟩, hs⟩ := hs
  obtain ⟨_, t1, rfl, ⟨x', rfl, hx'⟩, hs⟩ := hs
  refine lv_fadd_any hd lw_bits hx hb hdg (fun r d1 hal hd1 => ?_)
  exact k p l e R s m args below meth c D base b al0 l0 d1 H locs cells slots lsM _ hc hd1 hls ⟨_, _, rfl, ⟨r, rfl, by rw [← alike_fadd hx' hy']; exact hal⟩, hs⟩ hw hS hk1 hk2

theorem pw_fsub {x y : UInt32} (hdg : decode cc pc = .ok (.fsub, 1)) (k : PW cc Y Z (pc + 1) ls (.float (FP.fsub x y) :: st) σ I F β) : PW cc Y Z pc ls (.float y :: .float x :: st) σ I F β := by
  intro p l e R s m args below meth c D base b al0 l0 d0 H locs cells slots lsM stM hc hd hls hs hw hS hk1 hk2
  obtain ⟨hx, hb, hr0, hts, hown, hlk, hml, hrf, hrl, hbs, hsp, -⟩ := id hc
  obtain ⟨_, t0, rfl, ⟨y', rfl, hy'⟩, hs⟩ := hs
  obtain ⟨_, t1, rfl, ⟨x', rfl, hx'⟩, hs⟩ := hs
  refine lv_fsub_any hd lw_bits hx hb hdg (fun r d1 hal hd1 => ?_)
  exact k p l e R s m args below meth c D base b al0 l0 d1 H locs cells slots lsM _ hc hd1 hls ⟨_, _, rfl, ⟨r, rfl, by rw [← alike_fsub hx' hy']; exact hal⟩, hs⟩ hw hS hk1 hk2

theorem pw_fmul {x y : UInt32} (hdg : decode cc pc = .ok (.fmul, 1)) (k : PW cc Y Z (pc + 1) ls (.float (FP.fmul x y) :: st) σ I F β) : PW cc Y Z pc ls (.float y :: .float x :: st) σ I F β := by
  intro p l e R s m args below meth c D base b al0 l0 d0 H locs cells slots lsM stM hc hd hls hs hw hS hk1 hk2
  obtain ⟨hx, hb, hr0, hts, hown, hlk, hml, hrf, hrl, hbs, hsp, -⟩ := id hc
  obtain ⟨_, t0, rfl, ⟨y', rfl, hy'⟩, hs⟩ := hs
  obtain ⟨_, t1, rfl, ⟨x', rfl, hx'⟩, hs⟩ := hs
  refine lv_fmul_any hd lw_bits hx hb hdg (fun r d1 hal hd1 => ?_)
  exact k p l e R s m args below meth c D base b al0 l0 d1 H locs cells slots lsM _ hc hd1 hls ⟨_, _, rfl, ⟨r, rfl, by rw [← alike_fmul hx' hy']; exact hal⟩, hs⟩ hw hS hk1 hk2

theorem pw_fdiv {x y : UInt32} (hdg : decode cc pc = .ok (.fdiv, 1)) (k : PW cc Y Z (pc + 1) ls (.float (FP.fdiv x y) :: st) σ I F β) : PW cc Y Z pc ls (.float y :: .float x :: st) σ I F β := by
  intro p l e R s m args below meth c D base b al0 l0 d0 H locs cells slots lsM stM hc hd hls hs hw hS hk1 hk2
  obtain ⟨hx, hb, hr0, hts, hown, hlk, hml, hrf, hrl, hbs, hsp, -⟩ := id hc
  obtain ⟨_, t0, rfl, ⟨y', rfl, hy'⟩, hs⟩ := hs
  obtain ⟨_, t1, rfl, ⟨x', rfl, hx'⟩, hs⟩ := hs
  refine lv_fdiv_any hd lw_bits hx hb hdg (fun r d1 hal hd1 => ?_)
  exact k p l e R s m args below meth c D base b al0 l0 d1 H locs cells slots lsM _ hc hd1 hls ⟨_, _, rfl, ⟨r, rfl, by rw [← alike_fdiv hx' hy']; exact hal⟩, hs⟩ hw hS hk1 hk2

theorem pw_i2f {x : Int32} (hdg : decode cc pc = .ok (.i2f, 1)) (k : PW cc Y Z (pc + 1) ls (.float (FP.i2f x) :: st) σ I F β) : PW cc Y Z pc ls (.int x :: st) σ I F β := by
  intro p l e R s m args below meth c D base b al0 l0 d0 H locs cells slots lsM stM hc hd hls hs hw hS hk1 hk2
  obtain ⟨hx, hb, hr0, hts, hown, hlk, hml, hrf, hrl, hbs, hsp, -⟩ := id hc
  obtain ⟨_, t0, rfl, rfl, hs⟩ := hs
  exact lv_i2f hx hb hdg (k p l e R s m args below meth c D base b al0 l0 d0 H locs cells slots lsM _ hc hd hls ⟨_, _, rfl, ⟨_, rfl, alike32_refl _⟩, hs⟩ hw hS hk1 hk2)

theorem pw_f2i {x : UInt32} (hdg : decode cc pc = .ok (.f2i, 1)) (k : PW cc Y Z (pc + 1) ls (.int (FP.f2i x) :: st) σ I F β) : PW cc Y Z pc ls (.float x :: st) σ I F β := by
  intro p l e R s m args below meth c D base b al0 l0 d0 H locs cells slots lsM stM hc hd hls hs hw hS hk1 hk2
  obtain ⟨hx, hb, hr0, hts, hown, hlk, hml, hrf, hrl, hbs, hsp, -⟩ := id hc
  obtain ⟨_, t0, rfl, ⟨x', rfl, hx'⟩, hs⟩ := hs
  refine lv_f2i hx hb hdg ?_
  rw [alike_f2i hx']
  exact k p l e R s m args below meth c D base b al0 l0 d0 H locs cells slots lsM _ hc hd hls ⟨_, _, rfl, rfl, hs⟩ hw hS hk1 hk2

theorem pw_f2d {x : UInt32} (hdg : decode cc pc = .ok (.f2d, 1)) (k : PW cc Y Z (pc + 1) ls (.double (FP.f2d x) :: st) σ I F β) : PW cc Y Z pc ls (.float x :: st) σ I F β := by
  intro p l e R s m args below meth c D base b al0 l0 d0 H locs cells slots lsM stM hc hd hls hs hw hS hk1 hk2
  obtain ⟨hx, hb, hr0, hts, hown, hlk, hml, hrf, hrl, hbs, hsp, -⟩ := id hc
  obtain ⟨_, t0, rfl, ⟨x', rfl, hx'⟩, hs⟩ := hs
  refine lv_f2d_any hd lw_bits hx hb hdg (fun r d1 hal hd1 => ?_)
  exact k p l e R s m args below meth c D base b al0 l0 d1 H locs cells slots lsM _ hc hd1 hls ⟨_, _, rfl, ⟨r, rfl, alike64_trans hal (alike_f2d hx')⟩, hs⟩ hw hS hk1 hk2

theorem pw_i2c {x v : Int32} (hdg : decode cc pc = .ok (.i2c, 1)) (hv : (x.toUInt32 % 65536).toInt32 = v) (k : PW cc Y Z (pc + 1) ls (.int v :: st) σ I F β) : PW cc Y Z pc ls (.int x :: st) σ I F β := by
  intro p l e R s m args below meth c D base b al0 l0 d0 H locs cells slots lsM stM hc hd hls hs hw hS hk1 hk2
  obtain ⟨hx, hb, hr0, hts, hown, hlk, hml, hrf, hrl, hbs, hsp, -⟩ := id hc
  obtain ⟨_, t0, rfl, rfl, hs⟩ := hs
  exact lv_i2c hx hb hdg hv (k p l e R s m args below meth c D base b al0 l0 d0 H locs cells slots lsM _ hc hd hls ⟨_, _, rfl, rfl, hs⟩ hw hS hk1 hk2)

theorem pw_fcmp {x y : UInt32} {op : CmpOp} (hdg : decode cc pc = .ok (.fcmp op, 1)) (k : PW cc Y Z (pc + 1) ls (.int (Op.cmpValue (FP.fcmp x y) op) :: st) σ I F β) : PW cc Y Z pc ls (.float y :: .float x :: st) σ I F β := by
  intro p l e R s m args below meth c D base b al0 l0 d0 H locs cells slots lsM stM hc hd hls hs hw hS hk1 hk2
  obtain ⟨hx, hb, hr0, hts, hown, hlk, hml, hrf, hrl, hbs, hsp, -⟩ := id hc
  obtain ⟨_, t0, rfl, ⟨y', rfl, hy'⟩, hs⟩ := hs
  obtain ⟨_, t1, rfl, ⟨x', rfl, hx'⟩, hs⟩ := hs
  refine lv_fcmp hx hb hdg ?_
  rw [alike_fcmp hx' hy']
  exact k p l e R s m args below meth c D base b al0 l0 d0 H locs cells slots lsM _ hc hd hls ⟨_, _, rfl, rfl, hs⟩ hw hS hk1 hk2

theorem pw_dcmp {x y : UInt64} {op : CmpOp} (hdg : decode cc pc = .ok (.dcmp op, 1)) (k : PW cc Y Z (pc + 1) ls (.int (Op.cmpValue (FP.dcmp x y) op) :: st) σ I F β) : PW cc Y Z pc ls (.double y :: .double x :: st) σ I F β := by
  intro p l e R s m args below meth c D base b al0 l0 d0 H locs cells slots lsM stM hc hd hls hs hw hS hk1 hk2
  obtain ⟨hx, hb, hr0, hts, hown, hlk, hml, hrf, hrl, hbs, hsp, -⟩ := id hc
  obtain ⟨_, t0, rfl, ⟨y', rfl, hy'⟩, hs⟩ := hs
  obtain ⟨_, t1, rfl, ⟨x', rfl, hx'⟩, hs⟩ := hs
  refine lv_dcmp hx hb hdg ?_
  rw [alike_dcmp hx' hy']
  exact k p l e R s m args below meth c D base b al0 l0 d0 H locs cells slots lsM _ hc hd hls ⟨_, _, rfl, rfl, hs⟩ hw hS hk1 hk2

theorem pw_dup {v : Value} (hdg : decode cc pc = .ok (.dup, 1)) (hv : v.category = 1) (k : PW cc Y Z (pc + 1) ls (v :: v :: st) σ I F β) : PW cc Y Z pc ls (v :: st) σ I F β := by
  intro p l e R s m args below meth c D base b al0 l0 d0 H locs cells slots lsM stM hc hd hls hs hw hS hk1 hk2
  obtain ⟨hx, hb, hr0, hts, hown, hlk, hml, hrf, hrl, hbs, hsp, -⟩ := id hc
  obtain ⟨v', t0, rfl, h1, hs⟩ := hs
  exact lv_dup hx hb hdg (by rw [vr_cat h1]; exact hv) (k p l e R s m args below meth c D base b al0 l0 d0 H locs cells slots lsM _ hc hd hls ⟨_, _, rfl, h1, _, _, rfl, h1, hs⟩ hw hS hk1 hk2)

theorem pw_dup2 {v w : Value} (hdg : decode cc pc = .ok (.dup2, 1)) (hv : v.category = 1) (hw0 : w.category = 1) (k : PW cc Y Z (pc + 1) ls (v :: w :: v :: w :: st) σ I F β) : PW cc Y Z pc ls (v :: w :: st) σ I F β := by
  intro p l e R s m args below meth c D base b al0 l0 d0 H locs cells slots lsM stM hc hd hls hs hw hS hk1 hk2
  obtain ⟨hx, hb, hr0, hts, hown, hlk, hml, hrf, hrl, hbs, hsp, -⟩ := id hc
  obtain ⟨v', t0, rfl, h1, w', t1, rfl, h2, hs⟩ := hs
  exact lv_dup2_11 hx hb hdg (by rw [vr_cat h1]; exact hv) (by rw [vr_cat h2]; exact hw0) (k p l e R s m args below meth c D base b al0 l0 d0 H locs cells slots lsM _ hc hd hls ⟨_, _, rfl, h1, _, _, rfl, h2, _, _, rfl, h1, _, _, rfl, h2, hs⟩ hw hS hk1 hk2)

theorem pw_if_eq {x : Int32} {off : Int} {tgt : Nat} (hdg : decode cc pc = .ok (.ifCond .eq off, 3)) (ht : (pc : Int) + off = (tgt : Int)) (kt : x = 0 → PW cc Y Z tgt ls st σ I F β) (kf : ¬ x = 0 → PW cc Y Z (pc + 3) ls st σ I F β) : PW cc Y Z pc ls (.int x :: st) σ I F β := by
  intro p l e R s m args below meth c D base b al0 l0 d0 H locs cells slots lsM stM hc hd hls hs hw hS hk1 hk2
  obtain ⟨hx, hb, hr0, hts, hown, hlk, hml, hrf, hrl, hbs, hsp, -⟩ := id hc
  obtain ⟨_, t0, rfl, rfl, hs⟩ := hs
  exact lv_if_eq hx hb hdg ht (fun h9 => (kt h9) p l e R s m args below meth c D base b al0 l0 d0 H locs cells slots lsM _ hc hd hls hs hw hS hk1 hk2) (fun h9 => (kf h9) p l e R s m args below meth c D base b al0 l0 d0 H locs cells slots lsM _ hc hd hls hs hw hS hk1 hk2)

theorem pw_if_ne {x : Int32} {off : Int} {tgt : Nat} (hdg : decode cc pc = .ok (.ifCond .ne off, 3)) (ht : (pc : Int) + off = (tgt : Int)) (kt : ¬ x = 0 → PW cc Y Z tgt ls st σ I F β) (kf : x = 0 → PW cc Y Z (pc + 3) ls st σ I F β) : PW cc Y Z pc ls (.int x :: st) σ I F β := by
  intro p l e R s m args below meth c D base b al0 l0 d0 H locs cells slots lsM stM hc hd hls hs hw hS hk1 hk2
  obtain ⟨hx, hb, hr0, hts, hown, hlk, hml, hrf, hrl, hbs, hsp, -⟩ := id hc
  obtain ⟨_, t0, rfl, rfl, hs⟩ := hs
  exact lv_if_ne hx hb hdg ht (fun h9 => (kt h9) p l e R s m args below meth c D base b al0 l0 d0 H locs cells slots lsM _ hc hd hls hs hw hS hk1 hk2) (fun h9 => (kf h9) p l e R s m args below meth c D base b al0 l0 d0 H locs cells slots lsM _ hc hd hls hs hw hS hk1 hk2)

theorem pw_if_lt {x : Int32} {off : Int} {tgt : Nat} (hdg : decode cc pc = .ok (.ifCond .lt off, 3)) (ht : (pc : Int) + off = (tgt : Int)) (kt : x < 0 → PW cc Y Z tgt ls st σ I F β) (kf : ¬ x < 0 → PW cc Y Z (pc + 3) ls st σ I F β) : PW cc Y Z pc ls (.int x :: st) σ I F β := by
  intro p l e R s m args below meth c D base b al0 l0 d0 H locs cells slots lsM stM hc hd hls hs hw hS hk1 hk2
  obtain ⟨hx, hb, hr0, hts, hown, hlk, hml, hrf, hrl, hbs, hsp, -⟩ := id hc
  obtain ⟨_, t0, rfl, rfl, hs⟩ := hs
  exact lv_if_lt hx hb hdg ht (fun h9 => (kt h9) p l e R s m args below meth c D base b al0 l0 d0 H locs cells slots lsM _ hc hd hls hs hw hS hk1 hk2) (fun h9 => (kf h9) p l e R s m args below meth c D base b al0 l0 d0 H locs cells slots lsM _ hc hd hls hs hw hS hk1 hk2)

theorem pw_if_ge {x : Int32} {off : Int} {tgt : Nat} (hdg : decode cc pc = .ok (.ifCond .ge off, 3)) (ht : (pc : Int) + off = (tgt : Int)) (kt : 0 ≤ x → PW cc Y Z tgt ls st σ I F β) (kf : ¬ 0 ≤ x → PW cc Y Z (pc + 3) ls st σ I F β) : PW cc Y Z pc ls (.int x :: st) σ I F β := by
  intro p l e R s m args below meth c D base b al0 l0 d0 H locs cells slots lsM stM hc hd hls hs hw hS hk1 hk2
  obtain ⟨hx, hb, hr0, hts, hown, hlk, hml, hrf, hrl, hbs, hsp, -⟩ := id hc
  obtain ⟨_, t0, rfl, rfl, hs⟩ := hs
  exact lv_if_ge hx hb hdg ht (fun h9 => (kt h9) p l e R s m args below meth c D base b al0 l0 d0 H locs cells slots lsM _ hc hd hls hs hw hS hk1 hk2) (fun h9 => (kf h9) p l e R s m args below meth c D base b al0 l0 d0 H locs cells slots lsM _ hc hd hls hs hw hS hk1 hk2)

theorem pw_if_gt {x : Int32} {off : Int} {tgt : Nat} (hdg : decode cc pc = .ok (.ifCond .gt off, 3)) (ht : (pc : Int) + off = (tgt : Int)) (kt : 0 < x → PW cc Y Z tgt ls st σ I F β) (kf : ¬ 0 < x → PW cc Y Z (pc + 3) ls st σ I F β) : PW cc Y Z pc ls (.int x :: st) σ I F β := by
  intro p l e R s m args below meth c D base b al0 l0 d0 H locs cells slots lsM stM hc hd hls hs hw hS hk1 hk2
  obtain ⟨hx, hb, hr0, hts, hown, hlk, hml, hrf, hrl, hbs, hsp, -⟩ := id hc
  obtain ⟨_, t0, rfl, rfl, hs⟩ := hs
  exact lv_if_gt hx hb hdg ht (fun h9 => (kt h9) p l e R s m args below meth c D base b al0 l0 d0 H locs cells slots lsM _ hc hd hls hs hw hS hk1 hk2) (fun h9 => (kf h9) p l e R s m args below meth c D base b al0 l0 d0 H locs cells slots lsM _ hc hd hls hs hw hS hk1 hk2)

theorem pw_if_le {x : Int32} {off : Int} {tgt : Nat} (hdg : decode cc pc = .ok (.ifCond .le off, 3)) (ht : (pc : Int) + off = (tgt : Int)) (kt : x ≤ 0 → PW cc Y Z tgt ls st σ I F β) (kf : ¬ x ≤ 0 → PW cc Y Z (pc + 3) ls st σ I F β) : PW cc Y Z pc ls (.int x :: st) σ I F β := by
  intro p l e R s m args below meth c D base b al0 l0 d0 H locs cells slots lsM stM hc hd hls hs hw hS hk1 hk2
  obtain ⟨hx, hb, hr0, hts, hown, hlk, hml, hrf, hrl, hbs, hsp, -⟩ := id hc
  obtain ⟨_, t0, rfl, rfl, hs⟩ := hs
  exact lv_if_le hx hb hdg ht (fun h9 => (kt h9) p l e R s m args below meth c D base b al0 l0 d0 H locs cells slots lsM _ hc hd hls hs hw hS hk1 hk2) (fun h9 => (kf h9) p l e R s m args below meth c D base b al0 l0 d0 H locs cells slots lsM _ hc hd hls hs hw hS hk1 hk2)

theorem pw_icmp_eq {x y : Int32} {off : Int} {tgt : Nat} (hdg : decode cc pc = .ok (.if_icmp .eq off, 3)) (ht : (pc : Int) + off = (tgt : Int)) (kt : x = y → PW cc Y Z tgt ls st σ I F β) (kf : ¬ x = y → PW cc Y Z (pc + 3) ls st σ I F β) : PW cc Y Z pc ls (.int y :: .int x :: st) σ I F β := by
  intro p l e R s m args below meth c D base b al0 l0 d0 H locs cells slots lsM stM hc hd hls hs hw hS hk1 hk2
  obtain ⟨hx, hb, hr0, hts, hown, hlk, hml, hrf, hrl, hbs, hsp, -⟩ := id hc
  obtain ⟨_, t0, rfl, rfl, hs⟩ := hs
  obtain ⟨_, t1, rfl, rfl, hs⟩ := hs
  exact lv_icmp_eq hx hb hdg ht (fun h9 => (kt h9) p l e R s m args below meth c D base b al0 l0 d0 H locs cells slots lsM _ hc hd hls hs hw hS hk1 hk2) (fun h9 => (kf h9) p l e R s m args below meth c D base b al0 l0 d0 H locs cells slots lsM _ hc hd hls hs hw hS hk1 hk2)

theorem pw_icmp_ne {x y : Int32} {off : Int} {tgt : Nat} (hdg : decode cc pc = .ok (.if_icmp .ne off, 3)) (ht : (pc : Int) + off = (tgt : Int)) (kt : ¬ x = y → PW cc Y Z tgt ls st σ I F β) (kf : x = y → PW cc Y Z (pc + 3) ls st σ I F β) : PW cc Y Z pc ls (.int y :: .int x :: st) σ I F β := by
  intro p l e R s m args below meth c D base b al0 l0 d0 H locs cells slots lsM stM hc hd hls hs hw hS hk1 hk2
  obtain ⟨hx, hb, hr0, hts, hown, hlk, hml, hrf, hrl, hbs, hsp, -⟩ := id hc
  obtain ⟨_, t0, rfl, rfl, hs⟩ := hs
  obtain ⟨_, t1, rfl, rfl, hs⟩ := hs
  exact lv_icmp_ne hx hb hdg ht (fun h9 => (kt h9) p l e R s m args below meth c D base b al0 l0 d0 H locs cells slots lsM _ hc hd hls hs hw hS hk1 hk2) (fun h9 => (kf h9) p l e R s m args below meth c D base b al0 l0 d0 H locs cells slots lsM _ hc hd hls hs hw hS hk1 hk2)

theorem pw_icmp_lt {x y : Int32} {off : Int} {tgt : Nat} (hdg : decode cc pc = .ok (.if_icmp .lt off, 3)) (ht : (pc : Int) + off = (tgt : Int)) (kt : x < y → PW cc Y Z tgt ls st σ I F β) (kf : ¬ x < y → PW cc Y Z (pc + 3) ls st σ I F β) : PW cc Y Z pc ls (.int y :: .int x :: st) σ I F β := by
  intro p l e R s m args below meth c D base b al0 l0 d0 H locs cells slots lsM stM hc hd hls hs hw hS hk1 hk2
  obtain ⟨hx, hb, hr0, hts, hown, hlk, hml, hrf, hrl, hbs, hsp, -⟩ := id hc
  obtain ⟨_, t0, rfl, rfl, hs⟩ := hs
  obtain ⟨_, t1, rfl, rfl, hs⟩ := hs
  exact lv_icmp_lt hx hb hdg ht (fun h9 => (kt h9) p l e R s m args below meth c D base b al0 l0 d0 H locs cells slots lsM _ hc hd hls hs hw hS hk1 hk2) (fun h9 => (kf h9) p l e R s m args below meth c D base b al0 l0 d0 H locs cells slots lsM _ hc hd hls hs hw hS hk1 hk2)

theorem pw_icmp_ge {x y : Int32} {off : Int} {tgt : Nat} (hdg : decode cc pc = .ok (.if_icmp .ge off, 3)) (ht : (pc : Int) + off = (tgt : Int)) (kt : y ≤ x → PW cc Y Z tgt ls st σ I F β) (kf : ¬ y ≤ x → PW cc Y Z (pc + 3) ls st σ I F β) : PW cc Y Z pc ls (.int y :: .int x :: st) σ I F β := by
  intro p l e R s m args below meth c D base b al0 l0 d0 H locs cells slots lsM stM hc hd hls hs hw hS hk1 hk2
  obtain ⟨hx, hb, hr0, hts, hown, hlk, hml, hrf, hrl, hbs, hsp, -⟩ := id hc
  obtain ⟨_, t0, rfl, rfl, hs⟩ := hs
  obtain ⟨_, t1, rfl, rfl, hs⟩ := hs
  exact lv_icmp_ge hx hb hdg ht (fun h9 => (kt h9) p l e R s m args below meth c D base b al0 l0 d0 H locs cells slots lsM _ hc hd hls hs hw hS hk1 hk2) (fun h9 => (kf h9) p l e R s m args below meth c D base b al0 l0 d0 H locs cells slots lsM _ hc hd hls hs hw hS hk1 hk2)

theorem pw_icmp_gt {x y : Int32} {off : Int} {tgt : Nat} (hdg : decode cc pc = .ok (.if_icmp .gt off, 3)) (ht : (pc : Int) + off = (tgt : Int)) (kt : y < x → PW cc Y Z tgt ls st σ I F β) (kf : ¬ y < x → PW cc Y Z (pc + 3) ls st σ I F β) : PW cc Y Z pc ls (.int y :: .int x :: st) σ I F β := by
  intro p l e R s m args below meth c D base b al0 l0 d0 H locs cells slots lsM stM hc hd hls hs hw hS hk1 hk2
  obtain ⟨hx, hb, hr0, hts, hown, hlk, hml, hrf, hrl, hbs, hsp, -⟩ := id hc
  obtain ⟨_, t0, rfl, rfl, hs⟩ := hs
  obtain ⟨_, t1, rfl, rfl, hs⟩ := hs
  exact lv_icmp_gt hx hb hdg ht (fun h9 => (kt h9) p l e R s m args below meth c D base b al0 l0 d0 H locs cells slots lsM _ hc hd hls hs hw hS hk1 hk2) (fun h9 => (kf h9) p l e R s m args below meth c D base b al0 l0 d0 H locs cells slots lsM _ hc hd hls hs hw hS hk1 hk2)

theorem pw_icmp_le {x y : Int32} {off : Int} {tgt : Nat} (hdg : decode cc pc = .ok (.if_icmp .le off, 3)) (ht : (pc : Int) + off = (tgt : Int)) (kt : x ≤ y → PW cc Y Z tgt ls st σ I F β) (kf : ¬ x ≤ y → PW cc Y Z (pc + 3) ls st σ I F β) : PW cc Y Z pc ls (.int y :: .int x :: st) σ I F β := by
  intro p l e R s m args below meth c D base b al0 l0 d0 H locs cells slots lsM stM hc hd hls hs hw hS hk1 hk2
  obtain ⟨hx, hb, hr0, hts, hown, hlk, hml, hrf, hrl, hbs, hsp, -⟩ := id hc
  obtain ⟨_, t0, rfl, rfl, hs⟩ := hs
  obtain ⟨_, t1, rfl, rfl, hs⟩ := hs
  exact lv_icmp_le hx hb hdg ht (fun h9 => (kt h9) p l e R s m args below meth c D base b al0 l0 d0 H locs cells slots lsM _ hc hd hls hs hw hS hk1 hk2) (fun h9 => (kf h9) p l e R s m args below meth c D base b al0 l0 d0 H locs cells slots lsM _ hc hd hls hs hw hS hk1 hk2)

theorem pw_goto {off : Int} {tgt : Nat} (hdg : decode cc pc = .ok (.goto off, 3)) (ht : (pc : Int) + off = (tgt : Int)) (k : PW cc Y Z (tgt) ls st σ I F β) : PW cc Y Z pc ls st σ I F β := by
  intro p l e R s m args below meth c D base b al0 l0 d0 H locs cells slots lsM stM hc hd hls hs hw hS hk1 hk2
  obtain ⟨hx, hb, hr0, hts, hown, hlk, hml, hrf, hrl, hbs, hsp, -⟩ := id hc
  exact lv_goto hx hb hdg ht (k p l e R s m args below meth c D base b al0 l0 d0 H locs cells slots lsM _ hc hd hls hs hw hS hk1 hk2)

theorem pw_lookup {dflt : Int} {ps : Array (Int × Int)} {len : Nat} {x : Int32} {off : Int} {tgt : Nat} (hdg : decode cc pc = .ok (.lookupswitch dflt ps, len)) (hp : (ps.toList.zip (ps.toList.drop 1)).all (fun (a, next) => a.1 < next.1) = true) (ho : Op.lookupswitch.offset ps.toList dflt x.toInt = off) (ht : (pc : Int) + off = (tgt : Int)) (k : PW cc Y Z (tgt) ls st σ I F β) : PW cc Y Z pc ls (.int x :: st) σ I F β := by
  intro p l e R s m args below meth c D base b al0 l0 d0 H locs cells slots lsM stM hc hd hls hs hw hS hk1 hk2
  obtain ⟨hx, hb, hr0, hts, hown, hlk, hml, hrf, hrl, hbs, hsp, -⟩ := id hc
  obtain ⟨_, t0, rfl, rfl, hs⟩ := hs
  exact lv_lookup hx hb hdg hp ho ht (k p l e R s m args below meth c D base b al0 l0 d0 H locs cells slots lsM _ hc hd hls hs hw hS hk1 hk2)

theorem pw_tableOut {dflt lo hi : Int} {offs : Array Int} {len : Nat} {x : Int32} {tgt : Nat} (hdg : decode cc pc = .ok (.tableswitch dflt lo hi offs, len)) (h : x.toInt < lo ∨ hi < x.toInt) (ht : (pc : Int) + dflt = (tgt : Int)) (k : PW cc Y Z (tgt) ls st σ I F β) : PW cc Y Z pc ls (.int x :: st) σ I F β := by
  intro p l e R s m args below meth c D base b al0 l0 d0 H locs cells slots lsM stM hc hd hls hs hw hS hk1 hk2
  obtain ⟨hx, hb, hr0, hts, hown, hlk, hml, hrf, hrl, hbs, hsp, -⟩ := id hc
  obtain ⟨_, t0, rfl, rfl, hs⟩ := hs
  exact lv_tableOut hx hb hdg h ht (k p l e R s m args below meth c D base b al0 l0 d0 H locs cells slots lsM _ hc hd hls hs hw hS hk1 hk2)

theorem pw_tableIn {dflt lo hi : Int} {offs : Array Int} {len : Nat} {x : Int32} {off : Int} {tgt : Nat} (hdg : decode cc pc = .ok (.tableswitch dflt lo hi offs, len)) (h1 : ¬ x.toInt < lo) (h2 : ¬ hi < x.toInt) (ho : offs[(x.toInt - lo).toNat]? = some off) (ht : (pc : Int) + off = (tgt : Int)) (k : PW cc Y Z (tgt) ls st σ I F β) : PW cc Y Z pc ls (.int x :: st) σ I F β := by
  intro p l e R s m args below meth c D base b al0 l0 d0 H locs cells slots lsM stM hc hd hls hs hw hS hk1 hk2
  obtain ⟨hx, hb, hr0, hts, hown, hlk, hml, hrf, hrl, hbs, hsp, -⟩ := id hc
  obtain ⟨_, t0, rfl, rfl, hs⟩ := hs
  exact lv_tableIn hx hb hdg h1 h2 ho ht (k p l e R s m args below meth c D base b al0 l0 d0 H locs cells slots lsM _ hc hd hls hs hw hS hk1 hk2)

theorem pw_get {idx ci k q : Nat} {v : Value} (hdg : decode cc pc = .ok (.getfield idx, 3)) (hf : fdOK Y.1 idx ci k) (hci : ci < 8) (hq : (σ.2.1 q).1 = ci + 1) (hv : fv σ I F ci q k = v) (kk : PW cc Y Z (pc + 3) ls (v :: st) σ I F β) : PW cc Y Z pc ls (.ref q :: st) σ I F β := by
  intro p l e R s m args below meth c D base b al0 l0 d0 H locs cells slots lsM stM hc hd hls hs hw hS hk1 hk2
  obtain ⟨hx, hb, hr0, hts, hown, hlk, hml, hrf, hrl, hbs, hsp, -⟩ := id hc
  obtain ⟨_, t0, rfl, ⟨a, hqa, rfl⟩, hs⟩ := hs
  obtain ⟨ws, tys, g1, g2, g3, g4, g5, g6, g7, g8, g9, g10, g11⟩ := id hw
  obtain ⟨C, T, f1, f2, f3, f4, f5, f6⟩ := hf
  obtain ⟨j, en, hj, hjw, hce⟩ := wr_cell (D := D) (base := base) (b := b) (U := s) (H := H) g1 g6 g7 g8 (by rw [hq]; omega) (by rw [hq]; omega) hqa
  obtain ⟨fs, rfl, hfs⟩ := hce.1 ci hq hci
  obtain ⟨v', hv1, hv2⟩ := hfs k f3
  subst hv
  exact va_get (s := s.setDrawn d0) (D := D) hx hb (dr_words hts d0) f2 hown g4 g3 j hjw f1 k f3 (dr_words hts d0 _ f6) (fun _ h => h) hv1 hdg (kk p l e R s m args below meth c D base b al0 l0 d0 H locs cells slots lsM _ hc hd hls ⟨_, _, rfl, hv2, hs⟩ hw hS hk1 hk2)

/-- the field written: the pure world behind it -/
theorem ce_put {al : List Nat} {tys : List (ClassId × FieldType)} {σ σ' : pT} {I I' : pI} {F F' : pF} {q ci k : Nat} {fs : List Value} {v' : Value} (hq : (σ.2.1 q).1 = ci + 1) (hci : ci < 8) (hfs : ∀ k, k < fN ci → ∃ v', fs[k]? = some v' ∧ vr al (fv σ I F ci q k) v') (hK : σ'.2.1 q = σ.2.1 q) (hv : vr al (fv σ' I' F' ci q k) v') (ho : ∀ j, j ≠ k → fv σ' I' F' ci q j = fv σ I F ci q j) : ce al tys σ' I' F' q (.inr (ci, fs.set k v')) := by
  refine ⟨fun c h1 h2 => ?_, fun h1 => ?_, fun h1 => ?_, fun h1 => ?_, fun c h1 h2 => ?_⟩
  · rw [hK, hq] at h1
    have hcc : ci = c := by omega
    subst hcc
    refine ⟨_, rfl, fun j hj => ?_⟩
    by_cases hjk : k = j
    · subst hjk
      obtain ⟨w, hw1, -⟩ := hfs k hj
      exact ⟨v', List.getElem?_set_self (List.getElem?_eq_some_iff.mp hw1).1, hv⟩
    · obtain ⟨w, hw1, hw2⟩ := hfs j hj
      exact ⟨w, by rw [List.getElem?_set_ne hjk]; exact hw1, by rw [ho j (Ne.symm hjk)]; exact hw2⟩
  · rw [hK, hq] at h1; omega
  · rw [hK, hq] at h1; omega
  · rw [hK, hq] at h1; omega
  · rw [hK, hq] at h1; omega

-- PUTS
theorem pw_putI {idx ci k q : Nat} {x : Int32} (hdg : decode cc pc = .ok (.putfield idx, 3)) (hf : fdOK Y.1 idx ci k) (hci : ci < 8) (hfin : ffin ci k = false) (hnr : narrow (fty ci k) (.int x) = .int x ∧ fits (fty ci k) (.int x) = true ∧ isIt (fty ci k) = true) (hq : (σ.2.1 q).1 = ci + 1) (kk : PW cc Y Z (pc + 3) ls st σ (up2 I q k x) F β) : PW cc Y Z pc ls (.int x :: .ref q :: st) σ I F β := by
  intro p l e R s m args below meth c D base b al0 l0 d0 H locs cells slots lsM stM hc hd hls hs hw hS hk1 hk2
  obtain ⟨hx, hb, hr0, hts, hown, hlk, hml, hrf, hrl, hbs, hsp, -⟩ := id hc
  obtain ⟨_, t0, rfl, rfl, hs⟩ := hs
  obtain ⟨_, t1, rfl, ⟨a, hqa, rfl⟩, hs⟩ := hs
  obtain ⟨ws, tys, g1, g2, g3, g4, g5, g6, g7, g8, g9, g10, g11⟩ := id hw
  obtain ⟨C, T, f1, f2, f3, f4, f5, f6⟩ := hf
  obtain ⟨j, en, hj, hjw, hce⟩ := wr_cell (D := D) (base := base) (b := b) (U := s) (H := H) g1 g6 g7 g8 (by rw [hq]; omega) (by rw [hq]; omega) hqa
  obtain ⟨fs, rfl, hfs⟩ := hce.1 ci hq hci
  obtain ⟨v', hv1, hv2⟩ := hfs k f3
  have hfl : k < fs.length := (List.getElem?_eq_some_iff.mp hv1).1
  refine va_put (s := s.setDrawn d0) (D := D) hx hb (dr_words hts d0) f2 (fty ci) f4 f5 hown g4 g3 g5 hS j hjw f1 k f3 (dr_words hts d0 _ f6) (fun _ h => h) (by rw [← ffin_of f1]; exact hfin) (ty := fty ci k) (f4 k f3) hnr.1 hnr.2.1 hfl hdg (fun H1 locs1 hP1 hD1 hS1 => ?_)
  subst hj
  refine kk p l e R s m args below meth c D base b al0 l0 d0 H1 locs1 cells slots lsM _ hc hd hls hs (wr_set (σ' := σ) (I' := up2 I (j + 1) k x) (F' := F) g1 g2 g4 g6 g7 g8 g9 hbs g11 hjw hP1 hD1 hS hS1 rfl rfl ?_ ?_ ?_ ?_) hS1 hk1 hk2
  · intro q9 h9; rfl
  · intro q9 h9; exact up2_row h9
  · intro q9 h9; rfl
  · exact ce_put hq hci hfs rfl (by rw [fv_I hnr.2.2]; simp [up2]; rfl) (fun j9 h9 => fv_upI h9)

theorem pw_putF {idx ci k q : Nat} {x : UInt32} (hdg : decode cc pc = .ok (.putfield idx, 3)) (hf : fdOK Y.1 idx ci k) (hci : ci < 8) (hfin : ffin ci k = false) (hnr : fty ci k = .float) (hq : (σ.2.1 q).1 = ci + 1) (kk : PW cc Y Z (pc + 3) ls st σ I (up2 F q k x) β) : PW cc Y Z pc ls (.float x :: .ref q :: st) σ I F β := by
  intro p l e R s m args below meth c D base b al0 l0 d0 H locs cells slots lsM stM hc hd hls hs hw hS hk1 hk2
  obtain ⟨hx, hb, hr0, hts, hown, hlk, hml, hrf, hrl, hbs, hsp, -⟩ := id hc
  obtain ⟨_, t0, rfl, ⟨x', rfl, hx'⟩, hs⟩ := hs
  obtain ⟨_, t1, rfl, ⟨a, hqa, rfl⟩, hs⟩ := hs
  obtain ⟨ws, tys, g1, g2, g3, g4, g5, g6, g7, g8, g9, g10, g11⟩ := id hw
  obtain ⟨C, T, f1, f2, f3, f4, f5, f6⟩ := hf
  obtain ⟨j, en, hj, hjw, hce⟩ := wr_cell (D := D) (base := base) (b := b) (U := s) (H := H) g1 g6 g7 g8 (by rw [hq]; omega) (by rw [hq]; omega) hqa
  obtain ⟨fs, rfl, hfs⟩ := hce.1 ci hq hci
  obtain ⟨v', hv1, hv2⟩ := hfs k f3
  have hfl : k < fs.length := (List.getElem?_eq_some_iff.mp hv1).1
  refine va_put (s := s.setDrawn d0) (D := D) hx hb (dr_words hts d0) f2 (fty ci) f4 f5 hown g4 g3 g5 hS j hjw f1 k f3 (dr_words hts d0 _ f6) (fun _ h => h) (by rw [← ffin_of f1]; exact hfin) (ty := fty ci k) (f4 k f3) (by rw [hnr]; rfl) (by rw [hnr]; rfl) hfl hdg (fun H1 locs1 hP1 hD1 hS1 => ?_)
  subst hj
  refine kk p l e R s m args below meth c D base b al0 l0 d0 H1 locs1 cells slots lsM _ hc hd hls hs (wr_set (σ' := σ) (I' := I) (F' := up2 F (j + 1) k x) g1 g2 g4 g6 g7 g8 g9 hbs g11 hjw hP1 hD1 hS hS1 rfl rfl ?_ ?_ ?_ ?_) hS1 hk1 hk2
  · intro q9 h9; rfl
  · intro q9 h9; rfl
  · intro q9 h9; exact up2_row h9
  · exact ce_put hq hci hfs rfl (by rw [fv_F hnr]; exact ⟨x', rfl, by simp [up2]; exact hx'⟩) (fun j9 h9 => fv_upF h9)

theorem pw_putR {idx ci k q : Nat} {x : Nat} (hdg : decode cc pc = .ok (.putfield idx, 3)) (hf : fdOK Y.1 idx ci k) (hci : ci < 8) (hfin : ffin ci k = false) (hnr : isRt (fty ci k) = true) (hq : (σ.2.1 q).1 = ci + 1) (kk : PW cc Y Z (pc + 3) ls st (σ.1, σ.2.1, up2 σ.2.2 q k (some x)) I F β) : PW cc Y Z pc ls (.ref x :: .ref q :: st) σ I F β := by
  intro p l e R s m args below meth c D base b al0 l0 d0 H locs cells slots lsM stM hc hd hls hs hw hS hk1 hk2
  obtain ⟨hx, hb, hr0, hts, hown, hlk, hml, hrf, hrl, hbs, hsp, -⟩ := id hc
  obtain ⟨_, t0, rfl, ⟨xa, hx', rfl⟩, hs⟩ := hs
  obtain ⟨_, t1, rfl, ⟨a, hqa, rfl⟩, hs⟩ := hs
  obtain ⟨ws, tys, g1, g2, g3, g4, g5, g6, g7, g8, g9, g10, g11⟩ := id hw
  obtain ⟨C, T, f1, f2, f3, f4, f5, f6⟩ := hf
  obtain ⟨j, en, hj, hjw, hce⟩ := wr_cell (D := D) (base := base) (b := b) (U := s) (H := H) g1 g6 g7 g8 (by rw [hq]; omega) (by rw [hq]; omega) hqa
  obtain ⟨fs, rfl, hfs⟩ := hce.1 ci hq hci
  obtain ⟨v', hv1, hv2⟩ := hfs k f3
  have hfl : k < fs.length := (List.getElem?_eq_some_iff.mp hv1).1
  refine va_put (s := s.setDrawn d0) (D := D) hx hb (dr_words hts d0) f2 (fty ci) f4 f5 hown g4 g3 g5 hS j hjw f1 k f3 (dr_words hts d0 _ f6) (fun _ h => h) (by rw [← ffin_of f1]; exact hfin) (ty := fty ci k) (f4 k f3) (isRt_n hnr) (isRt_f hnr) hfl hdg (fun H1 locs1 hP1 hD1 hS1 => ?_)
  subst hj
  refine kk p l e R s m args below meth c D base b al0 l0 d0 H1 locs1 cells slots lsM _ hc hd hls hs (wr_set (σ' := (σ.1, σ.2.1, up2 σ.2.2 (j + 1) k (some x))) (I' := I) (F' := F) g1 g2 g4 g6 g7 g8 g9 hbs g11 hjw hP1 hD1 hS hS1 rfl rfl ?_ ?_ ?_ ?_) hS1 hk1 hk2
  · intro q9 h9; exact up2_row h9
  · intro q9 h9; rfl
  · intro q9 h9; rfl
  · exact ce_put hq hci hfs rfl (by rw [fv_R hnr]; simp only [up2, and_self, if_true]; exact ⟨xa, hx', rfl⟩) (fun j9 h9 => fv_upR h9)

theorem pw_putFI {idx ci k q : Nat} {x : Int32} (hdg : decode cc pc = .ok (.putfield idx, 3)) (hf : fdOK Y.1 idx ci k) (hci : ci < 8) (hfin : ffin ci k = true) (hini : Y.2.2.2.2.2 = true) (hdecl : fdecl ci k = Y.1) (hnr : narrow (fty ci k) (.int x) = .int x ∧ fits (fty ci k) (.int x) = true ∧ isIt (fty ci k) = true) (hq : (σ.2.1 q).1 = ci + 1) (kk : PW cc Y Z (pc + 3) ls st σ (up2 I q k x) F β) : PW cc Y Z pc ls (.int x :: .ref q :: st) σ I F β := by
  intro p l e R s m args below meth c D base b al0 l0 d0 H locs cells slots lsM stM hc hd hls hs hw hS hk1 hk2
  obtain ⟨hx, hb, hr0, hts, hown, hlk, hml, hrf, hrl, hbs, hsp, -⟩ := id hc
  obtain ⟨_, t0, rfl, rfl, hs⟩ := hs
  obtain ⟨_, t1, rfl, ⟨a, hqa, rfl⟩, hs⟩ := hs
  obtain ⟨ws, tys, g1, g2, g3, g4, g5, g6, g7, g8, g9, g10, g11⟩ := id hw
  obtain ⟨C, T, f1, f2, f3, f4, f5, f6⟩ := hf
  obtain ⟨j, en, hj, hjw, hce⟩ := wr_cell (D := D) (base := base) (b := b) (U := s) (H := H) g1 g6 g7 g8 (by rw [hq]; omega) (by rw [hq]; omega) hqa
  obtain ⟨fs, rfl, hfs⟩ := hce.1 ci hq hci
  obtain ⟨v', hv1, hv2⟩ := hfs k f3
  have hfl : k < fs.length := (List.getElem?_eq_some_iff.mp hv1).1
  refine va_putF (s := s.setDrawn d0) (D := D) hx hb (dr_words hts d0) f2 (fty ci) f4 f5 hown g4 g3 g5 hS j hjw f1 k f3 (dr_words hts d0 _ f6) (fun _ h => h) (by rw [← ffin_of f1]; exact hfin) (hc.2.2.2.2.2.2.2.2.2.2.2 hini) (by rw [← fdecl_of f1]; exact hdecl) (ty := fty ci k) (f4 k f3) hnr.1 hnr.2.1 hfl hdg (fun H1 locs1 hP1 hD1 hS1 => ?_)
  subst hj
  refine kk p l e R s m args below meth c D base b al0 l0 d0 H1 locs1 cells slots lsM _ hc hd hls hs (wr_set (σ' := σ) (I' := up2 I (j + 1) k x) (F' := F) g1 g2 g4 g6 g7 g8 g9 hbs g11 hjw hP1 hD1 hS hS1 rfl rfl ?_ ?_ ?_ ?_) hS1 hk1 hk2
  · intro q9 h9; rfl
  · intro q9 h9; exact up2_row h9
  · intro q9 h9; rfl
  · exact ce_put hq hci hfs rfl (by rw [fv_I hnr.2.2]; simp [up2]; rfl) (fun j9 h9 => fv_upI h9)

theorem pw_putFF {idx ci k q : Nat} {x : UInt32} (hdg : decode cc pc = .ok (.putfield idx, 3)) (hf : fdOK Y.1 idx ci k) (hci : ci < 8) (hfin : ffin ci k = true) (hini : Y.2.2.2.2.2 = true) (hdecl : fdecl ci k = Y.1) (hnr : fty ci k = .float) (hq : (σ.2.1 q).1 = ci + 1) (kk : PW cc Y Z (pc + 3) ls st σ I (up2 F q k x) β) : PW cc Y Z pc ls (.float x :: .ref q :: st) σ I F β := by
  intro p l e R s m args below meth c D base b al0 l0 d0 H locs cells slots lsM stM hc hd hls hs hw hS hk1 hk2
  obtain ⟨hx, hb, hr0, hts, hown, hlk, hml, hrf, hrl, hbs, hsp, -⟩ := id hc
  obtain ⟨_, t0, rfl, ⟨x', rfl, hx'⟩, hs⟩ := hs
  obtain ⟨_, t1, rfl, ⟨a, hqa, rfl⟩, hs⟩ := hs
  obtain ⟨ws, tys, g1, g2, g3, g4, g5, g6, g7, g8, g9, g10, g11⟩ := id hw
  obtain ⟨C, T, f1, f2, f3, f4, f5, f6⟩ := hf
  obtain ⟨j, en, hj, hjw, hce⟩ := wr_cell (D := D) (base := base) (b := b) (U := s) (H := H) g1 g6 g7 g8 (by rw [hq]; omega) (by rw [hq]; omega) hqa
  obtain ⟨fs, rfl, hfs⟩ := hce.1 ci hq hci
  obtain ⟨v', hv1, hv2⟩ := hfs k f3
  have hfl : k < fs.length := (List.getElem?_eq_some_iff.mp hv1).1
  refine va_putF (s := s.setDrawn d0) (D := D) hx hb (dr_words hts d0) f2 (fty ci) f4 f5 hown g4 g3 g5 hS j hjw f1 k f3 (dr_words hts d0 _ f6) (fun _ h => h) (by rw [← ffin_of f1]; exact hfin) (hc.2.2.2.2.2.2.2.2.2.2.2 hini) (by rw [← fdecl_of f1]; exact hdecl) (ty := fty ci k) (f4 k f3) (by rw [hnr]; rfl) (by rw [hnr]; rfl) hfl hdg (fun H1 locs1 hP1 hD1 hS1 => ?_)
  subst hj
  refine kk p l e R s m args below meth c D base b al0 l0 d0 H1 locs1 cells slots lsM _ hc hd hls hs (wr_set (σ' := σ) (I' := I) (F' := up2 F (j + 1) k x) g1 g2 g4 g6 g7 g8 g9 hbs g11 hjw hP1 hD1 hS hS1 rfl rfl ?_ ?_ ?_ ?_) hS1 hk1 hk2
  · intro q9 h9; rfl
  · intro q9 h9; rfl
  · intro q9 h9; exact up2_row h9
  · exact ce_put hq hci hfs rfl (by rw [fv_F hnr]; exact ⟨x', rfl, by simp [up2]; exact hx'⟩) (fun j9 h9 => fv_upF h9)

theorem pw_putFR {idx ci k q : Nat} {x : Nat} (hdg : decode cc pc = .ok (.putfield idx, 3)) (hf : fdOK Y.1 idx ci k) (hci : ci < 8) (hfin : ffin ci k = true) (hini : Y.2.2.2.2.2 = true) (hdecl : fdecl ci k = Y.1) (hnr : isRt (fty ci k) = true) (hq : (σ.2.1 q).1 = ci + 1) (kk : PW cc Y Z (pc + 3) ls st (σ.1, σ.2.1, up2 σ.2.2 q k (some x)) I F β) : PW cc Y Z pc ls (.ref x :: .ref q :: st) σ I F β := by
  intro p l e R s m args below meth c D base b al0 l0 d0 H locs cells slots lsM stM hc hd hls hs hw hS hk1 hk2
  obtain ⟨hx, hb, hr0, hts, hown, hlk, hml, hrf, hrl, hbs, hsp, -⟩ := id hc
  obtain ⟨_, t0, rfl, ⟨xa, hx', rfl⟩, hs⟩ := hs
  obtain ⟨_, t1, rfl, ⟨a, hqa, rfl⟩, hs⟩ := hs
  obtain ⟨ws, tys, g1, g2, g3, g4, g5, g6, g7, g8, g9, g10, g11⟩ := id hw
  obtain ⟨C, T, f1, f2, f3, f4, f5, f6⟩ := hf
  obtain ⟨j, en, hj, hjw, hce⟩ := wr_cell (D := D) (base := base) (b := b) (U := s) (H := H) g1 g6 g7 g8 (by rw [hq]; omega) (by rw [hq]; omega) hqa
  obtain ⟨fs, rfl, hfs⟩ := hce.1 ci hq hci
  obtain ⟨v', hv1, hv2⟩ := hfs k f3
  have hfl : k < fs.length := (List.getElem?_eq_some_iff.mp hv1).1
  refine va_putF (s := s.setDrawn d0) (D := D) hx hb (dr_words hts d0) f2 (fty ci) f4 f5 hown g4 g3 g5 hS j hjw f1 k f3 (dr_words hts d0 _ f6) (fun _ h => h) (by rw [← ffin_of f1]; exact hfin) (hc.2.2.2.2.2.2.2.2.2.2.2 hini) (by rw [← fdecl_of f1]; exact hdecl) (ty := fty ci k) (f4 k f3) (isRt_n hnr) (isRt_f hnr) hfl hdg (fun H1 locs1 hP1 hD1 hS1 => ?_)
  subst hj
  refine kk p l e R s m args below meth c D base b al0 l0 d0 H1 locs1 cells slots lsM _ hc hd hls hs (wr_set (σ' := (σ.1, σ.2.1, up2 σ.2.2 (j + 1) k (some x))) (I' := I) (F' := F) g1 g2 g4 g6 g7 g8 g9 hbs g11 hjw hP1 hD1 hS hS1 rfl rfl ?_ ?_ ?_ ?_) hS1 hk1 hk2
  · intro q9 h9; exact up2_row h9
  · intro q9 h9; rfl
  · intro q9 h9; rfl
  · exact ce_put hq hci hfs rfl (by rw [fv_R hnr]; simp only [up2, and_self, if_true]; exact ⟨xa, hx', rfl⟩) (fun j9 h9 => fv_upR h9)

/-! arrays -/
theorem pw_iald {q n : Nat} {i : Int32} (hdg : decode cc pc = .ok (.iaload, 1)) (hq : σ.2.1 q = (20, n)) (hin : vp_in i n) (kk : PW cc Y Z (pc + 1) ls (.int (I q i.toNatClampNeg) :: st) σ I F β) : PW cc Y Z pc ls (.int i :: .ref q :: st) σ I F β := by
  intro p l e R s m args below meth c D base b al0 l0 d0 H locs cells slots lsM stM hc hd hls hs hw hS hk1 hk2
  obtain ⟨hx, hb, hr0, hts, hown, hlk, hml, hrf, hrl, hbs, hsp, -⟩ := id hc
  obtain ⟨_, t0, rfl, rfl, hs⟩ := hs
  obtain ⟨_, t1, rfl, ⟨a, hqa, rfl⟩, hs⟩ := hs
  obtain ⟨ws, tys, g1, g2, g3, g4, g5, g6, g7, g8, g9, g10, g11⟩ := id hw
  obtain ⟨j, en, hj, hjw, hce⟩ := wr_cell (D := D) (base := base) (b := b) (U := s) (H := H) g1 g6 g7 g8 (by rw [hq]; show 20 ≠ 99; omega) (by rw [hq]; show 20 ≠ 0; omega) hqa
  have hlt : i.toNatClampNeg < n := Nat.not_le.mp fun q => hin (Or.inr q)
  obtain ⟨cA, f, rfl, ⟨t0', ht0⟩, hf⟩ := hce.2.1 (by rw [hq])
  rw [hq] at hjw hf
  refine va_iald (s := s.setDrawn d0) (D := D) hx hb g4 g3 j t0' hjw ht0 hin hdg ?_
  rw [hf _ hlt]
  exact kk p l e R s m args below meth c D base b al0 l0 d0 H locs cells slots lsM _ hc hd hls ⟨_, _, rfl, rfl, hs⟩ hw hS hk1 hk2

theorem pw_cald {q n : Nat} {i : Int32} (hdg : decode cc pc = .ok (.caload, 1)) (hq : σ.2.1 q = (21, n)) (hin : vp_in i n) (kk : PW cc Y Z (pc + 1) ls (.int (I q i.toNatClampNeg) :: st) σ I F β) : PW cc Y Z pc ls (.int i :: .ref q :: st) σ I F β := by
  intro p l e R s m args below meth c D base b al0 l0 d0 H locs cells slots lsM stM hc hd hls hs hw hS hk1 hk2
  obtain ⟨hx, hb, hr0, hts, hown, hlk, hml, hrf, hrl, hbs, hsp, -⟩ := id hc
  obtain ⟨_, t0, rfl, rfl, hs⟩ := hs
  obtain ⟨_, t1, rfl, ⟨a, hqa, rfl⟩, hs⟩ := hs
  obtain ⟨ws, tys, g1, g2, g3, g4, g5, g6, g7, g8, g9, g10, g11⟩ := id hw
  obtain ⟨j, en, hj, hjw, hce⟩ := wr_cell (D := D) (base := base) (b := b) (U := s) (H := H) g1 g6 g7 g8 (by rw [hq]; show 21 ≠ 99; omega) (by rw [hq]; show 21 ≠ 0; omega) hqa
  have hlt : i.toNatClampNeg < n := Nat.not_le.mp fun q => hin (Or.inr q)
  obtain ⟨cA, f, rfl, ⟨t0', ht0⟩, hf⟩ := hce.2.2.1 (by rw [hq])
  rw [hq] at hjw hf
  refine va_cald (s := s.setDrawn d0) (D := D) hx hb g4 g3 j t0' hjw ht0 hin hdg ?_
  rw [hf _ hlt]
  exact kk p l e R s m args below meth c D base b al0 l0 d0 H locs cells slots lsM _ hc hd hls ⟨_, _, rfl, rfl, hs⟩ hw hS hk1 hk2

theorem pw_fald {q n : Nat} {i : Int32} (hdg : decode cc pc = .ok (.faload, 1)) (hq : σ.2.1 q = (22, n)) (hin : vp_in i n) (kk : PW cc Y Z (pc + 1) ls (.float (F q i.toNatClampNeg) :: st) σ I F β) : PW cc Y Z pc ls (.int i :: .ref q :: st) σ I F β := by
  intro p l e R s m args below meth c D base b al0 l0 d0 H locs cells slots lsM stM hc hd hls hs hw hS hk1 hk2
  obtain ⟨hx, hb, hr0, hts, hown, hlk, hml, hrf, hrl, hbs, hsp, -⟩ := id hc
  obtain ⟨_, t0, rfl, rfl, hs⟩ := hs
  obtain ⟨_, t1, rfl, ⟨a, hqa, rfl⟩, hs⟩ := hs
  obtain ⟨ws, tys, g1, g2, g3, g4, g5, g6, g7, g8, g9, g10, g11⟩ := id hw
  obtain ⟨j, en, hj, hjw, hce⟩ := wr_cell (D := D) (base := base) (b := b) (U := s) (H := H) g1 g6 g7 g8 (by rw [hq]; show 22 ≠ 99; omega) (by rw [hq]; show 22 ≠ 0; omega) hqa
  have hlt : i.toNatClampNeg < n := Nat.not_le.mp fun q => hin (Or.inr q)
  obtain ⟨cA, f, rfl, ⟨t0', ht0⟩, hf⟩ := hce.2.2.2.1 (by rw [hq])
  rw [hq] at hjw hf
  refine va_fald (s := s.setDrawn d0) (D := D) hx hb g4 g3 j t0' hjw ht0 hin hdg ?_
  exact kk p l e R s m args below meth c D base b al0 l0 d0 H locs cells slots lsM _ hc hd hls ⟨_, _, rfl, ⟨_, rfl, hf _ hlt⟩, hs⟩ hw hS hk1 hk2

theorem pw_aald {q n : Nat} {i : Int32} {ci x : Nat} (hdg : decode cc pc = .ok (.aaload, 1)) (hq : σ.2.1 q = (ci + 30, n)) (hin : vp_in i n) (hci : ci < 8) (hx9 : σ.2.2 q i.toNatClampNeg = some x) (kk : PW cc Y Z (pc + 1) ls (.ref x :: st) σ I F β) : PW cc Y Z pc ls (.int i :: .ref q :: st) σ I F β := by
  intro p l e R s m args below meth c D base b al0 l0 d0 H locs cells slots lsM stM hc hd hls hs hw hS hk1 hk2
  obtain ⟨hx, hb, hr0, hts, hown, hlk, hml, hrf, hrl, hbs, hsp, -⟩ := id hc
  obtain ⟨_, t0, rfl, rfl, hs⟩ := hs
  obtain ⟨_, t1, rfl, ⟨a, hqa, rfl⟩, hs⟩ := hs
  obtain ⟨ws, tys, g1, g2, g3, g4, g5, g6, g7, g8, g9, g10, g11⟩ := id hw
  obtain ⟨j, en, hj, hjw, hce⟩ := wr_cell (D := D) (base := base) (b := b) (U := s) (H := H) g1 g6 g7 g8 (by rw [hq]; show ci + 30 ≠ 99; omega) (by rw [hq]; show ci + 30 ≠ 0; omega) hqa
  have hlt : i.toNatClampNeg < n := Nat.not_le.mp fun q => hin (Or.inr q)
  obtain ⟨cA, f, rfl, ⟨t0', ht0⟩, hf⟩ := hce.2.2.2.2 ci (by rw [hq]) hci
  rw [hq] at hjw hf
  refine va_aldq (s := s.setDrawn d0) (D := D) hx hb g4 g3 j t0' hjw ht0 hin hdg ?_
  have hfx := hf _ hlt
  rw [hx9] at hfx
  exact kk p l e R s m args below meth c D base b al0 l0 d0 H locs cells slots lsM _ hc hd hls ⟨_, _, rfl, hfx, hs⟩ hw hS hk1 hk2

theorem pw_sald {n : Nat} {i : Int32} (hdg : decode cc pc = .ok (.iaload, 1)) (hq : (σ.2.1 0).2 = n) (hin : vp_in i n) (kk : PW cc Y Z (pc + 1) ls (.int (I 0 i.toNatClampNeg) :: st) σ I F β) : PW cc Y Z pc ls (.int i :: .ref 0 :: st) σ I F β := by
  intro p l e R s m args below meth c D base b al0 l0 d0 H locs cells slots lsM stM hc hd hls hs hw hS hk1 hk2
  obtain ⟨hx, hb, hr0, hts, hown, hlk, hml, hrf, hrl, hbs, hsp, -⟩ := id hc
  obtain ⟨_, t0, rfl, rfl, hs⟩ := hs
  obtain ⟨_, t1, rfl, ⟨a, hqa, rfl⟩, hs⟩ := hs
  obtain ⟨ws, tys, g1, g2, g3, g4, g5, g6, g7, g8, g9, g10, g11⟩ := id hw
  have ha : a = b := by
    rw [g1, List.getElem?_cons_zero] at hqa
    exact (Option.some.inj hqa).symm
  subst ha
  have hS0 : va_S (fun q : Nat => base ≤ q) H H locs := ⟨Nat.le_refl _, fun _ _ _ => rfl, hS.2.2⟩
  have hbl : a < H.size := Nat.lt_of_lt_of_le g9 g10
  subst hq
  refine va_sld (s := s.setDrawn d0) (A := fun q : Nat => base ≤ q) hx hb (H0 := H) g11 hbl (Nat.not_le.mpr g9) hS0 hin hdg ?_
  exact kk p l e R s m args below meth c D base a al0 l0 d0 H locs cells slots lsM _ hc hd hls ⟨_, _, rfl, rfl, hs⟩ hw hS hk1 hk2

theorem pw_slen {n : Nat} (hdg : decode cc pc = .ok (.arraylength, 1)) (hq : (σ.2.1 0).2 = n) (kk : PW cc Y Z (pc + 1) ls (.int (Int32.ofNat n) :: st) σ I F β) : PW cc Y Z pc ls (.ref 0 :: st) σ I F β := by
  intro p l e R s m args below meth c D base b al0 l0 d0 H locs cells slots lsM stM hc hd hls hs hw hS hk1 hk2
  obtain ⟨hx, hb, hr0, hts, hown, hlk, hml, hrf, hrl, hbs, hsp, -⟩ := id hc
  obtain ⟨_, t1, rfl, ⟨a, hqa, rfl⟩, hs⟩ := hs
  obtain ⟨ws, tys, g1, g2, g3, g4, g5, g6, g7, g8, g9, g10, g11⟩ := id hw
  have ha : a = b := by
    rw [g1, List.getElem?_cons_zero] at hqa
    exact (Option.some.inj hqa).symm
  subst ha
  have hS0 : va_S (fun q : Nat => base ≤ q) H H locs := ⟨Nat.le_refl _, fun _ _ _ => rfl, hS.2.2⟩
  have hbl : a < H.size := Nat.lt_of_lt_of_le g9 g10
  subst hq
  refine va_slen (s := s.setDrawn d0) (A := fun q : Nat => base ≤ q) hx hb (H0 := H) g11 hbl (Nat.not_le.mpr g9) hS0 hdg ?_
  exact kk p l e R s m args below meth c D base a al0 l0 d0 H locs cells slots lsM _ hc hd hls ⟨_, _, rfl, rfl, hs⟩ hw hS hk1 hk2

theorem pw_alenI {q n : Nat} (hdg : decode cc pc = .ok (.arraylength, 1)) (hq : σ.2.1 q = (20, n)) (kk : PW cc Y Z (pc + 1) ls (.int (Int32.ofNat n) :: st) σ I F β) : PW cc Y Z pc ls (.ref q :: st) σ I F β := by
  intro p l e R s m args below meth c D base b al0 l0 d0 H locs cells slots lsM stM hc hd hls hs hw hS hk1 hk2
  obtain ⟨hx, hb, hr0, hts, hown, hlk, hml, hrf, hrl, hbs, hsp, -⟩ := id hc
  obtain ⟨_, t1, rfl, ⟨a, hqa, rfl⟩, hs⟩ := hs
  obtain ⟨ws, tys, g1, g2, g3, g4, g5, g6, g7, g8, g9, g10, g11⟩ := id hw
  obtain ⟨j, en, hj, hjw, hce⟩ := wr_cell (D := D) (base := base) (b := b) (U := s) (H := H) g1 g6 g7 g8 (by rw [hq]; show 20 ≠ 99; omega) (by rw [hq]; show 20 ≠ 0; omega) hqa
  obtain ⟨cA, f, rfl, ⟨t0', ht0⟩, hf⟩ := hce.2.1 (by rw [hq])
  rw [hq] at hjw
  refine va_alen (s := s.setDrawn d0) (D := D) hx hb g4 g3 j t0' hjw ht0 rfl hdg ?_
  exact kk p l e R s m args below meth c D base b al0 l0 d0 H locs cells slots lsM _ hc hd hls ⟨_, _, rfl, rfl, hs⟩ hw hS hk1 hk2

theorem pw_alenC {q n : Nat} (hdg : decode cc pc = .ok (.arraylength, 1)) (hq : σ.2.1 q = (21, n)) (kk : PW cc Y Z (pc + 1) ls (.int (Int32.ofNat n) :: st) σ I F β) : PW cc Y Z pc ls (.ref q :: st) σ I F β := by
  intro p l e R s m args below meth c D base b al0 l0 d0 H locs cells slots lsM stM hc hd hls hs hw hS hk1 hk2
  obtain ⟨hx, hb, hr0, hts, hown, hlk, hml, hrf, hrl, hbs, hsp, -⟩ := id hc
  obtain ⟨_, t1, rfl, ⟨a, hqa, rfl⟩, hs⟩ := hs
  obtain ⟨ws, tys, g1, g2, g3, g4, g5, g6, g7, g8, g9, g10, g11⟩ := id hw
  obtain ⟨j, en, hj, hjw, hce⟩ := wr_cell (D := D) (base := base) (b := b) (U := s) (H := H) g1 g6 g7 g8 (by rw [hq]; show 21 ≠ 99; omega) (by rw [hq]; show 21 ≠ 0; omega) hqa
  obtain ⟨cA, f, rfl, ⟨t0', ht0⟩, hf⟩ := hce.2.2.1 (by rw [hq])
  rw [hq] at hjw
  refine va_alen (s := s.setDrawn d0) (D := D) hx hb g4 g3 j t0' hjw ht0 rfl hdg ?_
  exact kk p l e R s m args below meth c D base b al0 l0 d0 H locs cells slots lsM _ hc hd hls ⟨_, _, rfl, rfl, hs⟩ hw hS hk1 hk2

theorem pw_alenF {q n : Nat} (hdg : decode cc pc = .ok (.arraylength, 1)) (hq : σ.2.1 q = (22, n)) (kk : PW cc Y Z (pc + 1) ls (.int (Int32.ofNat n) :: st) σ I F β) : PW cc Y Z pc ls (.ref q :: st) σ I F β := by
  intro p l e R s m args below meth c D base b al0 l0 d0 H locs cells slots lsM stM hc hd hls hs hw hS hk1 hk2
  obtain ⟨hx, hb, hr0, hts, hown, hlk, hml, hrf, hrl, hbs, hsp, -⟩ := id hc
  obtain ⟨_, t1, rfl, ⟨a, hqa, rfl⟩, hs⟩ := hs
  obtain ⟨ws, tys, g1, g2, g3, g4, g5, g6, g7, g8, g9, g10, g11⟩ := id hw
  obtain ⟨j, en, hj, hjw, hce⟩ := wr_cell (D := D) (base := base) (b := b) (U := s) (H := H) g1 g6 g7 g8 (by rw [hq]; show 22 ≠ 99; omega) (by rw [hq]; show 22 ≠ 0; omega) hqa
  obtain ⟨cA, f, rfl, ⟨t0', ht0⟩, hf⟩ := hce.2.2.2.1 (by rw [hq])
  rw [hq] at hjw
  refine va_alen (s := s.setDrawn d0) (D := D) hx hb g4 g3 j t0' hjw ht0 rfl hdg ?_
  exact kk p l e R s m args below meth c D base b al0 l0 d0 H locs cells slots lsM _ hc hd hls ⟨_, _, rfl, rfl, hs⟩ hw hS hk1 hk2

theorem pw_alenR {q n : Nat} {ci : Nat} (hdg : decode cc pc = .ok (.arraylength, 1)) (hq : σ.2.1 q = (ci + 30, n)) (hci : ci < 8) (kk : PW cc Y Z (pc + 1) ls (.int (Int32.ofNat n) :: st) σ I F β) : PW cc Y Z pc ls (.ref q :: st) σ I F β := by
  intro p l e R s m args below meth c D base b al0 l0 d0 H locs cells slots lsM stM hc hd hls hs hw hS hk1 hk2
  obtain ⟨hx, hb, hr0, hts, hown, hlk, hml, hrf, hrl, hbs, hsp, -⟩ := id hc
  obtain ⟨_, t1, rfl, ⟨a, hqa, rfl⟩, hs⟩ := hs
  obtain ⟨ws, tys, g1, g2, g3, g4, g5, g6, g7, g8, g9, g10, g11⟩ := id hw
  obtain ⟨j, en, hj, hjw, hce⟩ := wr_cell (D := D) (base := base) (b := b) (U := s) (H := H) g1 g6 g7 g8 (by rw [hq]; show ci + 30 ≠ 99; omega) (by rw [hq]; show ci + 30 ≠ 0; omega) hqa
  obtain ⟨cA, f, rfl, ⟨t0', ht0⟩, hf⟩ := hce.2.2.2.2 ci (by rw [hq]) hci
  rw [hq] at hjw
  refine va_alen (s := s.setDrawn d0) (D := D) hx hb g4 g3 j t0' hjw ht0 rfl hdg ?_
  exact kk p l e R s m args below meth c D base b al0 l0 d0 H locs cells slots lsM _ hc hd hls ⟨_, _, rfl, rfl, hs⟩ hw hS hk1 hk2

theorem pw_iast {q n : Nat} {i : Int32} {x : Int32} (hdg : decode cc pc = .ok (.iastore, 1)) (hq : σ.2.1 q = (20, n)) (hin : vp_in i n) (kk : PW cc Y Z (pc + 1) ls st σ (up2 I q i.toNatClampNeg x) F β) : PW cc Y Z pc ls (.int x :: .int i :: .ref q :: st) σ I F β := by
  intro p l e R s m args below meth c D base b al0 l0 d0 H locs cells slots lsM stM hc hd hls hs hw hS hk1 hk2
  obtain ⟨hx, hb, hr0, hts, hown, hlk, hml, hrf, hrl, hbs, hsp, -⟩ := id hc
  obtain ⟨_, t9, rfl, rfl, hs⟩ := hs
  obtain ⟨_, t0, rfl, rfl, hs⟩ := hs
  obtain ⟨_, t1, rfl, ⟨a, hqa, rfl⟩, hs⟩ := hs
  obtain ⟨ws, tys, g1, g2, g3, g4, g5, g6, g7, g8, g9, g10, g11⟩ := id hw
  obtain ⟨j, en, hj, hjw, hce⟩ := wr_cell (D := D) (base := base) (b := b) (U := s) (H := H) g1 g6 g7 g8 (by rw [hq]; show 20 ≠ 99; omega) (by rw [hq]; show 20 ≠ 0; omega) hqa
  obtain ⟨cA, f, rfl, ⟨t0', ht0⟩, hf⟩ := hce.2.1 (by rw [hq])
  rw [hq] at hjw hf
  refine va_iast (s := s.setDrawn d0) (D := D) hx hb g4 g3 g5 hS j t0' hjw ht0 hin hdg (fun H1 locs1 hP1 hD1 hS1 => ?_)
  subst hj
  refine kk p l e R s m args below meth c D base b al0 l0 d0 H1 locs1 cells slots lsM _ hc hd hls hs (wr_set (σ' := σ) (I' := up2 I (j + 1) i.toNatClampNeg x) (F' := F) g1 g2 g4 g6 g7 g8 g9 hbs g11 hjw hP1 hD1 hS hS1 rfl rfl ?_ ?_ ?_ ?_) hS1 hk1 hk2
  · intro q9 h9; rfl
  · intro q9 h9; exact up2_row h9
  · intro q9 h9; rfl
  · refine ⟨fun c h1 _ => by exfalso; (try dsimp only at h1); rw [hq] at h1; (try dsimp only at h1); omega, fun h1 => ?_, fun h1 => ?_, fun h1 => ?_, fun c h1 h2 => ?_⟩
    · rw [hq]; exact ⟨cA, _, rfl, ⟨t0', ht0⟩, fun k hk => by simp only [upd, up2, true_and]; split <;> first | rfl | exact hf k hk⟩
    · exfalso; (try dsimp only at h1); rw [hq] at h1; (try dsimp only at h1); omega
    · exfalso; (try dsimp only at h1); rw [hq] at h1; (try dsimp only at h1); omega
    · exfalso; (try dsimp only at h1); rw [hq] at h1; (try dsimp only at h1); omega


theorem pw_cast {q n : Nat} {i : Int32} {x : Int32} (hdg : decode cc pc = .ok (.castore, 1)) (hq : σ.2.1 q = (21, n)) (hin : vp_in i n) (kk : PW cc Y Z (pc + 1) ls st σ (up2 I q i.toNatClampNeg (vp_nar .char x)) F β) : PW cc Y Z pc ls (.int x :: .int i :: .ref q :: st) σ I F β := by
  intro p l e R s m args below meth c D base b al0 l0 d0 H locs cells slots lsM stM hc hd hls hs hw hS hk1 hk2
  obtain ⟨hx, hb, hr0, hts, hown, hlk, hml, hrf, hrl, hbs, hsp, -⟩ := id hc
  obtain ⟨_, t9, rfl, rfl, hs⟩ := hs
  obtain ⟨_, t0, rfl, rfl, hs⟩ := hs
  obtain ⟨_, t1, rfl, ⟨a, hqa, rfl⟩, hs⟩ := hs
  obtain ⟨ws, tys, g1, g2, g3, g4, g5, g6, g7, g8, g9, g10, g11⟩ := id hw
  obtain ⟨j, en, hj, hjw, hce⟩ := wr_cell (D := D) (base := base) (b := b) (U := s) (H := H) g1 g6 g7 g8 (by rw [hq]; show 21 ≠ 99; omega) (by rw [hq]; show 21 ≠ 0; omega) hqa
  obtain ⟨cA, f, rfl, ⟨t0', ht0⟩, hf⟩ := hce.2.2.1 (by rw [hq])
  rw [hq] at hjw hf
  refine va_cast (s := s.setDrawn d0) (D := D) hx hb g4 g3 g5 hS j t0' hjw ht0 hin hdg (fun H1 locs1 hP1 hD1 hS1 => ?_)
  subst hj
  refine kk p l e R s m args below meth c D base b al0 l0 d0 H1 locs1 cells slots lsM _ hc hd hls hs (wr_set (σ' := σ) (I' := up2 I (j + 1) i.toNatClampNeg (vp_nar .char x)) (F' := F) g1 g2 g4 g6 g7 g8 g9 hbs g11 hjw hP1 hD1 hS hS1 rfl rfl ?_ ?_ ?_ ?_) hS1 hk1 hk2
  · intro q9 h9; rfl
  · intro q9 h9; exact up2_row h9
  · intro q9 h9; rfl
  · refine ⟨fun c h1 _ => by exfalso; (try dsimp only at h1); rw [hq] at h1; (try dsimp only at h1); omega, fun h1 => ?_, fun h1 => ?_, fun h1 => ?_, fun c h1 h2 => ?_⟩
    · exfalso; (try dsimp only at h1); rw [hq] at h1; (try dsimp only at h1); omega
    · rw [hq]; exact ⟨cA, _, rfl, ⟨t0', ht0⟩, fun k hk => by simp only [upd, up2, true_and]; split <;> first | rfl | exact hf k hk⟩
    · exfalso; (try dsimp only at h1); rw [hq] at h1; (try dsimp only at h1); omega
    · exfalso; (try dsimp only at h1); rw [hq] at h1; (try dsimp only at h1); omega


theorem pw_fast {q n : Nat} {i : Int32} {x : UInt32} (hdg : decode cc pc = .ok (.fastore, 1)) (hq : σ.2.1 q = (22, n)) (hin : vp_in i n) (kk : PW cc Y Z (pc + 1) ls st σ I (up2 F q i.toNatClampNeg x) β) : PW cc Y Z pc ls (.float x :: .int i :: .ref q :: st) σ I F β := by
  intro p l e R s m args below meth c D base b al0 l0 d0 H locs cells slots lsM stM hc hd hls hs hw hS hk1 hk2
  obtain ⟨hx, hb, hr0, hts, hown, hlk, hml, hrf, hrl, hbs, hsp, -⟩ := id hc
  obtain ⟨_, t9, rfl, ⟨x', rfl, hx'⟩, hs⟩ := hs
  obtain ⟨_, t0, rfl, rfl, hs⟩ := hs
  obtain ⟨_, t1, rfl, ⟨a, hqa, rfl⟩, hs⟩ := hs
  obtain ⟨ws, tys, g1, g2, g3, g4, g5, g6, g7, g8, g9, g10, g11⟩ := id hw
  obtain ⟨j, en, hj, hjw, hce⟩ := wr_cell (D := D) (base := base) (b := b) (U := s) (H := H) g1 g6 g7 g8 (by rw [hq]; show 22 ≠ 99; omega) (by rw [hq]; show 22 ≠ 0; omega) hqa
  obtain ⟨cA, f, rfl, ⟨t0', ht0⟩, hf⟩ := hce.2.2.2.1 (by rw [hq])
  rw [hq] at hjw hf
  refine va_fast (s := s.setDrawn d0) (D := D) hx hb g4 g3 g5 hS j t0' hjw ht0 hin hdg (fun H1 locs1 hP1 hD1 hS1 => ?_)
  subst hj
  refine kk p l e R s m args below meth c D base b al0 l0 d0 H1 locs1 cells slots lsM _ hc hd hls hs (wr_set (σ' := σ) (I' := I) (F' := up2 F (j + 1) i.toNatClampNeg x) g1 g2 g4 g6 g7 g8 g9 hbs g11 hjw hP1 hD1 hS hS1 rfl rfl ?_ ?_ ?_ ?_) hS1 hk1 hk2
  · intro q9 h9; rfl
  · intro q9 h9; rfl
  · intro q9 h9; exact up2_row h9
  · refine ⟨fun c h1 _ => by exfalso; (try dsimp only at h1); rw [hq] at h1; (try dsimp only at h1); omega, fun h1 => ?_, fun h1 => ?_, fun h1 => ?_, fun c h1 h2 => ?_⟩
    · exfalso; (try dsimp only at h1); rw [hq] at h1; (try dsimp only at h1); omega
    · exfalso; (try dsimp only at h1); rw [hq] at h1; (try dsimp only at h1); omega
    · rw [hq]; exact ⟨cA, _, rfl, ⟨t0', ht0⟩, fun k hk => by simp only [vf_upd, up2, true_and]; split <;> first | exact hx' | exact hf k hk⟩
    · exfalso; (try dsimp only at h1); rw [hq] at h1; (try dsimp only at h1); omega


theorem pw_aast {q n : Nat} {i : Int32} {x : Nat} {ci : Nat} (hdg : decode cc pc = .ok (.aastore, 1)) (hq : σ.2.1 q = (ci + 30, n)) (hin : vp_in i n) (hci : ci < 8) (hxk : (σ.2.1 x).1 = ci + 1) (kk : PW cc Y Z (pc + 1) ls st (σ.1, σ.2.1, up2 σ.2.2 q i.toNatClampNeg (some x)) I F β) : PW cc Y Z pc ls (.ref x :: .int i :: .ref q :: st) σ I F β := by
  intro p l e R s m args below meth c D base b al0 l0 d0 H locs cells slots lsM stM hc hd hls hs hw hS hk1 hk2
  obtain ⟨hx, hb, hr0, hts, hown, hlk, hml, hrf, hrl, hbs, hsp, -⟩ := id hc
  obtain ⟨_, t9, rfl, ⟨xa, hxa, rfl⟩, hs⟩ := hs
  obtain ⟨_, t0, rfl, rfl, hs⟩ := hs
  obtain ⟨_, t1, rfl, ⟨a, hqa, rfl⟩, hs⟩ := hs
  obtain ⟨ws, tys, g1, g2, g3, g4, g5, g6, g7, g8, g9, g10, g11⟩ := id hw
  obtain ⟨j, en, hj, hjw, hce⟩ := wr_cell (D := D) (base := base) (b := b) (U := s) (H := H) g1 g6 g7 g8 (by rw [hq]; show ci + 30 ≠ 99; omega) (by rw [hq]; show ci + 30 ≠ 0; omega) hqa
  obtain ⟨cA, f, rfl, ⟨t0', ht0⟩, hf⟩ := hce.2.2.2.2 ci (by rw [hq]) hci
  rw [hq] at hjw hf
  obtain ⟨jx, enx, hjx, hjwx, hcex⟩ := wr_cell (D := D) (base := base) (b := b) (U := s) (H := H) g1 g6 g7 g8 (by rw [hxk]; omega) (by rw [hxk]; omega) hxa
  obtain ⟨fsx, rfl, -⟩ := hcex.1 ci hxk hci
  obtain ⟨rr, hrr, hrn⟩ : ∃ rr : vw_C, vwCl[ci]? = some rr ∧ rr.1 = cnm ci := vw_at hci
  refine va_astq (s := s.setDrawn d0) (D := D) hx hb g4 g3 g5 hS j t0' jx ci (r := rr) hjw (by rw [hrn]; exact ht0) hjwx hrr hin hdg (fun H1 locs1 hP1 hD1 hS1 => ?_)
  subst hj
  refine kk p l e R s m args below meth c D base b al0 l0 d0 H1 locs1 cells slots lsM _ hc hd hls hs (wr_set (σ' := (σ.1, σ.2.1, up2 σ.2.2 (j + 1) i.toNatClampNeg (some x))) (I' := I) (F' := F) g1 g2 g4 g6 g7 g8 g9 hbs g11 hjw hP1 hD1 hS hS1 rfl rfl ?_ ?_ ?_ ?_) hS1 hk1 hk2
  · intro q9 h9; exact up2_row h9
  · intro q9 h9; rfl
  · intro q9 h9; rfl
  · refine ⟨fun c h1 _ => by exfalso; (try dsimp only at h1); rw [hq] at h1; (try dsimp only at h1); omega, fun h1 => ?_, fun h1 => ?_, fun h1 => ?_, fun c h1 h2 => ?_⟩
    · exfalso; (try dsimp only at h1); rw [hq] at h1; (try dsimp only at h1); omega
    · exfalso; (try dsimp only at h1); rw [hq] at h1; (try dsimp only at h1); omega
    · exfalso; (try dsimp only at h1); rw [hq] at h1; (try dsimp only at h1); omega
    · (try dsimp only at h1); rw [hq] at h1; (try dsimp only at h1)
      have hcc : ci = c := by omega
      subst hcc
      (try dsimp only); rw [hq]
      exact ⟨cA, _, rfl, ⟨t0', ht0⟩, fun k hk => by simp only [va_up, up2, true_and]; split <;> first | exact ⟨xa, hxa, rfl⟩ | exact hf k hk⟩


end PR
end
section
/-! cells that are made -/
def upr {α : Type} (f : Nat → α) (q : Nat) (r : α) : Nat → α := fun j => if j = q then r else f j
theorem upr_s {α : Type} {f : Nat → α} {q : Nat} {r : α} : upr f q r q = r := by simp [upr]
theorem upr_n {α : Type} {f : Nat → α} {q j : Nat} {r : α} (h : j ≠ q) : upr f q r j = f j := by simp [upr, h]
/-- the world with one cell more -/
abbrev σnew (σ : pT) (k n : Nat) : pT := (σ.1 + 1, upr σ.2.1 (σ.1 + 1) (k, n), upr σ.2.2 (σ.1 + 1) (fun _ => none))
abbrev Inew (σ : pT) (I : pI) : pI := upr I (σ.1 + 1) (fun _ => 0)
abbrev Fnew (σ : pT) (F : pF) : pF := upr F (σ.1 + 1) (fun _ => 0)
def dfl (ci : Nat) : List Value := (List.range (fN ci)).map fun k => defaultValue (fty ci k)
theorem dfl_at {ci k : Nat} (h : k < fN ci) : (dfl ci)[k]? = some (defaultValue (fty ci k)) := by
  unfold dfl
  rw [List.getElem?_map, List.getElem?_range h]
  rfl
theorem dfl_V {ci k : Nat} (h : k < fN ci) : defaultValue (fty ci k) = vp_V (dfl ci) k := by
  unfold vp_V
  rw [List.getD_eq_getElem?_getD, dfl_at h]
  rfl
theorem fty_ok (ci k : Nat) : fty ci k ≠ .long ∧ fty ci k ≠ .double := by
  unfold fty
  split <;> first | (unfold tyX0; split <;> exact ⟨by decide, by decide⟩) | (unfold tyX1; split <;> exact ⟨by decide, by decide⟩) | (unfold tyX2; split <;> exact ⟨by decide, by decide⟩) | (unfold tyX3; split <;> exact ⟨by decide, by decide⟩) | (unfold tyX4; split <;> exact ⟨by decide, by decide⟩) | (unfold tyX5; split <;> exact ⟨by decide, by decide⟩) | (unfold tyX6; split <;> exact ⟨by decide, by decide⟩) | (unfold tyX7; split <;> exact ⟨by decide, by decide⟩) | (unfold tyX8; split <;> exact ⟨by decide, by decide⟩)
theorem fv_new {al : List Nat} {σ : pT} {I : pI} {F : pF} {kd n ci k : Nat} : vr al (fv (σnew σ kd n) (Inew σ I) (Fnew σ F) ci (σ.1 + 1) k) (defaultValue (fty ci k)) := by
  have hok := fty_ok ci k
  unfold fv
  generalize fty ci k = t at hok
  cases t <;> simp only [upr_s, σnew, Inew, Fnew, rv, vr, defaultValue]
  · exact absurd rfl hok.2
  · exact ⟨_, rfl, alike32_refl _⟩
  · exact absurd rfl hok.1
section PA
variable {cc : ByteArray} {Y : mB} {Z : pZ} {pc : Nat} {ls st : List Value} {σ : pT} {I : pI} {F : pF} {β : Nat × Nat}

theorem pw_fconst0 (hdg : decode cc pc = .ok (.fconst 0, 1)) (k : PW cc Y Z (pc + 1) ls (.float FP.fconst0 :: st) σ I F β) : PW cc Y Z pc ls st σ I F β := by
  intro p l e R s m args below meth c D base b al0 l0 d0 H locs cells slots lsM stM hc hd hls hs hw hS hk1 hk2
  obtain ⟨hx, hb, hr0, hts, hown, hlk, hml, hrf, hrl, hbs, hsp, -⟩ := id hc
  exact lv_fconst0 hx hb hdg (k p l e R s m args below meth c D base b al0 l0 d0 H locs cells slots lsM _ hc hd hls ⟨_, _, rfl, ⟨_, rfl, alike32_refl _⟩, hs⟩ hw hS hk1 hk2)

theorem pw_fconst1 (hdg : decode cc pc = .ok (.fconst 1, 1)) (k : PW cc Y Z (pc + 1) ls (.float FP.fconst1 :: st) σ I F β) : PW cc Y Z pc ls st σ I F β := by
  intro p l e R s m args below meth c D base b al0 l0 d0 H locs cells slots lsM stM hc hd hls hs hw hS hk1 hk2
  obtain ⟨hx, hb, hr0, hts, hown, hlk, hml, hrf, hrl, hbs, hsp, -⟩ := id hc
  exact lv_fconst1 hx hb hdg (k p l e R s m args below meth c D base b al0 l0 d0 H locs cells slots lsM _ hc hd hls ⟨_, _, rfl, ⟨_, rfl, alike32_refl _⟩, hs⟩ hw hS hk1 hk2)

theorem pw_new {idx ci i9 k9 : Nat} {own9 : String} (hdg : decode cc pc = .ok (.new idx, 3)) (hci : ci < 8) (hf : fdOK own9 i9 ci k9) (hcl : Cond.classLink Y.1 idx (cnm ci) ∈ wsA) (hin : Cond.instantiable (cnm ci) (fN ci) ∈ wsA) (hini : Cond.initialized (cnm ci) ∈ wsA) (hβ : 1 ≤ β.1 ∧ fN ci ≤ β.2) (kk : PW cc Y Z (pc + 3) ls (.ref (σ.1 + 1) :: st) (σnew σ (ci + 1) (fN ci)) (Inew σ I) (Fnew σ F) (β.1 - 1, β.2 - fN ci)) : PW cc Y Z pc ls st σ I F β := by
  intro p l e R s m args below meth c D base b al0 l0 d0 H locs cells slots lsM stM hc hd hls hs hw hS hk1 hk2
  obtain ⟨hx, hb, hr0, hts, hown, hlk, hml, hrf, hrl, hbs, hsp, -⟩ := id hc
  obtain ⟨ws, tys, g1, g2, g3, g4, g5, g6, g7, g8, g9, g10, g11⟩ := id hw
  obtain ⟨C, T, f1, f2, f3, f4, f5, f6⟩ := hf
  obtain ⟨rr, hrr, hrn⟩ := vw_at hci
  rw [f1] at hrr
  cases hrr
  have hrn : C = cnm ci := hrn
  subst hrn
  refine va_new (s := s.setDrawn d0) (D := D) (A := fun q : Nat => base ≤ q) (fs := dfl ci) hx hb (dr_words hts d0) f2 (fty ci) f4 hown (dr_words hts d0 _ hcl) (dr_words hts d0 _ hin) (dr_words hts d0 _ hini) g4 g3 g5 hS (fun q9 h9 => Nat.le_trans hbs h9) f1 (fun j hj => dfl_V hj) (by omega) (by omega) hdg (fun q H1 hP1 hD1 hS1 => ?_)
  have hce : ce ((al0 ++ l0) ++ [q]) (tys ++ []) (σnew σ (ci + 1) (fN ci)) (Inew σ I) (Fnew σ F) (σ.1 + 1) (.inr (ci, dfl ci)) := by
    have hk0 : (σnew σ (ci + 1) (fN ci)).2.1 (σ.1 + 1) = ((ci + 1), (fN ci)) := upr_s
    refine ⟨fun c h1 h2 => ?_, fun h1 => ?_, fun h1 => ?_, fun h1 => ?_, fun c h1 h2 => ?_⟩
    · rw [hk0] at h1; have hcc : ci = c := by (try dsimp only at h1); omega
      subst hcc
      exact ⟨_, rfl, fun k hk => ⟨_, dfl_at hk, fv_new⟩⟩
    · exfalso; rw [hk0] at h1; (try dsimp only at h1); omega
    · exfalso; rw [hk0] at h1; (try dsimp only at h1); omega
    · exfalso; rw [hk0] at h1; (try dsimp only at h1); omega
    · exfalso; rw [hk0] at h1; (try dsimp only at h1); omega
  obtain ⟨hw1, hq1⟩ := wr_push (σ' := σnew σ (ci + 1) (fN ci)) (I' := Inew σ I) (F' := Fnew σ F) (ts := []) g1 g2 g6 g7 g8 g9 hbs g11 (by rw [List.append_nil]; exact g4) hP1 hD1 hS hS1 rfl (fun q9 h9 => upr_n h9) (fun q9 h9 => upr_n h9) (fun q9 h9 => upr_n h9) (fun q9 h9 => upr_n h9) hce
  rw [List.append_assoc] at hw1 hq1
  refine kk p l e R s m args below meth c D base b al0 (l0 ++ [q]) d0 H1 locs _ _ lsM _ hc hd (by rw [← List.append_assoc]; exact lr_app hls) ⟨_, _, rfl, ⟨q, hq1, rfl⟩, by rw [← List.append_assoc]; exact sr_app hs⟩ hw1 hS1 ?_ ?_
  · show cells + 1 + (β.1 - 1) ≤ _; omega
  · show slots + fN ci + (β.2 - fN ci) ≤ _; omega

theorem pw_newI {n : Int32} {N : Nat} (hdg : decode cc pc = .ok (.newarray .int, 2)) (hac : Cond.arrayClass .int ∈ wsA) (hn : ¬ n < 0) (hN : n.toNatClampNeg = N) (hN2 : N ≤ 100000) (hβ : 1 ≤ β.1 ∧ N ≤ β.2) (kk : PW cc Y Z (pc + 2) ls (.ref (σ.1 + 1) :: st) (σnew σ 20 N) (Inew σ I) (Fnew σ F) (β.1 - 1, β.2 - N)) : PW cc Y Z pc ls (.int n :: st) σ I F β := by
  intro p l e R s m args below meth c D base b al0 l0 d0 H locs cells slots lsM stM hc hd hls hs hw hS hk1 hk2
  obtain ⟨hx, hb, hr0, hts, hown, hlk, hml, hrf, hrl, hbs, hsp, -⟩ := id hc
  obtain ⟨_, t0, rfl, rfl, hs⟩ := hs
  obtain ⟨ws, tys, g1, g2, g3, g4, g5, g6, g7, g8, g9, g10, g11⟩ := id hw
  refine va_newa (s := s.setDrawn d0) (D := D) (A := fun q : Nat => base ≤ q) (atype := .int) (a0 := (N, .inl (fun _ => 0))) hx hb (dr_words hts d0 _ hac) rfl g4 g3 g5 hS (fun q9 h9 => Nat.le_trans hbs h9) (fun cA => rfl) hn hN (by show N * 4 ≤ _; omega) (by omega) (by omega) hdg (fun q cA H1 hK1 hP1 hD1 hS1 => ?_)
  have hce : ce ((al0 ++ l0) ++ [q]) (tys ++ [(cA, .int)]) (σnew σ 20 N) (Inew σ I) (Fnew σ F) (σ.1 + 1) (.inl (cA, N, .inl (fun _ => 0))) := by
    have hk0 : (σnew σ 20 N).2.1 (σ.1 + 1) = (20, N) := upr_s
    refine ⟨fun c h1 h2 => ?_, fun h1 => ?_, fun h1 => ?_, fun h1 => ?_, fun c h1 h2 => ?_⟩
    · exfalso; rw [hk0] at h1; (try dsimp only at h1); omega
    · exact ⟨cA, _, by rw [hk0], ⟨tys.length, by simp⟩, fun k hk => by simp [Inew, upr_s]⟩
    · exfalso; rw [hk0] at h1; (try dsimp only at h1); omega
    · exfalso; rw [hk0] at h1; (try dsimp only at h1); omega
    · exfalso; rw [hk0] at h1; (try dsimp only at h1); omega
  obtain ⟨hw1, hq1⟩ := wr_push (σ' := σnew σ 20 N) (I' := Inew σ I) (F' := Fnew σ F) (ts := [(cA, .int)]) g1 g2 g6 g7 g8 g9 hbs g11 hK1 hP1 hD1 hS hS1 rfl (fun q9 h9 => upr_n h9) (fun q9 h9 => upr_n h9) (fun q9 h9 => upr_n h9) (fun q9 h9 => upr_n h9) hce
  rw [List.append_assoc] at hw1 hq1
  refine kk p l e R s m args below meth c D base b al0 (l0 ++ [q]) d0 H1 locs _ _ lsM _ hc hd (by rw [← List.append_assoc]; exact lr_app hls) ⟨_, _, rfl, ⟨q, hq1, rfl⟩, by rw [← List.append_assoc]; exact sr_app hs⟩ hw1 hS1 ?_ ?_
  · show cells + 1 + (β.1 - 1) ≤ _; omega
  · show slots + N + (β.2 - N) ≤ _; omega

theorem pw_newC {n : Int32} {N : Nat} (hdg : decode cc pc = .ok (.newarray .char, 2)) (hac : Cond.arrayClass .char ∈ wsA) (hn : ¬ n < 0) (hN : n.toNatClampNeg = N) (hN2 : N ≤ 100000) (hβ : 1 ≤ β.1 ∧ N ≤ β.2) (kk : PW cc Y Z (pc + 2) ls (.ref (σ.1 + 1) :: st) (σnew σ 21 N) (Inew σ I) (Fnew σ F) (β.1 - 1, β.2 - N)) : PW cc Y Z pc ls (.int n :: st) σ I F β := by
  intro p l e R s m args below meth c D base b al0 l0 d0 H locs cells slots lsM stM hc hd hls hs hw hS hk1 hk2
  obtain ⟨hx, hb, hr0, hts, hown, hlk, hml, hrf, hrl, hbs, hsp, -⟩ := id hc
  obtain ⟨_, t0, rfl, rfl, hs⟩ := hs
  obtain ⟨ws, tys, g1, g2, g3, g4, g5, g6, g7, g8, g9, g10, g11⟩ := id hw
  refine va_newa (s := s.setDrawn d0) (D := D) (A := fun q : Nat => base ≤ q) (atype := .char) (a0 := (N, .inl (fun _ => 0))) hx hb (dr_words hts d0 _ hac) rfl g4 g3 g5 hS (fun q9 h9 => Nat.le_trans hbs h9) (fun cA => rfl) hn hN (by show N * 2 ≤ _; omega) (by omega) (by omega) hdg (fun q cA H1 hK1 hP1 hD1 hS1 => ?_)
  have hce : ce ((al0 ++ l0) ++ [q]) (tys ++ [(cA, .char)]) (σnew σ 21 N) (Inew σ I) (Fnew σ F) (σ.1 + 1) (.inl (cA, N, .inl (fun _ => 0))) := by
    have hk0 : (σnew σ 21 N).2.1 (σ.1 + 1) = (21, N) := upr_s
    refine ⟨fun c h1 h2 => ?_, fun h1 => ?_, fun h1 => ?_, fun h1 => ?_, fun c h1 h2 => ?_⟩
    · exfalso; rw [hk0] at h1; (try dsimp only at h1); omega
    · exfalso; rw [hk0] at h1; (try dsimp only at h1); omega
    · exact ⟨cA, _, by rw [hk0], ⟨tys.length, by simp⟩, fun k hk => by simp [Inew, upr_s]⟩
    · exfalso; rw [hk0] at h1; (try dsimp only at h1); omega
    · exfalso; rw [hk0] at h1; (try dsimp only at h1); omega
  obtain ⟨hw1, hq1⟩ := wr_push (σ' := σnew σ 21 N) (I' := Inew σ I) (F' := Fnew σ F) (ts := [(cA, .char)]) g1 g2 g6 g7 g8 g9 hbs g11 hK1 hP1 hD1 hS hS1 rfl (fun q9 h9 => upr_n h9) (fun q9 h9 => upr_n h9) (fun q9 h9 => upr_n h9) (fun q9 h9 => upr_n h9) hce
  rw [List.append_assoc] at hw1 hq1
  refine kk p l e R s m args below meth c D base b al0 (l0 ++ [q]) d0 H1 locs _ _ lsM _ hc hd (by rw [← List.append_assoc]; exact lr_app hls) ⟨_, _, rfl, ⟨q, hq1, rfl⟩, by rw [← List.append_assoc]; exact sr_app hs⟩ hw1 hS1 ?_ ?_
  · show cells + 1 + (β.1 - 1) ≤ _; omega
  · show slots + N + (β.2 - N) ≤ _; omega

theorem pw_newF {n : Int32} {N : Nat} (hdg : decode cc pc = .ok (.newarray .float, 2)) (hac : Cond.arrayClass .float ∈ wsA) (hn : ¬ n < 0) (hN : n.toNatClampNeg = N) (hN2 : N ≤ 100000) (hβ : 1 ≤ β.1 ∧ N ≤ β.2) (kk : PW cc Y Z (pc + 2) ls (.ref (σ.1 + 1) :: st) (σnew σ 22 N) (Inew σ I) (Fnew σ F) (β.1 - 1, β.2 - N)) : PW cc Y Z pc ls (.int n :: st) σ I F β := by
  intro p l e R s m args below meth c D base b al0 l0 d0 H locs cells slots lsM stM hc hd hls hs hw hS hk1 hk2
  obtain ⟨hx, hb, hr0, hts, hown, hlk, hml, hrf, hrl, hbs, hsp, -⟩ := id hc
  obtain ⟨_, t0, rfl, rfl, hs⟩ := hs
  obtain ⟨ws, tys, g1, g2, g3, g4, g5, g6, g7, g8, g9, g10, g11⟩ := id hw
  refine va_newa (s := s.setDrawn d0) (D := D) (A := fun q : Nat => base ≤ q) (atype := .float) (a0 := (N, .inr (.inr (.inl (fun _ => 0))))) hx hb (dr_words hts d0 _ hac) rfl g4 g3 g5 hS (fun q9 h9 => Nat.le_trans hbs h9) (fun cA => rfl) hn hN (by show N * 4 ≤ _; omega) (by omega) (by omega) hdg (fun q cA H1 hK1 hP1 hD1 hS1 => ?_)
  have hce : ce ((al0 ++ l0) ++ [q]) (tys ++ [(cA, .float)]) (σnew σ 22 N) (Inew σ I) (Fnew σ F) (σ.1 + 1) (.inl (cA, N, .inr (.inr (.inl (fun _ => 0))))) := by
    have hk0 : (σnew σ 22 N).2.1 (σ.1 + 1) = (22, N) := upr_s
    refine ⟨fun c h1 h2 => ?_, fun h1 => ?_, fun h1 => ?_, fun h1 => ?_, fun c h1 h2 => ?_⟩
    · exfalso; rw [hk0] at h1; (try dsimp only at h1); omega
    · exfalso; rw [hk0] at h1; (try dsimp only at h1); omega
    · exfalso; rw [hk0] at h1; (try dsimp only at h1); omega
    · exact ⟨cA, _, by rw [hk0], ⟨tys.length, by simp⟩, fun k hk => by simp [Fnew, upr_s, alike32_refl]⟩
    · exfalso; rw [hk0] at h1; (try dsimp only at h1); omega
  obtain ⟨hw1, hq1⟩ := wr_push (σ' := σnew σ 22 N) (I' := Inew σ I) (F' := Fnew σ F) (ts := [(cA, .float)]) g1 g2 g6 g7 g8 g9 hbs g11 hK1 hP1 hD1 hS hS1 rfl (fun q9 h9 => upr_n h9) (fun q9 h9 => upr_n h9) (fun q9 h9 => upr_n h9) (fun q9 h9 => upr_n h9) hce
  rw [List.append_assoc] at hw1 hq1
  refine kk p l e R s m args below meth c D base b al0 (l0 ++ [q]) d0 H1 locs _ _ lsM _ hc hd (by rw [← List.append_assoc]; exact lr_app hls) ⟨_, _, rfl, ⟨q, hq1, rfl⟩, by rw [← List.append_assoc]; exact sr_app hs⟩ hw1 hS1 ?_ ?_
  · show cells + 1 + (β.1 - 1) ≤ _; omega
  · show slots + N + (β.2 - N) ≤ _; omega

theorem pw_newA {idx ci N : Nat} {n : Int32} (hdg : decode cc pc = .ok (.anewarray idx, 3)) (hci : ci < 8) (hcl : Cond.classLink Y.1 idx (cnm ci) ∈ wsA) (hao : cnm ci ∈ spA) (hn : ¬ n < 0) (hN : n.toNatClampNeg = N) (hN2 : N ≤ 100000) (hβ : 1 ≤ β.1 ∧ N ≤ β.2) (kk : PW cc Y Z (pc + 3) ls (.ref (σ.1 + 1) :: st) (σnew σ (ci + 30) N) (Inew σ I) (Fnew σ F) (β.1 - 1, β.2 - N)) : PW cc Y Z pc ls (.int n :: st) σ I F β := by
  intro p l e R s m args below meth c D base b al0 l0 d0 H locs cells slots lsM stM hc hd hls hs hw hS hk1 hk2
  obtain ⟨hx, hb, hr0, hts, hown, hlk, hml, hrf, hrl, hbs, hsp, -⟩ := id hc
  obtain ⟨_, t0, rfl, rfl, hs⟩ := hs
  obtain ⟨ws, tys, g1, g2, g3, g4, g5, g6, g7, g8, g9, g10, g11⟩ := id hw
  refine va_newq (s := s.setDrawn d0) (D := D) (A := fun q : Nat => base ≤ q) (C := cnm ci) hx hb hown (dr_words hts d0 _ hcl) ((spW_vm (u := s) (U := s.setDrawn d0) rfl hsp).2 _ hao) g4 g3 g5 hS (fun q9 h9 => Nat.le_trans hbs h9) hn hN (by omega) (by omega) (by omega) hdg (fun q cA H1 hK1 hP1 hD1 hS1 => ?_)
  have hce : ce ((al0 ++ l0) ++ [q]) (tys ++ [(cA, .object (cnm ci))]) (σnew σ (ci + 30) N) (Inew σ I) (Fnew σ F) (σ.1 + 1) (.inl (cA, N, .inr (.inr (.inr (.inr (fun _ => none)))))) := by
    have hk0 : (σnew σ (ci + 30) N).2.1 (σ.1 + 1) = ((ci + 30), N) := upr_s
    refine ⟨fun c h1 h2 => ?_, fun h1 => ?_, fun h1 => ?_, fun h1 => ?_, fun c h1 h2 => ?_⟩
    · exfalso; rw [hk0] at h1; (try dsimp only at h1); omega
    · exfalso; rw [hk0] at h1; (try dsimp only at h1); omega
    · exfalso; rw [hk0] at h1; (try dsimp only at h1); omega
    · exfalso; rw [hk0] at h1; (try dsimp only at h1); omega
    · rw [hk0] at h1; have hcc : ci = c := by (try dsimp only at h1); omega
      subst hcc
      refine ⟨cA, _, by rw [hk0], ⟨tys.length, by simp⟩, fun k hk => ?_⟩
      simp only [σnew, upr_s, rv, va_rf, vr]
  obtain ⟨hw1, hq1⟩ := wr_push (σ' := σnew σ (ci + 30) N) (I' := Inew σ I) (F' := Fnew σ F) (ts := [(cA, .object (cnm ci))]) g1 g2 g6 g7 g8 g9 hbs g11 hK1 hP1 hD1 hS hS1 rfl (fun q9 h9 => upr_n h9) (fun q9 h9 => upr_n h9) (fun q9 h9 => upr_n h9) (fun q9 h9 => upr_n h9) hce
  rw [List.append_assoc] at hw1 hq1
  refine kk p l e R s m args below meth c D base b al0 (l0 ++ [q]) d0 H1 locs _ _ lsM _ hc hd (by rw [← List.append_assoc]; exact lr_app hls) ⟨_, _, rfl, ⟨q, hq1, rfl⟩, by rw [← List.append_assoc]; exact sr_app hs⟩ hw1 hS1 ?_ ?_
  · show cells + 1 + (β.1 - 1) ≤ _; omega
  · show slots + N + (β.2 - N) ≤ _; omega

end PA
end
section
abbrev mX0_init : mB := (RX0, 1, none, 1, 12, true)
abbrev mX0_setUp : mB := (RX0, 3, none, 0, 0, false)
abbrev mX0_copyFrom : mB := (RX0, 2, none, 0, 0, false)
abbrev mX0_isLinkedTo : mB := (RX0, 2, (some .boolean), 0, 0, false)
abbrev mX0_runForAnHour : mB := (RX0, 1, none, 1, 22, false)
abbrev mX0_mend : mB := (RX0, 1, none, 0, 0, false)
abbrev mX0_afterAnHour : mB := (RX0, 3, (some .float), 0, 0, false)
abbrev mX0_hoursUntilBelow : mB := (RX0, 4, (some .int), 1, 22, false)
abbrev mX1_init : mB := (RX1, 1, none, 1, 12, true)
abbrev mX1_setUp : mB := (RX1, 3, none, 0, 0, false)
abbrev mX1_copyFrom : mB := (RX1, 2, none, 0, 0, false)
abbrev mX1_has : mB := (RX1, 2, (some .boolean), 0, 0, false)
abbrev mX2_init : mB := (RX2, 2, none, 3, 53, true)
abbrev mX2_add : mB := (RX2, 2, none, 2, 43, false)
abbrev mX2_takeBack : mB := (RX2, 2, (some .int), 2, 43, false)
abbrev mX3_init : mB := (RX3, 1, none, 1, 12, true)
abbrev mX4_init : mB := (RX4, 2, none, 2, 32, true)
abbrev mX5_init : mB := (RX5, 2, none, 2, 32, true)
abbrev mX5_copyFrom : mB := (RX5, 3, none, 1, 21, false)
abbrev mX5_hasAsset : mB := (RX5, 2, (some .boolean), 0, 0, false)
abbrev mX5_hasCrew : mB := (RX5, 2, (some .boolean), 0, 0, false)
abbrev mX5_hasTask : mB := (RX5, 2, (some .boolean), 0, 0, false)
abbrev mX5_newAsset : mB := (RX5, 3, (some .int), 1, 22, false)
abbrev mX5_setLink : mB := (RX5, 4, (some .int), 1, 21, false)
abbrev mX5_setBar : mB := (RX5, 4, (some .int), 1, 22, false)
abbrev mX5_newCrew : mB := (RX5, 3, (some .int), 1, 22, false)
abbrev mX5_newTask : mB := (RX5, 7, (some .int), 1, 26, false)
abbrev mX5_startAsset : mB := (RX5, 2, (some .int), 3, 68, false)
abbrev mX5_stopAsset : mB := (RX5, 2, (some .int), 1, 22, false)
abbrev mX5_hangTag : mB := (RX5, 4, (some .int), 4, 87, false)
abbrev mX5_beginTask : mB := (RX5, 3, (some .int), 4, 89, false)
abbrev mX5_liftTag : mB := (RX5, 4, (some .int), 4, 93, false)
abbrev mX5_cancelTask : mB := (RX5, 2, (some .int), 1, 21, false)
abbrev mX5_passHours : mB := (RX5, 4, (some .int), 3, 65, false)
abbrev mX5_runAssets : mB := (RX5, 2, none, 2, 42, false)
abbrev mX5_workOnTasks : mB := (RX5, 4, (some .int), 2, 42, false)
abbrev mX5_mendAsset : mB := (RX5, 2, none, 1, 21, false)
abbrev mX5_slipTasks : mB := (RX5, 3, none, 1, 22, false)
abbrev mX5_reasonAgainst : mB := (RX5, 3, (some .int), 3, 67, false)
abbrev mX5_barrierOf : mB := (RX5, 5, (some .int), 2, 43, false)
abbrev mX5_doBar : mB := (RX5, 3, (some .boolean), 0, 0, false)
abbrev mX5_areNear : mB := (RX5, 3, (some .boolean), 1, 21, false)
abbrev mX5_isRunning : mB := (RX5, 2, (some .boolean), 1, 21, false)
abbrev mX5_canServe : mB := (RX5, 3, (some .boolean), 3, 65, false)
abbrev mX5_firstCrewFor : mB := (RX5, 3, (some .int), 4, 87, false)
abbrev mX5_tagsHanging : mB := (RX5, 2, (some .int), 2, 47, false)
abbrev mX5_taskOfTag : mB := (RX5, 6, (some .int), 3, 68, false)
abbrev mX5_tasksOfAsset : mB := (RX5, 6, (some .int), 1, 22, false)
abbrev mX5_tasksOfCrew : mB := (RX5, 6, (some .int), 1, 22, false)
abbrev mX5_tasksIn : mB := (RX5, 5, (some .int), 1, 22, false)
abbrev mX5_busyPeople : mB := (RX5, 4, (some .int), 2, 42, false)
abbrev mX5_allBusyPeople : mB := (RX5, 3, (some .int), 2, 42, false)
abbrev mX5_assetsRunning : mB := (RX5, 3, (some .int), 0, 0, false)
abbrev mX5_slipsSoFar : mB := (RX5, 3, (some .int), 0, 0, false)
abbrev mX6_init : mB := (RX6, 1, none, 1, 12, true)
abbrev mX6_setUp : mB := (RX6, 7, none, 0, 0, false)
abbrev mX6_copyFrom : mB := (RX6, 2, none, 0, 0, false)
abbrev mX6_isIn : mB := (RX6, 3, (some .boolean), 0, 0, false)
abbrev mX6_tagHangs : mB := (RX6, 1, (some .boolean), 1, 22, false)
abbrev mX6_isTooLateAt : mB := (RX6, 2, (some .boolean), 0, 0, false)
abbrev mX6_slip : mB := (RX6, 1, none, 0, 0, false)
abbrev mX7_init : mB := (RX7, 1, none, 4, 74, true)
abbrev mX7_addAsset : mB := (RX7, 3, (some .int), 4, 85, false)
abbrev mX7_link : mB := (RX7, 4, (some .int), 4, 85, false)
abbrev mX7_bar : mB := (RX7, 4, (some .int), 4, 85, false)
abbrev mX7_addCrew : mB := (RX7, 3, (some .int), 4, 85, false)
abbrev mX7_addTask : mB := (RX7, 7, (some .int), 4, 85, false)
abbrev mX7_run : mB := (RX7, 2, (some .int), 4, 89, false)
abbrev mX7_stop : mB := (RX7, 2, (some .int), 4, 85, false)
abbrev mX7_hang : mB := (RX7, 3, (some .int), 5, 110, false)
abbrev mX7_begin : mB := (RX7, 2, (some .int), 5, 111, false)
abbrev mX7_lift : mB := (RX7, 3, (some .int), 5, 116, false)
abbrev mX7_cancel : mB := (RX7, 2, (some .int), 4, 85, false)
abbrev mX7_pass : mB := (RX7, 2, (some .int), 4, 88, false)
abbrev mX7_undo : mB := (RX7, 1, (some .int), 3, 64, false)
abbrev mX7_keep : mB := (RX7, 1, (some .int), 2, 43, false)
abbrev mX7_restore : mB := (RX7, 1, (some .int), 4, 85, false)
abbrev mX7_real : mB := (RX7, 4, (some .float), 1, 21, false)
abbrev mX7_hoursTo : mB := (RX7, 3, (some .int), 2, 45, false)
abbrev mX7_asset : mB := (RX7, 4, (some .int), 4, 93, false)
abbrev mX7_tagAt : mB := (RX7, 3, (some .int), 4, 93, false)
abbrev mX7_crew : mB := (RX7, 4, (some .int), 3, 65, false)
abbrev mX7_task : mB := (RX7, 4, (some .int), 4, 89, false)
abbrev mX7_crewFor : mB := (RX7, 2, (some .int), 5, 109, false)
abbrev mX7_count : mB := (RX7, 2, (some .int), 3, 64, false)
abbrev mX7_recorded : mB := (RX7, 2, (some .int), 3, 64, false)
abbrev mX7_within : mB := (RX7, 3, (some .boolean), 0, 0, false)
abbrev mJ6_bitCount_0f7a4 : mB := (RJ6, 1, (some .int), 0, 0, false)
abbrev mL_cell : mB := (RL, 2, (some .int), 0, 0, false)
abbrev mL_up : mB := (RL, 2, (some .int), 0, 0, false)
abbrev mL_view : mB := (RL, 5, (some .long), 5, 116, false)
abbrev mL_any : mB := (RL, 3, (some .int), 6, 138, false)
abbrev mL_setsUp : mB := (RL, 3, (some .int), 5, 111, false)
abbrev mL_turn : mB := (RL, 5, (some .int), 7, 160, false)
abbrev mL_isTask : mB := (RL, 6, (some .boolean), 5, 112, false)
abbrev mL_isAsset : mB := (RL, 7, (some .boolean), 5, 116, false)
abbrev mL_areRight : mB := (RL, 6, (some .boolean), 6, 142, false)
abbrev mL_isUndone : mB := (RL, 10, (some .boolean), 8, 184, false)
abbrev mL_isKept : mB := (RL, 5, (some .boolean), 8, 184, false)
abbrev mL_law : mB := (RL, 13, (some .boolean), 9, 213, false)
theorem oX_X0_init : mOKI yX0_init cX0_init mX0_init 0 := ⟨⟨wsA_at 42 (by decide +kernel) (by decide +kernel), wsA_at 12 (by decide +kernel) (by decide +kernel), by decide, by decide, by decide +kernel⟩, wsA_at 41 (by decide +kernel) (by decide +kernel), rfl, rfl⟩
theorem oX_X0_setUp : mOKV yX0_setUp cX0_setUp mX0_setUp 2 0 := ⟨⟨wsA_at 292 (by decide +kernel) (by decide +kernel), wsA_at 12 (by decide +kernel) (by decide +kernel), by decide, by decide, by decide +kernel⟩, wsA_at 290 (by decide +kernel) (by decide +kernel), wsA_at 291 (by decide +kernel) (by decide +kernel), by decide, ⟨_, rfl, rfl⟩⟩
theorem oX_X0_copyFrom : mOKV yX0_copyFrom cX0_copyFrom mX0_copyFrom 1 0 := ⟨⟨wsA_at 273 (by decide +kernel) (by decide +kernel), wsA_at 12 (by decide +kernel) (by decide +kernel), by decide, by decide, by decide +kernel⟩, wsA_at 271 (by decide +kernel) (by decide +kernel), wsA_at 272 (by decide +kernel) (by decide +kernel), by decide, ⟨_, rfl, rfl⟩⟩
theorem oX_X0_isLinkedTo : mOKV yX0_isLinkedTo cX0_isLinkedTo mX0_isLinkedTo 1 0 := ⟨⟨wsA_at 443 (by decide +kernel) (by decide +kernel), wsA_at 12 (by decide +kernel) (by decide +kernel), by decide, by decide, by decide +kernel⟩, wsA_at 441 (by decide +kernel) (by decide +kernel), wsA_at 442 (by decide +kernel) (by decide +kernel), by decide, ⟨_, rfl, rfl⟩⟩
theorem oX_X0_runForAnHour : mOKV yX0_runForAnHour cX0_runForAnHour mX0_runForAnHour 0 0 := ⟨⟨wsA_at 578 (by decide +kernel) (by decide +kernel), wsA_at 12 (by decide +kernel) (by decide +kernel), by decide, by decide, by decide +kernel⟩, wsA_at 576 (by decide +kernel) (by decide +kernel), wsA_at 577 (by decide +kernel) (by decide +kernel), by decide, ⟨_, rfl, rfl⟩⟩
theorem oX_X0_mend : mOKV yX0_mend cX0_mend mX0_mend 0 0 := ⟨⟨wsA_at 590 (by decide +kernel) (by decide +kernel), wsA_at 12 (by decide +kernel) (by decide +kernel), by decide, by decide, by decide +kernel⟩, wsA_at 588 (by decide +kernel) (by decide +kernel), wsA_at 589 (by decide +kernel) (by decide +kernel), by decide, ⟨_, rfl, rfl⟩⟩
theorem oX_X0_afterAnHour : mOKV yX0_afterAnHour cX0_afterAnHour mX0_afterAnHour 1 0 := ⟨⟨wsA_at 393 (by decide +kernel) (by decide +kernel), wsA_at 12 (by decide +kernel) (by decide +kernel), by decide, by decide, by decide +kernel⟩, wsA_at 391 (by decide +kernel) (by decide +kernel), wsA_at 392 (by decide +kernel) (by decide +kernel), by decide, ⟨_, rfl, rfl⟩⟩
theorem oX_X0_hoursUntilBelow : mOKV yX0_hoursUntilBelow cX0_hoursUntilBelow mX0_hoursUntilBelow 1 0 := ⟨⟨wsA_at 389 (by decide +kernel) (by decide +kernel), wsA_at 12 (by decide +kernel) (by decide +kernel), by decide, by decide, by decide +kernel⟩, wsA_at 387 (by decide +kernel) (by decide +kernel), wsA_at 388 (by decide +kernel) (by decide +kernel), by decide, ⟨_, rfl, rfl⟩⟩
theorem oX_X1_init : mOKI yX1_init cX1_init mX1_init 0 := ⟨⟨wsA_at 74 (by decide +kernel) (by decide +kernel), wsA_at 13 (by decide +kernel) (by decide +kernel), by decide, by decide, by decide +kernel⟩, wsA_at 73 (by decide +kernel) (by decide +kernel), rfl, rfl⟩
theorem oX_X1_setUp : mOKV yX1_setUp cX1_setUp mX1_setUp 2 1 := ⟨⟨wsA_at 314 (by decide +kernel) (by decide +kernel), wsA_at 13 (by decide +kernel) (by decide +kernel), by decide, by decide, by decide +kernel⟩, wsA_at 312 (by decide +kernel) (by decide +kernel), wsA_at 313 (by decide +kernel) (by decide +kernel), by decide, ⟨_, rfl, rfl⟩⟩
theorem oX_X1_copyFrom : mOKV yX1_copyFrom cX1_copyFrom mX1_copyFrom 1 1 := ⟨⟨wsA_at 277 (by decide +kernel) (by decide +kernel), wsA_at 13 (by decide +kernel) (by decide +kernel), by decide, by decide, by decide +kernel⟩, wsA_at 275 (by decide +kernel) (by decide +kernel), wsA_at 276 (by decide +kernel) (by decide +kernel), by decide, ⟨_, rfl, rfl⟩⟩
theorem oX_X1_has : mOKV yX1_has cX1_has mX1_has 1 1 := ⟨⟨wsA_at 522 (by decide +kernel) (by decide +kernel), wsA_at 13 (by decide +kernel) (by decide +kernel), by decide, by decide, by decide +kernel⟩, wsA_at 520 (by decide +kernel) (by decide +kernel), wsA_at 521 (by decide +kernel) (by decide +kernel), by decide, ⟨_, rfl, rfl⟩⟩
theorem oX_X2_init : mOKI yX2_init cX2_init mX2_init 0 := ⟨⟨wsA_at 186 (by decide +kernel) (by decide +kernel), wsA_at 15 (by decide +kernel) (by decide +kernel), by decide, by decide, by decide +kernel⟩, wsA_at 185 (by decide +kernel) (by decide +kernel), rfl, rfl⟩
theorem oX_X2_add : mOKV yX2_add cX2_add mX2_add 1 2 := ⟨⟨wsA_at 301 (by decide +kernel) (by decide +kernel), wsA_at 15 (by decide +kernel) (by decide +kernel), by decide, by decide, by decide +kernel⟩, wsA_at 299 (by decide +kernel) (by decide +kernel), wsA_at 300 (by decide +kernel) (by decide +kernel), by decide, ⟨_, rfl, rfl⟩⟩
theorem oX_X2_takeBack : mOKV yX2_takeBack cX2_takeBack mX2_takeBack 1 2 := ⟨⟨wsA_at 628 (by decide +kernel) (by decide +kernel), wsA_at 15 (by decide +kernel) (by decide +kernel), by decide, by decide, by decide +kernel⟩, wsA_at 626 (by decide +kernel) (by decide +kernel), wsA_at 627 (by decide +kernel) (by decide +kernel), by decide, ⟨_, rfl, rfl⟩⟩
theorem oX_X3_init : mOKI yX3_init cX3_init mX3_init 0 := ⟨⟨wsA_at 213 (by decide +kernel) (by decide +kernel), wsA_at 17 (by decide +kernel) (by decide +kernel), by decide, by decide, by decide +kernel⟩, wsA_at 212 (by decide +kernel) (by decide +kernel), rfl, rfl⟩
theorem oX_X4_init : mOKI yX4_init cX4_init mX4_init 0 := ⟨⟨wsA_at 206 (by decide +kernel) (by decide +kernel), wsA_at 16 (by decide +kernel) (by decide +kernel), by decide, by decide, by decide +kernel⟩, wsA_at 205 (by decide +kernel) (by decide +kernel), rfl, rfl⟩
theorem oX_X5_init : mOKI yX5_init cX5_init mX5_init 0 := ⟨⟨wsA_at 31 (by decide +kernel) (by decide +kernel), wsA_at 11 (by decide +kernel) (by decide +kernel), by decide, by decide, by decide +kernel⟩, wsA_at 30 (by decide +kernel) (by decide +kernel), rfl, rfl⟩
theorem oX_X5_copyFrom : mOKV yX5_copyFrom cX5_copyFrom mX5_copyFrom 1 5 := ⟨⟨wsA_at 269 (by decide +kernel) (by decide +kernel), wsA_at 11 (by decide +kernel) (by decide +kernel), by decide, by decide, by decide +kernel⟩, wsA_at 267 (by decide +kernel) (by decide +kernel), wsA_at 268 (by decide +kernel) (by decide +kernel), by decide, ⟨_, rfl, rfl⟩⟩
theorem oX_X5_hasAsset : mOKV yX5_hasAsset cX5_hasAsset mX5_hasAsset 1 5 := ⟨⟨wsA_at 361 (by decide +kernel) (by decide +kernel), wsA_at 11 (by decide +kernel) (by decide +kernel), by decide, by decide, by decide +kernel⟩, wsA_at 359 (by decide +kernel) (by decide +kernel), wsA_at 360 (by decide +kernel) (by decide +kernel), by decide, ⟨_, rfl, rfl⟩⟩
theorem oX_X5_hasCrew : mOKV yX5_hasCrew cX5_hasCrew mX5_hasCrew 1 5 := ⟨⟨wsA_at 402 (by decide +kernel) (by decide +kernel), wsA_at 11 (by decide +kernel) (by decide +kernel), by decide, by decide, by decide +kernel⟩, wsA_at 400 (by decide +kernel) (by decide +kernel), wsA_at 401 (by decide +kernel) (by decide +kernel), by decide, ⟨_, rfl, rfl⟩⟩
theorem oX_X5_hasTask : mOKV yX5_hasTask cX5_hasTask mX5_hasTask 1 5 := ⟨⟨wsA_at 418 (by decide +kernel) (by decide +kernel), wsA_at 11 (by decide +kernel) (by decide +kernel), by decide, by decide, by decide +kernel⟩, wsA_at 416 (by decide +kernel) (by decide +kernel), wsA_at 417 (by decide +kernel) (by decide +kernel), by decide, ⟨_, rfl, rfl⟩⟩
theorem oX_X5_newAsset : mOKV yX5_newAsset cX5_newAsset mX5_newAsset 2 5 := ⟨⟨wsA_at 285 (by decide +kernel) (by decide +kernel), wsA_at 11 (by decide +kernel) (by decide +kernel), by decide, by decide, by decide +kernel⟩, wsA_at 283 (by decide +kernel) (by decide +kernel), wsA_at 284 (by decide +kernel) (by decide +kernel), by decide, ⟨_, rfl, rfl⟩⟩
theorem oX_X5_setLink : mOKV yX5_setLink cX5_setLink mX5_setLink 3 5 := ⟨⟨wsA_at 462 (by decide +kernel) (by decide +kernel), wsA_at 11 (by decide +kernel) (by decide +kernel), by decide, by decide, by decide +kernel⟩, wsA_at 460 (by decide +kernel) (by decide +kernel), wsA_at 461 (by decide +kernel) (by decide +kernel), by decide, ⟨_, rfl, rfl⟩⟩
theorem oX_X5_setBar : mOKV yX5_setBar cX5_setBar mX5_setBar 3 5 := ⟨⟨wsA_at 477 (by decide +kernel) (by decide +kernel), wsA_at 11 (by decide +kernel) (by decide +kernel), by decide, by decide, by decide +kernel⟩, wsA_at 475 (by decide +kernel) (by decide +kernel), wsA_at 476 (by decide +kernel) (by decide +kernel), by decide, ⟨_, rfl, rfl⟩⟩
theorem oX_X5_newCrew : mOKV yX5_newCrew cX5_newCrew mX5_newCrew 2 5 := ⟨⟨wsA_at 310 (by decide +kernel) (by decide +kernel), wsA_at 11 (by decide +kernel) (by decide +kernel), by decide, by decide, by decide +kernel⟩, wsA_at 308 (by decide +kernel) (by decide +kernel), wsA_at 309 (by decide +kernel) (by decide +kernel), by decide, ⟨_, rfl, rfl⟩⟩
theorem oX_X5_newTask : mOKV yX5_newTask cX5_newTask mX5_newTask 6 5 := ⟨⟨wsA_at 485 (by decide +kernel) (by decide +kernel), wsA_at 11 (by decide +kernel) (by decide +kernel), by decide, by decide, by decide +kernel⟩, wsA_at 483 (by decide +kernel) (by decide +kernel), wsA_at 484 (by decide +kernel) (by decide +kernel), by decide, ⟨_, rfl, rfl⟩⟩
theorem oX_X5_startAsset : mOKV yX5_startAsset cX5_startAsset mX5_startAsset 1 5 := ⟨⟨wsA_at 497 (by decide +kernel) (by decide +kernel), wsA_at 11 (by decide +kernel) (by decide +kernel), by decide, by decide, by decide +kernel⟩, wsA_at 495 (by decide +kernel) (by decide +kernel), wsA_at 496 (by decide +kernel) (by decide +kernel), by decide, ⟨_, rfl, rfl⟩⟩
theorem oX_X5_stopAsset : mOKV yX5_stopAsset cX5_stopAsset mX5_stopAsset 1 5 := ⟨⟨wsA_at 506 (by decide +kernel) (by decide +kernel), wsA_at 11 (by decide +kernel) (by decide +kernel), by decide, by decide, by decide +kernel⟩, wsA_at 504 (by decide +kernel) (by decide +kernel), wsA_at 505 (by decide +kernel) (by decide +kernel), by decide, ⟨_, rfl, rfl⟩⟩
theorem oX_X5_hangTag : mOKV yX5_hangTag cX5_hangTag mX5_hangTag 2 5 := ⟨⟨wsA_at 531 (by decide +kernel) (by decide +kernel), wsA_at 11 (by decide +kernel) (by decide +kernel), by decide, by decide, by decide +kernel⟩, wsA_at 529 (by decide +kernel) (by decide +kernel), wsA_at 530 (by decide +kernel) (by decide +kernel), by decide, ⟨_, rfl, rfl⟩⟩
theorem oX_X5_beginTask : mOKV yX5_beginTask cX5_beginTask mX5_beginTask 1 5 := ⟨⟨wsA_at 544 (by decide +kernel) (by decide +kernel), wsA_at 11 (by decide +kernel) (by decide +kernel), by decide, by decide, by decide +kernel⟩, wsA_at 542 (by decide +kernel) (by decide +kernel), wsA_at 543 (by decide +kernel) (by decide +kernel), by decide, ⟨_, rfl, rfl⟩⟩
theorem oX_X5_liftTag : mOKV yX5_liftTag cX5_liftTag mX5_liftTag 2 5 := ⟨⟨wsA_at 553 (by decide +kernel) (by decide +kernel), wsA_at 11 (by decide +kernel) (by decide +kernel), by decide, by decide, by decide +kernel⟩, wsA_at 551 (by decide +kernel) (by decide +kernel), wsA_at 552 (by decide +kernel) (by decide +kernel), by decide, ⟨_, rfl, rfl⟩⟩
theorem oX_X5_cancelTask : mOKV yX5_cancelTask cX5_cancelTask mX5_cancelTask 1 5 := ⟨⟨wsA_at 562 (by decide +kernel) (by decide +kernel), wsA_at 11 (by decide +kernel) (by decide +kernel), by decide, by decide, by decide +kernel⟩, wsA_at 560 (by decide +kernel) (by decide +kernel), wsA_at 561 (by decide +kernel) (by decide +kernel), by decide, ⟨_, rfl, rfl⟩⟩
theorem oX_X5_passHours : mOKV yX5_passHours cX5_passHours mX5_passHours 1 5 := ⟨⟨wsA_at 570 (by decide +kernel) (by decide +kernel), wsA_at 11 (by decide +kernel) (by decide +kernel), by decide, by decide, by decide +kernel⟩, wsA_at 568 (by decide +kernel) (by decide +kernel), wsA_at 569 (by decide +kernel) (by decide +kernel), by decide, ⟨_, rfl, rfl⟩⟩
theorem oX_X5_runAssets : mOKV yX5_runAssets cX5_runAssets mX5_runAssets 0 5 := ⟨⟨wsA_at 574 (by decide +kernel) (by decide +kernel), wsA_at 11 (by decide +kernel) (by decide +kernel), by decide, by decide, by decide +kernel⟩, wsA_at 573 (by decide +kernel) (by decide +kernel), wsA_at 5 (by decide +kernel) (by decide +kernel), by decide, ⟨_, rfl, rfl⟩⟩
theorem oX_X5_workOnTasks : mOKV yX5_workOnTasks cX5_workOnTasks mX5_workOnTasks 0 5 := ⟨⟨wsA_at 582 (by decide +kernel) (by decide +kernel), wsA_at 11 (by decide +kernel) (by decide +kernel), by decide, by decide, by decide +kernel⟩, wsA_at 581 (by decide +kernel) (by decide +kernel), wsA_at 6 (by decide +kernel) (by decide +kernel), by decide, ⟨_, rfl, rfl⟩⟩
theorem oX_X5_mendAsset : mOKV yX5_mendAsset cX5_mendAsset mX5_mendAsset 1 5 := ⟨⟨wsA_at 586 (by decide +kernel) (by decide +kernel), wsA_at 11 (by decide +kernel) (by decide +kernel), by decide, by decide, by decide +kernel⟩, wsA_at 585 (by decide +kernel) (by decide +kernel), wsA_at 7 (by decide +kernel) (by decide +kernel), by decide, ⟨_, rfl, rfl⟩⟩
theorem oX_X5_slipTasks : mOKV yX5_slipTasks cX5_slipTasks mX5_slipTasks 0 5 := ⟨⟨wsA_at 595 (by decide +kernel) (by decide +kernel), wsA_at 11 (by decide +kernel) (by decide +kernel), by decide, by decide, by decide +kernel⟩, wsA_at 594 (by decide +kernel) (by decide +kernel), wsA_at 8 (by decide +kernel) (by decide +kernel), by decide, ⟨_, rfl, rfl⟩⟩
theorem oX_X5_reasonAgainst : mOKV yX5_reasonAgainst cX5_reasonAgainst mX5_reasonAgainst 1 5 := ⟨⟨wsA_at 422 (by decide +kernel) (by decide +kernel), wsA_at 11 (by decide +kernel) (by decide +kernel), by decide, by decide, by decide +kernel⟩, wsA_at 420 (by decide +kernel) (by decide +kernel), wsA_at 421 (by decide +kernel) (by decide +kernel), by decide, ⟨_, rfl, rfl⟩⟩
theorem oX_X5_barrierOf : mOKV yX5_barrierOf cX5_barrierOf mX5_barrierOf 1 5 := ⟨⟨wsA_at 431 (by decide +kernel) (by decide +kernel), wsA_at 11 (by decide +kernel) (by decide +kernel), by decide, by decide, by decide +kernel⟩, wsA_at 429 (by decide +kernel) (by decide +kernel), wsA_at 430 (by decide +kernel) (by decide +kernel), by decide, ⟨_, rfl, rfl⟩⟩
theorem oX_X5_doBar : mOKV yX5_doBar cX5_doBar mX5_doBar 2 5 := ⟨⟨wsA_at 435 (by decide +kernel) (by decide +kernel), wsA_at 11 (by decide +kernel) (by decide +kernel), by decide, by decide, by decide +kernel⟩, wsA_at 434 (by decide +kernel) (by decide +kernel), wsA_at 1 (by decide +kernel) (by decide +kernel), by decide, ⟨_, rfl, rfl⟩⟩
theorem oX_X5_areNear : mOKV yX5_areNear cX5_areNear mX5_areNear 2 5 := ⟨⟨wsA_at 439 (by decide +kernel) (by decide +kernel), wsA_at 11 (by decide +kernel) (by decide +kernel), by decide, by decide, by decide +kernel⟩, wsA_at 438 (by decide +kernel) (by decide +kernel), wsA_at 2 (by decide +kernel) (by decide +kernel), by decide, ⟨_, rfl, rfl⟩⟩
theorem oX_X5_isRunning : mOKV yX5_isRunning cX5_isRunning mX5_isRunning 1 5 := ⟨⟨wsA_at 536 (by decide +kernel) (by decide +kernel), wsA_at 11 (by decide +kernel) (by decide +kernel), by decide, by decide, by decide +kernel⟩, wsA_at 535 (by decide +kernel) (by decide +kernel), wsA_at 4 (by decide +kernel) (by decide +kernel), by decide, ⟨_, rfl, rfl⟩⟩
theorem oX_X5_canServe : mOKV yX5_canServe cX5_canServe mX5_canServe 2 5 := ⟨⟨wsA_at 518 (by decide +kernel) (by decide +kernel), wsA_at 11 (by decide +kernel) (by decide +kernel), by decide, by decide, by decide +kernel⟩, wsA_at 517 (by decide +kernel) (by decide +kernel), wsA_at 3 (by decide +kernel) (by decide +kernel), by decide, ⟨_, rfl, rfl⟩⟩
theorem oX_X5_firstCrewFor : mOKV yX5_firstCrewFor cX5_firstCrewFor mX5_firstCrewFor 1 5 := ⟨⟨wsA_at 514 (by decide +kernel) (by decide +kernel), wsA_at 11 (by decide +kernel) (by decide +kernel), by decide, by decide, by decide +kernel⟩, wsA_at 512 (by decide +kernel) (by decide +kernel), wsA_at 513 (by decide +kernel) (by decide +kernel), by decide, ⟨_, rfl, rfl⟩⟩
theorem oX_X5_tagsHanging : mOKV yX5_tagsHanging cX5_tagsHanging mX5_tagsHanging 1 5 := ⟨⟨wsA_at 365 (by decide +kernel) (by decide +kernel), wsA_at 11 (by decide +kernel) (by decide +kernel), by decide, by decide, by decide +kernel⟩, wsA_at 363 (by decide +kernel) (by decide +kernel), wsA_at 364 (by decide +kernel) (by decide +kernel), by decide, ⟨_, rfl, rfl⟩⟩
theorem oX_X5_taskOfTag : mOKV yX5_taskOfTag cX5_taskOfTag mX5_taskOfTag 2 5 := ⟨⟨wsA_at 373 (by decide +kernel) (by decide +kernel), wsA_at 11 (by decide +kernel) (by decide +kernel), by decide, by decide, by decide +kernel⟩, wsA_at 371 (by decide +kernel) (by decide +kernel), wsA_at 372 (by decide +kernel) (by decide +kernel), by decide, ⟨_, rfl, rfl⟩⟩
theorem oX_X5_tasksOfAsset : mOKV yX5_tasksOfAsset cX5_tasksOfAsset mX5_tasksOfAsset 3 5 := ⟨⟨wsA_at 369 (by decide +kernel) (by decide +kernel), wsA_at 11 (by decide +kernel) (by decide +kernel), by decide, by decide, by decide +kernel⟩, wsA_at 367 (by decide +kernel) (by decide +kernel), wsA_at 368 (by decide +kernel) (by decide +kernel), by decide, ⟨_, rfl, rfl⟩⟩
theorem oX_X5_tasksOfCrew : mOKV yX5_tasksOfCrew cX5_tasksOfCrew mX5_tasksOfCrew 3 5 := ⟨⟨wsA_at 410 (by decide +kernel) (by decide +kernel), wsA_at 11 (by decide +kernel) (by decide +kernel), by decide, by decide, by decide +kernel⟩, wsA_at 408 (by decide +kernel) (by decide +kernel), wsA_at 409 (by decide +kernel) (by decide +kernel), by decide, ⟨_, rfl, rfl⟩⟩
theorem oX_X5_tasksIn : mOKV yX5_tasksIn cX5_tasksIn mX5_tasksIn 2 5 := ⟨⟨wsA_at 326 (by decide +kernel) (by decide +kernel), wsA_at 11 (by decide +kernel) (by decide +kernel), by decide, by decide, by decide +kernel⟩, wsA_at 324 (by decide +kernel) (by decide +kernel), wsA_at 325 (by decide +kernel) (by decide +kernel), by decide, ⟨_, rfl, rfl⟩⟩
theorem oX_X5_busyPeople : mOKV yX5_busyPeople cX5_busyPeople mX5_busyPeople 1 5 := ⟨⟨wsA_at 406 (by decide +kernel) (by decide +kernel), wsA_at 11 (by decide +kernel) (by decide +kernel), by decide, by decide, by decide +kernel⟩, wsA_at 404 (by decide +kernel) (by decide +kernel), wsA_at 405 (by decide +kernel) (by decide +kernel), by decide, ⟨_, rfl, rfl⟩⟩
theorem oX_X5_allBusyPeople : mOKV yX5_allBusyPeople cX5_allBusyPeople mX5_allBusyPeople 0 5 := ⟨⟨wsA_at 338 (by decide +kernel) (by decide +kernel), wsA_at 11 (by decide +kernel) (by decide +kernel), by decide, by decide, by decide +kernel⟩, wsA_at 336 (by decide +kernel) (by decide +kernel), wsA_at 337 (by decide +kernel) (by decide +kernel), by decide, ⟨_, rfl, rfl⟩⟩
theorem oX_X5_assetsRunning : mOKV yX5_assetsRunning cX5_assetsRunning mX5_assetsRunning 0 5 := ⟨⟨wsA_at 322 (by decide +kernel) (by decide +kernel), wsA_at 11 (by decide +kernel) (by decide +kernel), by decide, by decide, by decide +kernel⟩, wsA_at 320 (by decide +kernel) (by decide +kernel), wsA_at 321 (by decide +kernel) (by decide +kernel), by decide, ⟨_, rfl, rfl⟩⟩
theorem oX_X5_slipsSoFar : mOKV yX5_slipsSoFar cX5_slipsSoFar mX5_slipsSoFar 0 5 := ⟨⟨wsA_at 334 (by decide +kernel) (by decide +kernel), wsA_at 11 (by decide +kernel) (by decide +kernel), by decide, by decide, by decide +kernel⟩, wsA_at 332 (by decide +kernel) (by decide +kernel), wsA_at 333 (by decide +kernel) (by decide +kernel), by decide, ⟨_, rfl, rfl⟩⟩
theorem oX_X6_init : mOKI yX6_init cX6_init mX6_init 0 := ⟨⟨wsA_at 89 (by decide +kernel) (by decide +kernel), wsA_at 14 (by decide +kernel) (by decide +kernel), by decide, by decide, by decide +kernel⟩, wsA_at 88 (by decide +kernel) (by decide +kernel), rfl, rfl⟩
theorem oX_X6_setUp : mOKV yX6_setUp cX6_setUp mX6_setUp 6 6 := ⟨⟨wsA_at 489 (by decide +kernel) (by decide +kernel), wsA_at 14 (by decide +kernel) (by decide +kernel), by decide, by decide, by decide +kernel⟩, wsA_at 487 (by decide +kernel) (by decide +kernel), wsA_at 488 (by decide +kernel) (by decide +kernel), by decide, ⟨_, rfl, rfl⟩⟩
theorem oX_X6_copyFrom : mOKV yX6_copyFrom cX6_copyFrom mX6_copyFrom 1 6 := ⟨⟨wsA_at 281 (by decide +kernel) (by decide +kernel), wsA_at 14 (by decide +kernel) (by decide +kernel), by decide, by decide, by decide +kernel⟩, wsA_at 279 (by decide +kernel) (by decide +kernel), wsA_at 280 (by decide +kernel) (by decide +kernel), by decide, ⟨_, rfl, rfl⟩⟩
theorem oX_X6_isIn : mOKV yX6_isIn cX6_isIn mX6_isIn 2 6 := ⟨⟨wsA_at 330 (by decide +kernel) (by decide +kernel), wsA_at 14 (by decide +kernel) (by decide +kernel), by decide, by decide, by decide +kernel⟩, wsA_at 328 (by decide +kernel) (by decide +kernel), wsA_at 329 (by decide +kernel) (by decide +kernel), by decide, ⟨_, rfl, rfl⟩⟩
theorem oX_X6_tagHangs : mOKV yX6_tagHangs cX6_tagHangs mX6_tagHangs 0 6 := ⟨⟨wsA_at 342 (by decide +kernel) (by decide +kernel), wsA_at 14 (by decide +kernel) (by decide +kernel), by decide, by decide, by decide +kernel⟩, wsA_at 340 (by decide +kernel) (by decide +kernel), wsA_at 341 (by decide +kernel) (by decide +kernel), by decide, ⟨_, rfl, rfl⟩⟩
theorem oX_X6_isTooLateAt : mOKV yX6_isTooLateAt cX6_isTooLateAt mX6_isTooLateAt 1 6 := ⟨⟨wsA_at 427 (by decide +kernel) (by decide +kernel), wsA_at 14 (by decide +kernel) (by decide +kernel), by decide, by decide, by decide +kernel⟩, wsA_at 425 (by decide +kernel) (by decide +kernel), wsA_at 426 (by decide +kernel) (by decide +kernel), by decide, ⟨_, rfl, rfl⟩⟩
theorem oX_X6_slip : mOKV yX6_slip cX6_slip mX6_slip 0 6 := ⟨⟨wsA_at 599 (by decide +kernel) (by decide +kernel), wsA_at 14 (by decide +kernel) (by decide +kernel), by decide, by decide, by decide +kernel⟩, wsA_at 597 (by decide +kernel) (by decide +kernel), wsA_at 598 (by decide +kernel) (by decide +kernel), by decide, ⟨_, rfl, rfl⟩⟩
theorem oX_X7_init : mOKI yX7_init cX7_init mX7_init 0 := ⟨⟨wsA_at 23 (by decide +kernel) (by decide +kernel), wsA_at 10 (by decide +kernel) (by decide +kernel), by decide, by decide, by decide +kernel⟩, wsA_at 22 (by decide +kernel) (by decide +kernel), rfl, rfl⟩
theorem oX_X7_addAsset : mOKV yX7_addAsset cX7_addAsset mX7_addAsset 2 7 := ⟨⟨wsA_at 265 (by decide +kernel) (by decide +kernel), wsA_at 10 (by decide +kernel) (by decide +kernel), by decide, by decide, by decide +kernel⟩, wsA_at 263 (by decide +kernel) (by decide +kernel), wsA_at 264 (by decide +kernel) (by decide +kernel), by decide, ⟨_, rfl, rfl⟩⟩
theorem oX_X7_link : mOKV yX7_link cX7_link mX7_link 3 7 := ⟨⟨wsA_at 458 (by decide +kernel) (by decide +kernel), wsA_at 10 (by decide +kernel) (by decide +kernel), by decide, by decide, by decide +kernel⟩, wsA_at 456 (by decide +kernel) (by decide +kernel), wsA_at 457 (by decide +kernel) (by decide +kernel), by decide, ⟨_, rfl, rfl⟩⟩
theorem oX_X7_bar : mOKV yX7_bar cX7_bar mX7_bar 3 7 := ⟨⟨wsA_at 473 (by decide +kernel) (by decide +kernel), wsA_at 10 (by decide +kernel) (by decide +kernel), by decide, by decide, by decide +kernel⟩, wsA_at 471 (by decide +kernel) (by decide +kernel), wsA_at 472 (by decide +kernel) (by decide +kernel), by decide, ⟨_, rfl, rfl⟩⟩
theorem oX_X7_addCrew : mOKV yX7_addCrew cX7_addCrew mX7_addCrew 2 7 := ⟨⟨wsA_at 306 (by decide +kernel) (by decide +kernel), wsA_at 10 (by decide +kernel) (by decide +kernel), by decide, by decide, by decide +kernel⟩, wsA_at 304 (by decide +kernel) (by decide +kernel), wsA_at 305 (by decide +kernel) (by decide +kernel), by decide, ⟨_, rfl, rfl⟩⟩
theorem oX_X7_addTask : mOKV yX7_addTask cX7_addTask mX7_addTask 6 7 := ⟨⟨wsA_at 481 (by decide +kernel) (by decide +kernel), wsA_at 10 (by decide +kernel) (by decide +kernel), by decide, by decide, by decide +kernel⟩, wsA_at 479 (by decide +kernel) (by decide +kernel), wsA_at 480 (by decide +kernel) (by decide +kernel), by decide, ⟨_, rfl, rfl⟩⟩
theorem oX_X7_run : mOKV yX7_run cX7_run mX7_run 1 7 := ⟨⟨wsA_at 493 (by decide +kernel) (by decide +kernel), wsA_at 10 (by decide +kernel) (by decide +kernel), by decide, by decide, by decide +kernel⟩, wsA_at 491 (by decide +kernel) (by decide +kernel), wsA_at 492 (by decide +kernel) (by decide +kernel), by decide, ⟨_, rfl, rfl⟩⟩
theorem oX_X7_stop : mOKV yX7_stop cX7_stop mX7_stop 1 7 := ⟨⟨wsA_at 502 (by decide +kernel) (by decide +kernel), wsA_at 10 (by decide +kernel) (by decide +kernel), by decide, by decide, by decide +kernel⟩, wsA_at 500 (by decide +kernel) (by decide +kernel), wsA_at 501 (by decide +kernel) (by decide +kernel), by decide, ⟨_, rfl, rfl⟩⟩
theorem oX_X7_hang : mOKV yX7_hang cX7_hang mX7_hang 2 7 := ⟨⟨wsA_at 527 (by decide +kernel) (by decide +kernel), wsA_at 10 (by decide +kernel) (by decide +kernel), by decide, by decide, by decide +kernel⟩, wsA_at 525 (by decide +kernel) (by decide +kernel), wsA_at 526 (by decide +kernel) (by decide +kernel), by decide, ⟨_, rfl, rfl⟩⟩
theorem oX_X7_begin : mOKV yX7_begin cX7_begin mX7_begin 1 7 := ⟨⟨wsA_at 540 (by decide +kernel) (by decide +kernel), wsA_at 10 (by decide +kernel) (by decide +kernel), by decide, by decide, by decide +kernel⟩, wsA_at 538 (by decide +kernel) (by decide +kernel), wsA_at 539 (by decide +kernel) (by decide +kernel), by decide, ⟨_, rfl, rfl⟩⟩
theorem oX_X7_lift : mOKV yX7_lift cX7_lift mX7_lift 2 7 := ⟨⟨wsA_at 549 (by decide +kernel) (by decide +kernel), wsA_at 10 (by decide +kernel) (by decide +kernel), by decide, by decide, by decide +kernel⟩, wsA_at 547 (by decide +kernel) (by decide +kernel), wsA_at 548 (by decide +kernel) (by decide +kernel), by decide, ⟨_, rfl, rfl⟩⟩
theorem oX_X7_cancel : mOKV yX7_cancel cX7_cancel mX7_cancel 1 7 := ⟨⟨wsA_at 558 (by decide +kernel) (by decide +kernel), wsA_at 10 (by decide +kernel) (by decide +kernel), by decide, by decide, by decide +kernel⟩, wsA_at 556 (by decide +kernel) (by decide +kernel), wsA_at 557 (by decide +kernel) (by decide +kernel), by decide, ⟨_, rfl, rfl⟩⟩
theorem oX_X7_pass : mOKV yX7_pass cX7_pass mX7_pass 1 7 := ⟨⟨wsA_at 566 (by decide +kernel) (by decide +kernel), wsA_at 10 (by decide +kernel) (by decide +kernel), by decide, by decide, by decide +kernel⟩, wsA_at 564 (by decide +kernel) (by decide +kernel), wsA_at 565 (by decide +kernel) (by decide +kernel), by decide, ⟨_, rfl, rfl⟩⟩
theorem oX_X7_undo : mOKV yX7_undo cX7_undo mX7_undo 0 7 := ⟨⟨wsA_at 624 (by decide +kernel) (by decide +kernel), wsA_at 10 (by decide +kernel) (by decide +kernel), by decide, by decide, by decide +kernel⟩, wsA_at 622 (by decide +kernel) (by decide +kernel), wsA_at 623 (by decide +kernel) (by decide +kernel), by decide, ⟨_, rfl, rfl⟩⟩
theorem oX_X7_keep : mOKV yX7_keep cX7_keep mX7_keep 0 7 := ⟨⟨wsA_at 635 (by decide +kernel) (by decide +kernel), wsA_at 10 (by decide +kernel) (by decide +kernel), by decide, by decide, by decide +kernel⟩, wsA_at 633 (by decide +kernel) (by decide +kernel), wsA_at 634 (by decide +kernel) (by decide +kernel), by decide, ⟨_, rfl, rfl⟩⟩
theorem oX_X7_restore : mOKV yX7_restore cX7_restore mX7_restore 0 7 := ⟨⟨wsA_at 639 (by decide +kernel) (by decide +kernel), wsA_at 10 (by decide +kernel) (by decide +kernel), by decide, by decide, by decide +kernel⟩, wsA_at 637 (by decide +kernel) (by decide +kernel), wsA_at 638 (by decide +kernel) (by decide +kernel), by decide, ⟨_, rfl, rfl⟩⟩
theorem oX_X7_real : mOKV yX7_real cX7_real mX7_real 2 7 := ⟨⟨wsA_at 615 (by decide +kernel) (by decide +kernel), wsA_at 10 (by decide +kernel) (by decide +kernel), by decide, by decide, by decide +kernel⟩, wsA_at 613 (by decide +kernel) (by decide +kernel), wsA_at 614 (by decide +kernel) (by decide +kernel), by decide, ⟨_, rfl, rfl⟩⟩
theorem oX_X7_hoursTo : mOKV yX7_hoursTo cX7_hoursTo mX7_hoursTo 2 7 := ⟨⟨wsA_at 384 (by decide +kernel) (by decide +kernel), wsA_at 10 (by decide +kernel) (by decide +kernel), by decide, by decide, by decide +kernel⟩, wsA_at 382 (by decide +kernel) (by decide +kernel), wsA_at 383 (by decide +kernel) (by decide +kernel), by decide, ⟨_, rfl, rfl⟩⟩
theorem oX_X7_asset : mOKV yX7_asset cX7_asset mX7_asset 2 7 := ⟨⟨wsA_at 357 (by decide +kernel) (by decide +kernel), wsA_at 10 (by decide +kernel) (by decide +kernel), by decide, by decide, by decide +kernel⟩, wsA_at 355 (by decide +kernel) (by decide +kernel), wsA_at 356 (by decide +kernel) (by decide +kernel), by decide, ⟨_, rfl, rfl⟩⟩
theorem oX_X7_tagAt : mOKV yX7_tagAt cX7_tagAt mX7_tagAt 2 7 := ⟨⟨wsA_at 380 (by decide +kernel) (by decide +kernel), wsA_at 10 (by decide +kernel) (by decide +kernel), by decide, by decide, by decide +kernel⟩, wsA_at 378 (by decide +kernel) (by decide +kernel), wsA_at 379 (by decide +kernel) (by decide +kernel), by decide, ⟨_, rfl, rfl⟩⟩
theorem oX_X7_crew : mOKV yX7_crew cX7_crew mX7_crew 2 7 := ⟨⟨wsA_at 398 (by decide +kernel) (by decide +kernel), wsA_at 10 (by decide +kernel) (by decide +kernel), by decide, by decide, by decide +kernel⟩, wsA_at 396 (by decide +kernel) (by decide +kernel), wsA_at 397 (by decide +kernel) (by decide +kernel), by decide, ⟨_, rfl, rfl⟩⟩
theorem oX_X7_task : mOKV yX7_task cX7_task mX7_task 2 7 := ⟨⟨wsA_at 414 (by decide +kernel) (by decide +kernel), wsA_at 10 (by decide +kernel) (by decide +kernel), by decide, by decide, by decide +kernel⟩, wsA_at 412 (by decide +kernel) (by decide +kernel), wsA_at 413 (by decide +kernel) (by decide +kernel), by decide, ⟨_, rfl, rfl⟩⟩
theorem oX_X7_crewFor : mOKV yX7_crewFor cX7_crewFor mX7_crewFor 1 7 := ⟨⟨wsA_at 510 (by decide +kernel) (by decide +kernel), wsA_at 10 (by decide +kernel) (by decide +kernel), by decide, by decide, by decide +kernel⟩, wsA_at 508 (by decide +kernel) (by decide +kernel), wsA_at 509 (by decide +kernel) (by decide +kernel), by decide, ⟨_, rfl, rfl⟩⟩
theorem oX_X7_count : mOKV yX7_count cX7_count mX7_count 1 7 := ⟨⟨wsA_at 318 (by decide +kernel) (by decide +kernel), wsA_at 10 (by decide +kernel) (by decide +kernel), by decide, by decide, by decide +kernel⟩, wsA_at 316 (by decide +kernel) (by decide +kernel), wsA_at 317 (by decide +kernel) (by decide +kernel), by decide, ⟨_, rfl, rfl⟩⟩
theorem oX_X7_recorded : mOKV yX7_recorded cX7_recorded mX7_recorded 1 7 := ⟨⟨wsA_at 297 (by decide +kernel) (by decide +kernel), wsA_at 10 (by decide +kernel) (by decide +kernel), by decide, by decide, by decide +kernel⟩, wsA_at 296 (by decide +kernel) (by decide +kernel), wsA_at 0 (by decide +kernel) (by decide +kernel), by decide, ⟨_, rfl, rfl⟩⟩
theorem oX_X7_within : mOKS yX7_within cX7_within mX7_within 3 := ⟨⟨wsA_at 288 (by decide +kernel) (by decide +kernel), wsA_at 10 (by decide +kernel) (by decide +kernel), by decide, by decide, by decide +kernel⟩, wsA_at 287 (by decide +kernel) (by decide +kernel)⟩
theorem oX_J6_bitCount_0f7a4 : mOKS yJ6_bitCount_0f7a4 cJ6_bitCount_0f7a4 mJ6_bitCount_0f7a4 1 := ⟨⟨wsA_at 466 (by decide +kernel) (by decide +kernel), wsA_at 18 (by decide +kernel) (by decide +kernel), by decide, by decide, by decide +kernel⟩, wsA_at 465 (by decide +kernel) (by decide +kernel)⟩
theorem oX_L_cell : mOKS yL_cell cL_cell mL_cell 2 := ⟨⟨wsA_at 347 (by decide +kernel) (by decide +kernel), wsA_at 9 (by decide +kernel) (by decide +kernel), by decide, by decide, by decide +kernel⟩, wsA_at 346 (by decide +kernel) (by decide +kernel)⟩
theorem oX_L_up : mOKS yL_up cL_up mL_up 2 := ⟨⟨wsA_at 450 (by decide +kernel) (by decide +kernel), wsA_at 9 (by decide +kernel) (by decide +kernel), by decide, by decide, by decide +kernel⟩, wsA_at 449 (by decide +kernel) (by decide +kernel)⟩
theorem oX_L_view : mOKS yL_view cL_view mL_view 1 := ⟨⟨wsA_at 351 (by decide +kernel) (by decide +kernel), wsA_at 9 (by decide +kernel) (by decide +kernel), by decide, by decide, by decide +kernel⟩, wsA_at 350 (by decide +kernel) (by decide +kernel)⟩
theorem oX_L_any : mOKS yL_any cL_any mL_any 3 := ⟨⟨wsA_at 602 (by decide +kernel) (by decide +kernel), wsA_at 9 (by decide +kernel) (by decide +kernel), by decide, by decide, by decide +kernel⟩, wsA_at 601 (by decide +kernel) (by decide +kernel)⟩
theorem oX_L_setsUp : mOKS yL_setsUp cL_setsUp mL_setsUp 3 := ⟨⟨wsA_at 454 (by decide +kernel) (by decide +kernel), wsA_at 9 (by decide +kernel) (by decide +kernel), by decide, by decide, by decide +kernel⟩, wsA_at 453 (by decide +kernel) (by decide +kernel)⟩
theorem oX_L_turn : mOKS yL_turn cL_turn mL_turn 4 := ⟨⟨wsA_at 447 (by decide +kernel) (by decide +kernel), wsA_at 9 (by decide +kernel) (by decide +kernel), by decide, by decide, by decide +kernel⟩, wsA_at 446 (by decide +kernel) (by decide +kernel)⟩
theorem oX_L_isTask : mOKS yL_isTask cL_isTask mL_isTask 2 := ⟨⟨wsA_at 608 (by decide +kernel) (by decide +kernel), wsA_at 9 (by decide +kernel) (by decide +kernel), by decide, by decide, by decide +kernel⟩, wsA_at 607 (by decide +kernel) (by decide +kernel)⟩
theorem oX_L_isAsset : mOKS yL_isAsset cL_isAsset mL_isAsset 2 := ⟨⟨wsA_at 611 (by decide +kernel) (by decide +kernel), wsA_at 9 (by decide +kernel) (by decide +kernel), by decide, by decide, by decide +kernel⟩, wsA_at 610 (by decide +kernel) (by decide +kernel)⟩
theorem oX_L_areRight : mOKS yL_areRight cL_areRight mL_areRight 1 := ⟨⟨wsA_at 605 (by decide +kernel) (by decide +kernel), wsA_at 9 (by decide +kernel) (by decide +kernel), by decide, by decide, by decide +kernel⟩, wsA_at 604 (by decide +kernel) (by decide +kernel)⟩
theorem oX_L_isUndone : mOKS yL_isUndone cL_isUndone mL_isUndone 6 := ⟨⟨wsA_at 620 (by decide +kernel) (by decide +kernel), wsA_at 9 (by decide +kernel) (by decide +kernel), by decide, by decide, by decide +kernel⟩, wsA_at 619 (by decide +kernel) (by decide +kernel)⟩
theorem oX_L_isKept : mOKS yL_isKept cL_isKept mL_isKept 3 := ⟨⟨wsA_at 631 (by decide +kernel) (by decide +kernel), wsA_at 9 (by decide +kernel) (by decide +kernel), by decide, by decide, by decide +kernel⟩, wsA_at 630 (by decide +kernel) (by decide +kernel)⟩
theorem lk_RL_118 : Cond.methodLink RL 118 yX7_init ∈ wsA := wsA_at 21 (by decide +kernel) (by decide +kernel)
theorem lk_RX7_1 : Cond.methodLink RX7 1 objectInit ∈ wsA := wsA_at 24 (by decide +kernel) (by decide +kernel)
theorem lk_RX7_9 : Cond.methodLink RX7 9 yX5_init ∈ wsA := wsA_at 29 (by decide +kernel) (by decide +kernel)
theorem lk_RX5_3 : Cond.methodLink RX5 3 objectInit ∈ wsA := wsA_at 32 (by decide +kernel) (by decide +kernel)
theorem lk_RX0_3 : Cond.methodLink RX0 3 objectInit ∈ wsA := wsA_at 43 (by decide +kernel) (by decide +kernel)
theorem lk_RX1_1 : Cond.methodLink RX1 1 objectInit ∈ wsA := wsA_at 75 (by decide +kernel) (by decide +kernel)
theorem lk_RX6_3 : Cond.methodLink RX6 3 objectInit ∈ wsA := wsA_at 90 (by decide +kernel) (by decide +kernel)
theorem lk_RX7_28 : Cond.methodLink RX7 28 yX2_init ∈ wsA := wsA_at 184 (by decide +kernel) (by decide +kernel)
theorem lk_RX2_3 : Cond.methodLink RX2 3 objectInit ∈ wsA := wsA_at 187 (by decide +kernel) (by decide +kernel)
theorem lk_RX2_24 : Cond.methodLink RX2 24 yX5_init ∈ wsA := wsA_at 190 (by decide +kernel) (by decide +kernel)
theorem lk_RX7_35 : Cond.methodLink RX7 35 yX4_init ∈ wsA := wsA_at 204 (by decide +kernel) (by decide +kernel)
theorem lk_RX4_3 : Cond.methodLink RX4 3 objectInit ∈ wsA := wsA_at 207 (by decide +kernel) (by decide +kernel)
theorem lk_RX3_1 : Cond.methodLink RX3 1 objectInit ∈ wsA := wsA_at 214 (by decide +kernel) (by decide +kernel)
theorem lk_RL_35 : Cond.methodLink RL 35 yX7_addAsset ∈ wsA := wsA_at 262 (by decide +kernel) (by decide +kernel)
theorem lk_RX7_40 : Cond.methodLink RX7 40 yX5_copyFrom ∈ wsA := wsA_at 266 (by decide +kernel) (by decide +kernel)
theorem lk_RX5_49 : Cond.methodLink RX5 49 yX0_copyFrom ∈ wsA := wsA_at 270 (by decide +kernel) (by decide +kernel)
theorem lk_RX5_53 : Cond.methodLink RX5 53 yX1_copyFrom ∈ wsA := wsA_at 274 (by decide +kernel) (by decide +kernel)
theorem lk_RX5_56 : Cond.methodLink RX5 56 yX6_copyFrom ∈ wsA := wsA_at 278 (by decide +kernel) (by decide +kernel)
theorem lk_RX7_44 : Cond.methodLink RX7 44 yX5_newAsset ∈ wsA := wsA_at 282 (by decide +kernel) (by decide +kernel)
theorem lk_RX5_63 : Cond.methodLink RX5 63 yX0_setUp ∈ wsA := wsA_at 289 (by decide +kernel) (by decide +kernel)
theorem lk_RX7_48 : Cond.methodLink RX7 48 yX7_recorded ∈ wsA := wsA_at 294 (by decide +kernel) (by decide +kernel)
theorem lk_RX7_265 : Cond.methodLink RX7 265 yX2_add ∈ wsA := wsA_at 298 (by decide +kernel) (by decide +kernel)
theorem lk_RX2_25 : Cond.methodLink RX2 25 yX5_copyFrom ∈ wsA := wsA_at 302 (by decide +kernel) (by decide +kernel)
theorem lk_RL_69 : Cond.methodLink RL 69 yX7_addCrew ∈ wsA := wsA_at 303 (by decide +kernel) (by decide +kernel)
theorem lk_RX7_59 : Cond.methodLink RX7 59 yX5_newCrew ∈ wsA := wsA_at 307 (by decide +kernel) (by decide +kernel)
theorem lk_RX5_87 : Cond.methodLink RX5 87 yX1_setUp ∈ wsA := wsA_at 311 (by decide +kernel) (by decide +kernel)
theorem lk_RL_13 : Cond.methodLink RL 13 yX7_count ∈ wsA := wsA_at 315 (by decide +kernel) (by decide +kernel)
theorem lk_RX7_241 : Cond.methodLink RX7 241 yX5_assetsRunning ∈ wsA := wsA_at 319 (by decide +kernel) (by decide +kernel)
theorem lk_RX7_250 : Cond.methodLink RX7 250 yX5_tasksIn ∈ wsA := wsA_at 323 (by decide +kernel) (by decide +kernel)
theorem lk_RX5_162 : Cond.methodLink RX5 162 yX6_isIn ∈ wsA := wsA_at 327 (by decide +kernel) (by decide +kernel)
theorem lk_RX7_253 : Cond.methodLink RX7 253 yX5_slipsSoFar ∈ wsA := wsA_at 331 (by decide +kernel) (by decide +kernel)
theorem lk_RX7_256 : Cond.methodLink RX7 256 yX5_allBusyPeople ∈ wsA := wsA_at 335 (by decide +kernel) (by decide +kernel)
theorem lk_RX5_200 : Cond.methodLink RX5 200 yX6_tagHangs ∈ wsA := wsA_at 339 (by decide +kernel) (by decide +kernel)
theorem lk_RX6_48 : Cond.methodLink RX6 48 yX6_isIn ∈ wsA := wsA_at 343 (by decide +kernel) (by decide +kernel)
theorem lk_RX7_138 : Cond.methodLink RX7 138 yX7_within ∈ wsA := wsA_at 344 (by decide +kernel) (by decide +kernel)
theorem lk_RL_119 : Cond.methodLink RL 119 yL_cell ∈ wsA := wsA_at 345 (by decide +kernel) (by decide +kernel)
theorem lk_RL_100 : Cond.methodLink RL 100 yL_view ∈ wsA := wsA_at 349 (by decide +kernel) (by decide +kernel)
theorem lk_RL_19 : Cond.methodLink RL 19 yX7_asset ∈ wsA := wsA_at 354 (by decide +kernel) (by decide +kernel)
theorem lk_RX7_117 : Cond.methodLink RX7 117 yX5_hasAsset ∈ wsA := wsA_at 358 (by decide +kernel) (by decide +kernel)
theorem lk_RX7_154 : Cond.methodLink RX7 154 yX5_tagsHanging ∈ wsA := wsA_at 362 (by decide +kernel) (by decide +kernel)
theorem lk_RX5_196 : Cond.methodLink RX5 196 yX5_tasksOfAsset ∈ wsA := wsA_at 366 (by decide +kernel) (by decide +kernel)
theorem lk_RX7_157 : Cond.methodLink RX7 157 yX5_taskOfTag ∈ wsA := wsA_at 370 (by decide +kernel) (by decide +kernel)
theorem lk_RX5_91 : Cond.methodLink RX5 91 yX5_tagsHanging ∈ wsA := wsA_at 374 (by decide +kernel) (by decide +kernel)
theorem lk_RX7_163 : Cond.methodLink RX7 163 yX5_tasksOfAsset ∈ wsA := wsA_at 375 (by decide +kernel) (by decide +kernel)
theorem lk_RL_23 : Cond.methodLink RL 23 yX7_tagAt ∈ wsA := wsA_at 377 (by decide +kernel) (by decide +kernel)
theorem lk_RL_26 : Cond.methodLink RL 26 yX7_hoursTo ∈ wsA := wsA_at 381 (by decide +kernel) (by decide +kernel)
theorem lk_RX7_147 : Cond.methodLink RX7 147 yX0_hoursUntilBelow ∈ wsA := wsA_at 386 (by decide +kernel) (by decide +kernel)
theorem lk_RX0_33 : Cond.methodLink RX0 33 yX0_afterAnHour ∈ wsA := wsA_at 390 (by decide +kernel) (by decide +kernel)
theorem lk_RL_29 : Cond.methodLink RL 29 yX7_crew ∈ wsA := wsA_at 395 (by decide +kernel) (by decide +kernel)
theorem lk_RX7_168 : Cond.methodLink RX7 168 yX5_hasCrew ∈ wsA := wsA_at 399 (by decide +kernel) (by decide +kernel)
theorem lk_RX7_183 : Cond.methodLink RX7 183 yX5_busyPeople ∈ wsA := wsA_at 403 (by decide +kernel) (by decide +kernel)
theorem lk_RX7_186 : Cond.methodLink RX7 186 yX5_tasksOfCrew ∈ wsA := wsA_at 407 (by decide +kernel) (by decide +kernel)
theorem lk_RL_32 : Cond.methodLink RL 32 yX7_task ∈ wsA := wsA_at 411 (by decide +kernel) (by decide +kernel)
theorem lk_RX7_189 : Cond.methodLink RX7 189 yX5_hasTask ∈ wsA := wsA_at 415 (by decide +kernel) (by decide +kernel)
theorem lk_RX7_229 : Cond.methodLink RX7 229 yX5_reasonAgainst ∈ wsA := wsA_at 419 (by decide +kernel) (by decide +kernel)
theorem lk_RX5_102 : Cond.methodLink RX5 102 yX5_hasTask ∈ wsA := wsA_at 423 (by decide +kernel) (by decide +kernel)
theorem lk_RX5_165 : Cond.methodLink RX5 165 yX6_isTooLateAt ∈ wsA := wsA_at 424 (by decide +kernel) (by decide +kernel)
theorem lk_RX5_174 : Cond.methodLink RX5 174 yX5_barrierOf ∈ wsA := wsA_at 428 (by decide +kernel) (by decide +kernel)
theorem lk_RX5_83 : Cond.methodLink RX5 83 yX5_doBar ∈ wsA := wsA_at 432 (by decide +kernel) (by decide +kernel)
theorem lk_RX5_180 : Cond.methodLink RX5 180 yX5_areNear ∈ wsA := wsA_at 436 (by decide +kernel) (by decide +kernel)
theorem lk_RX5_71 : Cond.methodLink RX5 71 yX0_isLinkedTo ∈ wsA := wsA_at 440 (by decide +kernel) (by decide +kernel)
theorem lk_RX7_232 : Cond.methodLink RX7 232 yX5_barrierOf ∈ wsA := wsA_at 444 (by decide +kernel) (by decide +kernel)
theorem lk_RL_108 : Cond.methodLink RL 108 yL_turn ∈ wsA := wsA_at 445 (by decide +kernel) (by decide +kernel)
theorem lk_RL_61 : Cond.methodLink RL 61 yL_up ∈ wsA := wsA_at 448 (by decide +kernel) (by decide +kernel)
theorem lk_RL_72 : Cond.methodLink RL 72 yL_setsUp ∈ wsA := wsA_at 452 (by decide +kernel) (by decide +kernel)
theorem lk_RL_66 : Cond.methodLink RL 66 yX7_link ∈ wsA := wsA_at 455 (by decide +kernel) (by decide +kernel)
theorem lk_RX7_52 : Cond.methodLink RX7 52 yX5_setLink ∈ wsA := wsA_at 459 (by decide +kernel) (by decide +kernel)
theorem lk_RX5_67 : Cond.methodLink RX5 67 yX5_hasAsset ∈ wsA := wsA_at 463 (by decide +kernel) (by decide +kernel)
theorem lk_RX5_77 : Cond.methodLink RX5 77 yJ6_bitCount_0f7a4 ∈ wsA := wsA_at 464 (by decide +kernel) (by decide +kernel)
theorem lk_RL_51 : Cond.methodLink RL 51 yX7_bar ∈ wsA := wsA_at 470 (by decide +kernel) (by decide +kernel)
theorem lk_RX7_56 : Cond.methodLink RX7 56 yX5_setBar ∈ wsA := wsA_at 474 (by decide +kernel) (by decide +kernel)
theorem lk_RL_38 : Cond.methodLink RL 38 yX7_addTask ∈ wsA := wsA_at 478 (by decide +kernel) (by decide +kernel)
theorem lk_RX7_62 : Cond.methodLink RX7 62 yX5_newTask ∈ wsA := wsA_at 482 (by decide +kernel) (by decide +kernel)
theorem lk_RX5_88 : Cond.methodLink RX5 88 yX6_setUp ∈ wsA := wsA_at 486 (by decide +kernel) (by decide +kernel)
theorem lk_RL_55 : Cond.methodLink RL 55 yX7_run ∈ wsA := wsA_at 490 (by decide +kernel) (by decide +kernel)
theorem lk_RX7_66 : Cond.methodLink RX7 66 yX5_startAsset ∈ wsA := wsA_at 494 (by decide +kernel) (by decide +kernel)
theorem lk_RX5_98 : Cond.methodLink RX5 98 yX5_assetsRunning ∈ wsA := wsA_at 498 (by decide +kernel) (by decide +kernel)
theorem lk_RL_76 : Cond.methodLink RL 76 yX7_stop ∈ wsA := wsA_at 499 (by decide +kernel) (by decide +kernel)
theorem lk_RX7_69 : Cond.methodLink RX7 69 yX5_stopAsset ∈ wsA := wsA_at 503 (by decide +kernel) (by decide +kernel)
theorem lk_RL_79 : Cond.methodLink RL 79 yX7_crewFor ∈ wsA := wsA_at 507 (by decide +kernel) (by decide +kernel)
theorem lk_RX7_235 : Cond.methodLink RX7 235 yX5_firstCrewFor ∈ wsA := wsA_at 511 (by decide +kernel) (by decide +kernel)
theorem lk_RX5_117 : Cond.methodLink RX5 117 yX5_canServe ∈ wsA := wsA_at 515 (by decide +kernel) (by decide +kernel)
theorem lk_RX5_186 : Cond.methodLink RX5 186 yX1_has ∈ wsA := wsA_at 519 (by decide +kernel) (by decide +kernel)
theorem lk_RX5_192 : Cond.methodLink RX5 192 yX5_busyPeople ∈ wsA := wsA_at 523 (by decide +kernel) (by decide +kernel)
theorem lk_RL_42 : Cond.methodLink RL 42 yX7_hang ∈ wsA := wsA_at 524 (by decide +kernel) (by decide +kernel)
theorem lk_RX7_72 : Cond.methodLink RX7 72 yX5_hangTag ∈ wsA := wsA_at 528 (by decide +kernel) (by decide +kernel)
theorem lk_RX5_105 : Cond.methodLink RX5 105 yX5_hasCrew ∈ wsA := wsA_at 532 (by decide +kernel) (by decide +kernel)
theorem lk_RX5_114 : Cond.methodLink RX5 114 yX5_isRunning ∈ wsA := wsA_at 533 (by decide +kernel) (by decide +kernel)
theorem lk_RL_82 : Cond.methodLink RL 82 yX7_begin ∈ wsA := wsA_at 537 (by decide +kernel) (by decide +kernel)
theorem lk_RX7_75 : Cond.methodLink RX7 75 yX5_beginTask ∈ wsA := wsA_at 541 (by decide +kernel) (by decide +kernel)
theorem lk_RX5_127 : Cond.methodLink RX5 127 yX5_reasonAgainst ∈ wsA := wsA_at 545 (by decide +kernel) (by decide +kernel)
theorem lk_RL_45 : Cond.methodLink RL 45 yX7_lift ∈ wsA := wsA_at 546 (by decide +kernel) (by decide +kernel)
theorem lk_RX7_78 : Cond.methodLink RX7 78 yX5_liftTag ∈ wsA := wsA_at 550 (by decide +kernel) (by decide +kernel)
theorem lk_RX5_136 : Cond.methodLink RX5 136 yX5_taskOfTag ∈ wsA := wsA_at 554 (by decide +kernel) (by decide +kernel)
theorem lk_RL_58 : Cond.methodLink RL 58 yX7_cancel ∈ wsA := wsA_at 555 (by decide +kernel) (by decide +kernel)
theorem lk_RX7_81 : Cond.methodLink RX7 81 yX5_cancelTask ∈ wsA := wsA_at 559 (by decide +kernel) (by decide +kernel)
theorem lk_RL_48 : Cond.methodLink RL 48 yX7_pass ∈ wsA := wsA_at 563 (by decide +kernel) (by decide +kernel)
theorem lk_RX7_84 : Cond.methodLink RX7 84 yX5_passHours ∈ wsA := wsA_at 567 (by decide +kernel) (by decide +kernel)
theorem lk_RX5_143 : Cond.methodLink RX5 143 yX5_runAssets ∈ wsA := wsA_at 571 (by decide +kernel) (by decide +kernel)
theorem lk_RX5_152 : Cond.methodLink RX5 152 yX0_runForAnHour ∈ wsA := wsA_at 575 (by decide +kernel) (by decide +kernel)
theorem lk_RX5_146 : Cond.methodLink RX5 146 yX5_workOnTasks ∈ wsA := wsA_at 579 (by decide +kernel) (by decide +kernel)
theorem lk_RX5_155 : Cond.methodLink RX5 155 yX5_mendAsset ∈ wsA := wsA_at 583 (by decide +kernel) (by decide +kernel)
theorem lk_RX5_159 : Cond.methodLink RX5 159 yX0_mend ∈ wsA := wsA_at 587 (by decide +kernel) (by decide +kernel)
theorem lk_RX5_149 : Cond.methodLink RX5 149 yX5_slipTasks ∈ wsA := wsA_at 592 (by decide +kernel) (by decide +kernel)
theorem lk_RX5_168 : Cond.methodLink RX5 168 yX6_slip ∈ wsA := wsA_at 596 (by decide +kernel) (by decide +kernel)
theorem lk_RL_85 : Cond.methodLink RL 85 yL_any ∈ wsA := wsA_at 600 (by decide +kernel) (by decide +kernel)
theorem lk_RL_131 : Cond.methodLink RL 131 yL_areRight ∈ wsA := wsA_at 603 (by decide +kernel) (by decide +kernel)
theorem lk_RL_93 : Cond.methodLink RL 93 yL_isTask ∈ wsA := wsA_at 606 (by decide +kernel) (by decide +kernel)
theorem lk_RL_97 : Cond.methodLink RL 97 yL_isAsset ∈ wsA := wsA_at 609 (by decide +kernel) (by decide +kernel)
theorem lk_RL_88 : Cond.methodLink RL 88 yX7_real ∈ wsA := wsA_at 612 (by decide +kernel) (by decide +kernel)
theorem lk_RL_123 : Cond.methodLink RL 123 yL_isUndone ∈ wsA := wsA_at 618 (by decide +kernel) (by decide +kernel)
theorem lk_RL_104 : Cond.methodLink RL 104 yX7_undo ∈ wsA := wsA_at 621 (by decide +kernel) (by decide +kernel)
theorem lk_RX7_110 : Cond.methodLink RX7 110 yX2_takeBack ∈ wsA := wsA_at 625 (by decide +kernel) (by decide +kernel)
theorem lk_RL_127 : Cond.methodLink RL 127 yL_isKept ∈ wsA := wsA_at 629 (by decide +kernel) (by decide +kernel)
theorem lk_RL_112 : Cond.methodLink RL 112 yX7_keep ∈ wsA := wsA_at 632 (by decide +kernel) (by decide +kernel)
theorem lk_RL_115 : Cond.methodLink RL 115 yX7_restore ∈ wsA := wsA_at 636 (by decide +kernel) (by decide +kernel)
theorem oi_inst : Cond.instanceMethod objectInit ∈ wsA := wsA_at 25 (by decide +kernel) (by decide +kernel)
theorem oi_code : Cond.code objectInit ⟨#[0xb1]⟩ 1 none ∈ wsA := wsA_at 26 (by decide +kernel) (by decide +kernel)
theorem fd_RX0_9 : fdOK RX0 9 0 0 := ⟨RX0, TX0, rfl, iAX0, by decide, tyX0_ok, nmX0, wsA_at 44 (by decide +kernel) (by decide +kernel)⟩
theorem fd_RX0_15 : fdOK RX0 15 0 1 := ⟨RX0, TX0, rfl, iAX0, by decide, tyX0_ok, nmX0, wsA_at 45 (by decide +kernel) (by decide +kernel)⟩
theorem fd_RX7_135 : fdOK RX7 135 0 1 := ⟨RX0, TX0, rfl, iAX0, by decide, tyX0_ok, nmX0, wsA_at 46 (by decide +kernel) (by decide +kernel)⟩
theorem fd_RX0_19 : fdOK RX0 19 0 2 := ⟨RX0, TX0, rfl, iAX0, by decide, tyX0_ok, nmX0, wsA_at 47 (by decide +kernel) (by decide +kernel)⟩
theorem fd_RX7_126 : fdOK RX7 126 0 2 := ⟨RX0, TX0, rfl, iAX0, by decide, tyX0_ok, nmX0, wsA_at 48 (by decide +kernel) (by decide +kernel)⟩
theorem fd_RX0_22 : fdOK RX0 22 0 3 := ⟨RX0, TX0, rfl, iAX0, by decide, tyX0_ok, nmX0, wsA_at 49 (by decide +kernel) (by decide +kernel)⟩
theorem fd_RX7_132 : fdOK RX7 132 0 3 := ⟨RX0, TX0, rfl, iAX0, by decide, tyX0_ok, nmX0, wsA_at 50 (by decide +kernel) (by decide +kernel)⟩
theorem fd_RX0_25 : fdOK RX0 25 0 4 := ⟨RX0, TX0, rfl, iAX0, by decide, tyX0_ok, nmX0, wsA_at 51 (by decide +kernel) (by decide +kernel)⟩
theorem fd_RX5_94 : fdOK RX5 94 0 4 := ⟨RX0, TX0, rfl, iAX0, by decide, tyX0_ok, nmX0, wsA_at 52 (by decide +kernel) (by decide +kernel)⟩
theorem fd_RX7_151 : fdOK RX7 151 0 4 := ⟨RX0, TX0, rfl, iAX0, by decide, tyX0_ok, nmX0, wsA_at 53 (by decide +kernel) (by decide +kernel)⟩
theorem fd_RX0_29 : fdOK RX0 29 0 5 := ⟨RX0, TX0, rfl, iAX0, by decide, tyX0_ok, nmX0, wsA_at 54 (by decide +kernel) (by decide +kernel)⟩
theorem fd_RX5_74 : fdOK RX5 74 0 5 := ⟨RX0, TX0, rfl, iAX0, by decide, tyX0_ok, nmX0, wsA_at 55 (by decide +kernel) (by decide +kernel)⟩
theorem fd_RX7_160 : fdOK RX7 160 0 5 := ⟨RX0, TX0, rfl, iAX0, by decide, tyX0_ok, nmX0, wsA_at 56 (by decide +kernel) (by decide +kernel)⟩
theorem fd_RX1_7 : fdOK RX1 7 1 0 := ⟨RX1, TX1, rfl, iAX1, by decide, tyX1_ok, nmX1, wsA_at 76 (by decide +kernel) (by decide +kernel)⟩
theorem fd_RX7_175 : fdOK RX7 175 1 0 := ⟨RX1, TX1, rfl, iAX1, by decide, tyX1_ok, nmX1, wsA_at 77 (by decide +kernel) (by decide +kernel)⟩
theorem fd_RX5_189 : fdOK RX5 189 1 0 := ⟨RX1, TX1, rfl, iAX1, by decide, tyX1_ok, nmX1, wsA_at 78 (by decide +kernel) (by decide +kernel)⟩
theorem fd_RX1_13 : fdOK RX1 13 1 1 := ⟨RX1, TX1, rfl, iAX1, by decide, tyX1_ok, nmX1, wsA_at 79 (by decide +kernel) (by decide +kernel)⟩
theorem fd_RX7_180 : fdOK RX7 180 1 1 := ⟨RX1, TX1, rfl, iAX1, by decide, tyX1_ok, nmX1, wsA_at 80 (by decide +kernel) (by decide +kernel)⟩
theorem fd_RX6_9 : fdOK RX6 9 6 0 := ⟨RX6, TX6, rfl, iAX6, by decide, tyX6_ok, nmX6, wsA_at 91 (by decide +kernel) (by decide +kernel)⟩
theorem fd_RX5_111 : fdOK RX5 111 6 0 := ⟨RX6, TX6, rfl, iAX6, by decide, tyX6_ok, nmX6, wsA_at 92 (by decide +kernel) (by decide +kernel)⟩
theorem fd_RX7_196 : fdOK RX7 196 6 0 := ⟨RX6, TX6, rfl, iAX6, by decide, tyX6_ok, nmX6, wsA_at 93 (by decide +kernel) (by decide +kernel)⟩
theorem fd_RX6_15 : fdOK RX6 15 6 1 := ⟨RX6, TX6, rfl, iAX6, by decide, tyX6_ok, nmX6, wsA_at 94 (by decide +kernel) (by decide +kernel)⟩
theorem fd_RX7_204 : fdOK RX7 204 6 1 := ⟨RX6, TX6, rfl, iAX6, by decide, tyX6_ok, nmX6, wsA_at 95 (by decide +kernel) (by decide +kernel)⟩
theorem fd_RX5_183 : fdOK RX5 183 6 1 := ⟨RX6, TX6, rfl, iAX6, by decide, tyX6_ok, nmX6, wsA_at 96 (by decide +kernel) (by decide +kernel)⟩
theorem fd_RX6_18 : fdOK RX6 18 6 2 := ⟨RX6, TX6, rfl, iAX6, by decide, tyX6_ok, nmX6, wsA_at 97 (by decide +kernel) (by decide +kernel)⟩
theorem fd_RX7_207 : fdOK RX7 207 6 2 := ⟨RX6, TX6, rfl, iAX6, by decide, tyX6_ok, nmX6, wsA_at 98 (by decide +kernel) (by decide +kernel)⟩
theorem fd_RX5_195 : fdOK RX5 195 6 2 := ⟨RX6, TX6, rfl, iAX6, by decide, tyX6_ok, nmX6, wsA_at 99 (by decide +kernel) (by decide +kernel)⟩
theorem fd_RX6_21 : fdOK RX6 21 6 3 := ⟨RX6, TX6, rfl, iAX6, by decide, tyX6_ok, nmX6, wsA_at 100 (by decide +kernel) (by decide +kernel)⟩
theorem fd_RX5_177 : fdOK RX5 177 6 3 := ⟨RX6, TX6, rfl, iAX6, by decide, tyX6_ok, nmX6, wsA_at 101 (by decide +kernel) (by decide +kernel)⟩
theorem fd_RX7_208 : fdOK RX7 208 6 3 := ⟨RX6, TX6, rfl, iAX6, by decide, tyX6_ok, nmX6, wsA_at 102 (by decide +kernel) (by decide +kernel)⟩
theorem fd_RX6_24 : fdOK RX6 24 6 4 := ⟨RX6, TX6, rfl, iAX6, by decide, tyX6_ok, nmX6, wsA_at 103 (by decide +kernel) (by decide +kernel)⟩
theorem fd_RX5_130 : fdOK RX5 130 6 4 := ⟨RX6, TX6, rfl, iAX6, by decide, tyX6_ok, nmX6, wsA_at 104 (by decide +kernel) (by decide +kernel)⟩
theorem fd_RX7_211 : fdOK RX7 211 6 4 := ⟨RX6, TX6, rfl, iAX6, by decide, tyX6_ok, nmX6, wsA_at 105 (by decide +kernel) (by decide +kernel)⟩
theorem fd_RX6_27 : fdOK RX6 27 6 5 := ⟨RX6, TX6, rfl, iAX6, by decide, tyX6_ok, nmX6, wsA_at 106 (by decide +kernel) (by decide +kernel)⟩
theorem fd_RX5_171 : fdOK RX5 171 6 5 := ⟨RX6, TX6, rfl, iAX6, by decide, tyX6_ok, nmX6, wsA_at 107 (by decide +kernel) (by decide +kernel)⟩
theorem fd_RX7_214 : fdOK RX7 214 6 5 := ⟨RX6, TX6, rfl, iAX6, by decide, tyX6_ok, nmX6, wsA_at 108 (by decide +kernel) (by decide +kernel)⟩
theorem fd_RX6_30 : fdOK RX6 30 6 6 := ⟨RX6, TX6, rfl, iAX6, by decide, tyX6_ok, nmX6, wsA_at 109 (by decide +kernel) (by decide +kernel)⟩
theorem fd_RX7_217 : fdOK RX7 217 6 6 := ⟨RX6, TX6, rfl, iAX6, by decide, tyX6_ok, nmX6, wsA_at 110 (by decide +kernel) (by decide +kernel)⟩
theorem fd_RX6_33 : fdOK RX6 33 6 7 := ⟨RX6, TX6, rfl, iAX6, by decide, tyX6_ok, nmX6, wsA_at 111 (by decide +kernel) (by decide +kernel)⟩
theorem fd_RX5_108 : fdOK RX5 108 6 7 := ⟨RX6, TX6, rfl, iAX6, by decide, tyX6_ok, nmX6, wsA_at 112 (by decide +kernel) (by decide +kernel)⟩
theorem fd_RX7_201 : fdOK RX7 201 6 7 := ⟨RX6, TX6, rfl, iAX6, by decide, tyX6_ok, nmX6, wsA_at 113 (by decide +kernel) (by decide +kernel)⟩
theorem fd_RX6_36 : fdOK RX6 36 6 8 := ⟨RX6, TX6, rfl, iAX6, by decide, tyX6_ok, nmX6, wsA_at 114 (by decide +kernel) (by decide +kernel)⟩
theorem fd_RX5_124 : fdOK RX5 124 6 8 := ⟨RX6, TX6, rfl, iAX6, by decide, tyX6_ok, nmX6, wsA_at 115 (by decide +kernel) (by decide +kernel)⟩
theorem fd_RX7_220 : fdOK RX7 220 6 8 := ⟨RX6, TX6, rfl, iAX6, by decide, tyX6_ok, nmX6, wsA_at 116 (by decide +kernel) (by decide +kernel)⟩
theorem fd_RX6_39 : fdOK RX6 39 6 9 := ⟨RX6, TX6, rfl, iAX6, by decide, tyX6_ok, nmX6, wsA_at 117 (by decide +kernel) (by decide +kernel)⟩
theorem fd_RX5_133 : fdOK RX5 133 6 9 := ⟨RX6, TX6, rfl, iAX6, by decide, tyX6_ok, nmX6, wsA_at 118 (by decide +kernel) (by decide +kernel)⟩
theorem fd_RX7_223 : fdOK RX7 223 6 9 := ⟨RX6, TX6, rfl, iAX6, by decide, tyX6_ok, nmX6, wsA_at 119 (by decide +kernel) (by decide +kernel)⟩
theorem fd_RX6_42 : fdOK RX6 42 6 10 := ⟨RX6, TX6, rfl, iAX6, by decide, tyX6_ok, nmX6, wsA_at 120 (by decide +kernel) (by decide +kernel)⟩
theorem fd_RX5_140 : fdOK RX5 140 6 10 := ⟨RX6, TX6, rfl, iAX6, by decide, tyX6_ok, nmX6, wsA_at 121 (by decide +kernel) (by decide +kernel)⟩
theorem fd_RX7_226 : fdOK RX7 226 6 10 := ⟨RX6, TX6, rfl, iAX6, by decide, tyX6_ok, nmX6, wsA_at 122 (by decide +kernel) (by decide +kernel)⟩
theorem fd_RX6_45 : fdOK RX6 45 6 11 := ⟨RX6, TX6, rfl, iAX6, by decide, tyX6_ok, nmX6, wsA_at 123 (by decide +kernel) (by decide +kernel)⟩
theorem fd_RX5_121 : fdOK RX5 121 6 11 := ⟨RX6, TX6, rfl, iAX6, by decide, tyX6_ok, nmX6, wsA_at 124 (by decide +kernel) (by decide +kernel)⟩
theorem fd_RX5_11 : fdOK RX5 11 5 0 := ⟨RX5, TX5, rfl, iAX5, by decide, tyX5_ok, nmX5, wsA_at 150 (by decide +kernel) (by decide +kernel)⟩
theorem fd_RX7_122 : fdOK RX7 122 5 0 := ⟨RX5, TX5, rfl, iAX5, by decide, tyX5_ok, nmX5, wsA_at 151 (by decide +kernel) (by decide +kernel)⟩
theorem fd_RX5_19 : fdOK RX5 19 5 1 := ⟨RX5, TX5, rfl, iAX5, by decide, tyX5_ok, nmX5, wsA_at 152 (by decide +kernel) (by decide +kernel)⟩
theorem fd_RX7_171 : fdOK RX7 171 5 1 := ⟨RX5, TX5, rfl, iAX5, by decide, tyX5_ok, nmX5, wsA_at 153 (by decide +kernel) (by decide +kernel)⟩
theorem fd_RX5_25 : fdOK RX5 25 5 2 := ⟨RX5, TX5, rfl, iAX5, by decide, tyX5_ok, nmX5, wsA_at 154 (by decide +kernel) (by decide +kernel)⟩
theorem fd_RX7_192 : fdOK RX7 192 5 2 := ⟨RX5, TX5, rfl, iAX5, by decide, tyX5_ok, nmX5, wsA_at 155 (by decide +kernel) (by decide +kernel)⟩
theorem fd_RX5_29 : fdOK RX5 29 5 3 := ⟨RX5, TX5, rfl, iAX5, by decide, tyX5_ok, nmX5, wsA_at 156 (by decide +kernel) (by decide +kernel)⟩
theorem fd_RX5_33 : fdOK RX5 33 5 4 := ⟨RX5, TX5, rfl, iAX5, by decide, tyX5_ok, nmX5, wsA_at 157 (by decide +kernel) (by decide +kernel)⟩
theorem fd_RX7_238 : fdOK RX7 238 5 4 := ⟨RX5, TX5, rfl, iAX5, by decide, tyX5_ok, nmX5, wsA_at 158 (by decide +kernel) (by decide +kernel)⟩
theorem fd_RX5_37 : fdOK RX5 37 5 5 := ⟨RX5, TX5, rfl, iAX5, by decide, tyX5_ok, nmX5, wsA_at 159 (by decide +kernel) (by decide +kernel)⟩
theorem fd_RX7_244 : fdOK RX7 244 5 5 := ⟨RX5, TX5, rfl, iAX5, by decide, tyX5_ok, nmX5, wsA_at 160 (by decide +kernel) (by decide +kernel)⟩
theorem fd_RX5_40 : fdOK RX5 40 5 6 := ⟨RX5, TX5, rfl, iAX5, by decide, tyX5_ok, nmX5, wsA_at 161 (by decide +kernel) (by decide +kernel)⟩
theorem fd_RX7_247 : fdOK RX7 247 5 6 := ⟨RX5, TX5, rfl, iAX5, by decide, tyX5_ok, nmX5, wsA_at 162 (by decide +kernel) (by decide +kernel)⟩
theorem fd_RX5_43 : fdOK RX5 43 5 7 := ⟨RX5, TX5, rfl, iAX5, by decide, tyX5_ok, nmX5, wsA_at 163 (by decide +kernel) (by decide +kernel)⟩
theorem fd_RX7_114 : fdOK RX7 114 5 7 := ⟨RX5, TX5, rfl, iAX5, by decide, tyX5_ok, nmX5, wsA_at 164 (by decide +kernel) (by decide +kernel)⟩
theorem fd_RX2_11 : fdOK RX2 11 2 0 := ⟨RX2, TX2, rfl, iAX2, by decide, tyX2_ok, nmX2, wsA_at 191 (by decide +kernel) (by decide +kernel)⟩
theorem fd_RX2_17 : fdOK RX2 17 2 1 := ⟨RX2, TX2, rfl, iAX2, by decide, tyX2_ok, nmX2, wsA_at 192 (by decide +kernel) (by decide +kernel)⟩
theorem fd_RX2_21 : fdOK RX2 21 2 2 := ⟨RX2, TX2, rfl, iAX2, by decide, tyX2_ok, nmX2, wsA_at 193 (by decide +kernel) (by decide +kernel)⟩
theorem fd_RX7_259 : fdOK RX7 259 2 2 := ⟨RX2, TX2, rfl, iAX2, by decide, tyX2_ok, nmX2, wsA_at 194 (by decide +kernel) (by decide +kernel)⟩
theorem fd_RX3_7 : fdOK RX3 7 3 0 := ⟨RX3, TX3, rfl, iAX3, by decide, tyX3_ok, nmX3, wsA_at 215 (by decide +kernel) (by decide +kernel)⟩
theorem fd_RX3_13 : fdOK RX3 13 3 1 := ⟨RX3, TX3, rfl, iAX3, by decide, tyX3_ok, nmX3, wsA_at 216 (by decide +kernel) (by decide +kernel)⟩
theorem fd_RX3_17 : fdOK RX3 17 3 2 := ⟨RX3, TX3, rfl, iAX3, by decide, tyX3_ok, nmX3, wsA_at 217 (by decide +kernel) (by decide +kernel)⟩
theorem fd_RX4_9 : fdOK RX4 9 4 0 := ⟨RX4, TX4, rfl, iAX4, by decide, tyX4_ok, nmX4, wsA_at 226 (by decide +kernel) (by decide +kernel)⟩
theorem fd_RX4_15 : fdOK RX4 15 4 1 := ⟨RX4, TX4, rfl, iAX4, by decide, tyX4_ok, nmX4, wsA_at 227 (by decide +kernel) (by decide +kernel)⟩
theorem fd_RX7_262 : fdOK RX7 262 4 1 := ⟨RX4, TX4, rfl, iAX4, by decide, tyX4_ok, nmX4, wsA_at 228 (by decide +kernel) (by decide +kernel)⟩
theorem fd_RX4_21 : fdOK RX4 21 4 2 := ⟨RX4, TX4, rfl, iAX4, by decide, tyX4_ok, nmX4, wsA_at 229 (by decide +kernel) (by decide +kernel)⟩
theorem fd_RX4_25 : fdOK RX4 25 4 3 := ⟨RX4, TX4, rfl, iAX4, by decide, tyX4_ok, nmX4, wsA_at 230 (by decide +kernel) (by decide +kernel)⟩
theorem fd_RX4_28 : fdOK RX4 28 4 4 := ⟨RX4, TX4, rfl, iAX4, by decide, tyX4_ok, nmX4, wsA_at 231 (by decide +kernel) (by decide +kernel)⟩
theorem fd_RX7_10 : fdOK RX7 10 7 0 := ⟨RX7, TX7, rfl, iAX7, by decide, tyX7_ok, nmX7, wsA_at 243 (by decide +kernel) (by decide +kernel)⟩
theorem fd_RX7_16 : fdOK RX7 16 7 1 := ⟨RX7, TX7, rfl, iAX7, by decide, tyX7_ok, nmX7, wsA_at 244 (by decide +kernel) (by decide +kernel)⟩
theorem fd_RX7_19 : fdOK RX7 19 7 2 := ⟨RX7, TX7, rfl, iAX7, by decide, tyX7_ok, nmX7, wsA_at 245 (by decide +kernel) (by decide +kernel)⟩
theorem fd_RX7_22 : fdOK RX7 22 7 3 := ⟨RX7, TX7, rfl, iAX7, by decide, tyX7_ok, nmX7, wsA_at 246 (by decide +kernel) (by decide +kernel)⟩
theorem fd_RX7_29 : fdOK RX7 29 7 4 := ⟨RX7, TX7, rfl, iAX7, by decide, tyX7_ok, nmX7, wsA_at 247 (by decide +kernel) (by decide +kernel)⟩
theorem fd_RX7_36 : fdOK RX7 36 7 5 := ⟨RX7, TX7, rfl, iAX7, by decide, tyX7_ok, nmX7, wsA_at 248 (by decide +kernel) (by decide +kernel)⟩
theorem ii_RL : Cond.initialized RL ∈ wsA := wsA_at 9 (by decide +kernel) (by decide +kernel)
theorem ii_RX7 : Cond.initialized RX7 ∈ wsA := wsA_at 10 (by decide +kernel) (by decide +kernel)
theorem ii_RX5 : Cond.initialized RX5 ∈ wsA := wsA_at 11 (by decide +kernel) (by decide +kernel)
theorem ii_RX0 : Cond.initialized RX0 ∈ wsA := wsA_at 12 (by decide +kernel) (by decide +kernel)
theorem ii_RX1 : Cond.initialized RX1 ∈ wsA := wsA_at 13 (by decide +kernel) (by decide +kernel)
theorem ii_RX6 : Cond.initialized RX6 ∈ wsA := wsA_at 14 (by decide +kernel) (by decide +kernel)
theorem ii_RX2 : Cond.initialized RX2 ∈ wsA := wsA_at 15 (by decide +kernel) (by decide +kernel)
theorem ii_RX4 : Cond.initialized RX4 ∈ wsA := wsA_at 16 (by decide +kernel) (by decide +kernel)
theorem ii_RX3 : Cond.initialized RX3 ∈ wsA := wsA_at 17 (by decide +kernel) (by decide +kernel)
theorem ii_RJ6 : Cond.initialized RJ6 ∈ wsA := wsA_at 18 (by decide +kernel) (by decide +kernel)
theorem cl_RL_14 : Cond.classLink RL 14 RX7 ∈ wsA := wsA_at 19 (by decide +kernel) (by decide +kernel)
theorem in_RX7 : Cond.instantiable RX7 6 ∈ wsA := wsA_at 20 (by decide +kernel) (by decide +kernel)
theorem cl_RX7_7 : Cond.classLink RX7 7 RX5 ∈ wsA := wsA_at 27 (by decide +kernel) (by decide +kernel)
theorem in_RX5 : Cond.instantiable RX5 8 ∈ wsA := wsA_at 28 (by decide +kernel) (by decide +kernel)
theorem cl_RX5_9 : Cond.classLink RX5 9 RX0 ∈ wsA := wsA_at 33 (by decide +kernel) (by decide +kernel)
theorem cl_RX5_17 : Cond.classLink RX5 17 RX1 ∈ wsA := wsA_at 35 (by decide +kernel) (by decide +kernel)
theorem cl_RX5_23 : Cond.classLink RX5 23 RX6 ∈ wsA := wsA_at 37 (by decide +kernel) (by decide +kernel)
theorem in_RX0 : Cond.instantiable RX0 6 ∈ wsA := wsA_at 39 (by decide +kernel) (by decide +kernel)
theorem ac_int : Cond.arrayClass .int ∈ wsA := wsA_at 70 (by decide +kernel) (by decide +kernel)
theorem in_RX1 : Cond.instantiable RX1 2 ∈ wsA := wsA_at 71 (by decide +kernel) (by decide +kernel)
theorem in_RX6 : Cond.instantiable RX6 12 ∈ wsA := wsA_at 86 (by decide +kernel) (by decide +kernel)
theorem cl_RX7_26 : Cond.classLink RX7 26 RX2 ∈ wsA := wsA_at 182 (by decide +kernel) (by decide +kernel)
theorem in_RX2 : Cond.instantiable RX2 3 ∈ wsA := wsA_at 183 (by decide +kernel) (by decide +kernel)
theorem cl_RX2_9 : Cond.classLink RX2 9 RX5 ∈ wsA := wsA_at 188 (by decide +kernel) (by decide +kernel)
theorem cl_RX7_33 : Cond.classLink RX7 33 RX4 ∈ wsA := wsA_at 202 (by decide +kernel) (by decide +kernel)
theorem in_RX4 : Cond.instantiable RX4 5 ∈ wsA := wsA_at 203 (by decide +kernel) (by decide +kernel)
theorem cl_RX4_19 : Cond.classLink RX4 19 RX3 ∈ wsA := wsA_at 208 (by decide +kernel) (by decide +kernel)
theorem in_RX3 : Cond.instantiable RX3 3 ∈ wsA := wsA_at 210 (by decide +kernel) (by decide +kernel)
theorem ac_char : Cond.arrayClass .char ∈ wsA := wsA_at 225 (by decide +kernel) (by decide +kernel)
theorem kc_RX0_32 : Cond.constantFloat RX0 32 (1148846080) ∈ wsA := wsA_at 293 (by decide +kernel) (by decide +kernel)
theorem kc_RL_7 : Cond.constant RL 7 (763049417) ∈ wsA := wsA_at 348 (by decide +kernel) (by decide +kernel)
theorem kc_RL_9 : Cond.constantLong RL 9 (7) ∈ wsA := wsA_at 352 (by decide +kernel) (by decide +kernel)
theorem kc_RL_11 : Cond.constantLong RL 11 (31) ∈ wsA := wsA_at 353 (by decide +kernel) (by decide +kernel)
theorem kc_RX7_167 : Cond.constantFloat RX7 167 (1148846080) ∈ wsA := wsA_at 376 (by decide +kernel) (by decide +kernel)
theorem kc_RX7_146 : Cond.constantFloat RX7 146 (1120403456) ∈ wsA := wsA_at 385 (by decide +kernel) (by decide +kernel)
theorem kc_RX0_38 : Cond.constantFloat RX0 38 (1008981770) ∈ wsA := wsA_at 394 (by decide +kernel) (by decide +kernel)
theorem kc_RL_8 : Cond.constant RL 8 (2147483647) ∈ wsA := wsA_at 451 (by decide +kernel) (by decide +kernel)
theorem kc_RJ6_265 : Cond.constant RJ6 265 (1431655765) ∈ wsA := wsA_at 467 (by decide +kernel) (by decide +kernel)
theorem kc_RJ6_266 : Cond.constant RJ6 266 (858993459) ∈ wsA := wsA_at 468 (by decide +kernel) (by decide +kernel)
theorem kc_RJ6_267 : Cond.constant RJ6 267 (252645135) ∈ wsA := wsA_at 469 (by decide +kernel) (by decide +kernel)
theorem kc_RX0_37 : Cond.constantFloat RX0 37 (1061158912) ∈ wsA := wsA_at 591 (by decide +kernel) (by decide +kernel)
theorem kc_RX7_121 : Cond.constantFloat RX7 121 (2143289344) ∈ wsA := wsA_at 616 (by decide +kernel) (by decide +kernel)
theorem kc_RL_92 : Cond.constantFloat RL 92 (1008981770) ∈ wsA := wsA_at 617 (by decide +kernel) (by decide +kernel)
end
section
/-! a method without making: its answer and the world behind it, told outright -/
def PE (y : MethodName) (cc : ByteArray) (Y : mB) (as : List Value) (σ : pT) (I : pI) (F : pF) (v : Option Value) (I' : pI) (F' : pF) : Prop := PM y cc Y (0, 0) as σ I F (fun v' σ' I2 F2 => v' = v ∧ σ' = σ ∧ I2 = I' ∧ F2 = F')
/-- where the world behind it is told by a relation -/
def PR (y : MethodName) (cc : ByteArray) (Y : mB) (as : List Value) (σ : pT) (I : pI) (F : pF) (Q : Option Value → pI → pF → Prop) : Prop := PM y cc Y (0, 0) as σ I F (fun v' σ' I2 F2 => σ' = σ ∧ Q v' I2 F2)
abbrev qE (v : Option Value) (σ : pT) (I' : pI) (F' : pF) : pQ := fun v' σ' I2 F2 => v' = v ∧ σ' = σ ∧ I2 = I' ∧ F2 = F'
abbrev qR (σ : pT) (Q : Option Value → pI → pF → Prop) : pQ := fun v' σ' I2 F2 => σ' = σ ∧ Q v' I2 F2
def bI (b : Bool) : Int32 := if b then 1 else 0
theorem bI_t : bI true = 1 := rfl
theorem bI_f : bI false = 0 := rfl
theorem bI_0 {b : Bool} (h : bI b = 0) : b = false := by cases b <;> first | rfl | exact absurd h (by decide)
theorem bI_n0 {b : Bool} (h : ¬ bI b = 0) : b = true := by cases b <;> first | rfl | exact absurd rfl h
theorem nI_inc (k : Nat) : nI k + Int32.ofInt 1 = nI (k + 1) := nI_1 k
theorem dn (G : Nat → Prop) (N : Nat) (h0 : G N) (hs : ∀ k, k < N → G (k + 1) → G k) : ∀ k, k ≤ N → G k := by
  intro k hk
  obtain ⟨d, hd⟩ : ∃ d, k + d = N := ⟨N - k, by omega⟩
  induction d generalizing k with
  | zero => rw [show k = N by omega]; exact h0
  | succ d ih => exact hs k (by omega) (ih (k + 1) (by omega) (by omega))
section PB
variable {cc : ByteArray} {Y : mB} {Z : pZ} {pc : Nat} {ls st : List Value} {σ : pT} {I : pI} {F : pF} {β : Nat × Nat}
theorem PE.of {y : MethodName} {as : List Value} {v : Option Value} {I' : pI} {F' : pF} (hy : plainName y.cls = true ∧ y.cls = Y.1 ∧ (Y.2.2.2.2.2 = true → y.name = "<init>")) (hcat : ∀ v ∈ as, v.category = 1) (hn : as.length ≤ Y.2.1) (k : PW cc Y (fM (qE v σ I' F')) 0 (as ++ List.replicate (Y.2.1 - as.length) pJ) [] σ I F (0, 0)) : PE y cc Y as σ I F v I' F' := PM.of hy hcat hn k
theorem PR.of {y : MethodName} {as : List Value} {Q : Option Value → pI → pF → Prop} (hy : plainName y.cls = true ∧ y.cls = Y.1 ∧ (Y.2.2.2.2.2 = true → y.name = "<init>")) (hcat : ∀ v ∈ as, v.category = 1) (hn : as.length ≤ Y.2.1) (k : PW cc Y (fM (qR σ Q)) 0 (as ++ List.replicate (Y.2.1 - as.length) pJ) [] σ I F (0, 0)) : PR y cc Y as σ I F Q := PM.of hy hcat hn k
theorem pw_getI {idx ci k q : Nat} (hdg : decode cc pc = .ok (.getfield idx, 3)) (hf : fdOK Y.1 idx ci k) (hci : ci < 8) (hq : (σ.2.1 q).1 = ci + 1) (ht : isIt (fty ci k) = true) (kk : PW cc Y Z (pc + 3) ls (.int (I q k) :: st) σ I F β) : PW cc Y Z pc ls (.ref q :: st) σ I F β := pw_get hdg hf hci hq (fv_I ht) kk
theorem pw_getF {idx ci k q : Nat} (hdg : decode cc pc = .ok (.getfield idx, 3)) (hf : fdOK Y.1 idx ci k) (hci : ci < 8) (hq : (σ.2.1 q).1 = ci + 1) (ht : fty ci k = .float) (kk : PW cc Y Z (pc + 3) ls (.float (F q k) :: st) σ I F β) : PW cc Y Z pc ls (.ref q :: st) σ I F β := pw_get hdg hf hci hq (fv_F ht) kk
theorem pw_getR {idx ci k q x : Nat} (hdg : decode cc pc = .ok (.getfield idx, 3)) (hf : fdOK Y.1 idx ci k) (hci : ci < 8) (hq : (σ.2.1 q).1 = ci + 1) (ht : isRt (fty ci k) = true) (hx : σ.2.2 q k = some x) (kk : PW cc Y Z (pc + 3) ls (.ref x :: st) σ I F β) : PW cc Y Z pc ls (.ref q :: st) σ I F β := pw_get hdg hf hci hq ((fv_R ht).trans (by rw [hx]; rfl)) kk
theorem pw_aaldN {q n j ci x : Nat} (hdg : decode cc pc = .ok (.aaload, 1)) (hq : σ.2.1 q = (ci + 30, n)) (hj : j < n) (hn : n < 2 ^ 31) (hci : ci < 8) (hx : σ.2.2 q j = some x) (kk : PW cc Y Z (pc + 1) ls (.ref x :: st) σ I F β) : PW cc Y Z pc ls (.int (nI j) :: .ref q :: st) σ I F β := pw_aald hdg hq (vp_in_nI hj hn) hci (by rw [nI_clamp (by omega)]; exact hx) kk
theorem pw_ialdN {q n j : Nat} (hdg : decode cc pc = .ok (.iaload, 1)) (hq : σ.2.1 q = (20, n)) (hj : j < n) (hn : n < 2 ^ 31) (kk : PW cc Y Z (pc + 1) ls (.int (I q j) :: st) σ I F β) : PW cc Y Z pc ls (.int (nI j) :: .ref q :: st) σ I F β := pw_iald hdg hq (vp_in_nI hj hn) (by rw [nI_clamp (by omega)]; exact kk)
theorem pw_caldN {q n j : Nat} (hdg : decode cc pc = .ok (.caload, 1)) (hq : σ.2.1 q = (21, n)) (hj : j < n) (hn : n < 2 ^ 31) (kk : PW cc Y Z (pc + 1) ls (.int (I q j) :: st) σ I F β) : PW cc Y Z pc ls (.int (nI j) :: .ref q :: st) σ I F β := pw_cald hdg hq (vp_in_nI hj hn) (by rw [nI_clamp (by omega)]; exact kk)
theorem pw_faldN {q n j : Nat} (hdg : decode cc pc = .ok (.faload, 1)) (hq : σ.2.1 q = (22, n)) (hj : j < n) (hn : n < 2 ^ 31) (kk : PW cc Y Z (pc + 1) ls (.float (F q j) :: st) σ I F β) : PW cc Y Z pc ls (.int (nI j) :: .ref q :: st) σ I F β := pw_fald hdg hq (vp_in_nI hj hn) (by rw [nI_clamp (by omega)]; exact kk)
theorem pw_iastN {q n j : Nat} {x : Int32} (hdg : decode cc pc = .ok (.iastore, 1)) (hq : σ.2.1 q = (20, n)) (hj : j < n) (hn : n < 2 ^ 31) (kk : PW cc Y Z (pc + 1) ls st σ (up2 I q j x) F β) : PW cc Y Z pc ls (.int x :: .int (nI j) :: .ref q :: st) σ I F β := pw_iast hdg hq (vp_in_nI hj hn) (by rw [nI_clamp (by omega)]; exact kk)
theorem pw_castN {q n j : Nat} {x : Int32} (hdg : decode cc pc = .ok (.castore, 1)) (hq : σ.2.1 q = (21, n)) (hj : j < n) (hn : n < 2 ^ 31) (kk : PW cc Y Z (pc + 1) ls st σ (up2 I q j (vp_nar .char x)) F β) : PW cc Y Z pc ls (.int x :: .int (nI j) :: .ref q :: st) σ I F β := pw_cast hdg hq (vp_in_nI hj hn) (by rw [nI_clamp (by omega)]; exact kk)
theorem pw_fastN {q n j : Nat} {x : UInt32} (hdg : decode cc pc = .ok (.fastore, 1)) (hq : σ.2.1 q = (22, n)) (hj : j < n) (hn : n < 2 ^ 31) (kk : PW cc Y Z (pc + 1) ls st σ I (up2 F q j x) β) : PW cc Y Z pc ls (.float x :: .int (nI j) :: .ref q :: st) σ I F β := pw_fast hdg hq (vp_in_nI hj hn) (by rw [nI_clamp (by omega)]; exact kk)
theorem pw_aastN {q n j ci x : Nat} (hdg : decode cc pc = .ok (.aastore, 1)) (hq : σ.2.1 q = (ci + 30, n)) (hj : j < n) (hn : n < 2 ^ 31) (hci : ci < 8) (hxk : (σ.2.1 x).1 = ci + 1) (kk : PW cc Y Z (pc + 1) ls st (σ.1, σ.2.1, up2 σ.2.2 q j (some x)) I F β) : PW cc Y Z pc ls (.ref x :: .int (nI j) :: .ref q :: st) σ I F β := pw_aast hdg hq (vp_in_nI hj hn) hci hxk (by rw [nI_clamp (by omega)]; exact kk)
theorem pw_saldN {n j : Nat} (hdg : decode cc pc = .ok (.iaload, 1)) (hq : (σ.2.1 0).2 = n) (hj : j < n) (hn : n < 2 ^ 31) (kk : PW cc Y Z (pc + 1) ls (.int (I 0 j) :: st) σ I F β) : PW cc Y Z pc ls (.int (nI j) :: .ref 0 :: st) σ I F β := pw_sald hdg hq (vp_in_nI hj hn) (by rw [nI_clamp (by omega)]; exact kk)
theorem pw_ifB_eq {b : Bool} {off : Int} {tgt : Nat} (hdg : decode cc pc = .ok (.ifCond .eq off, 3)) (ht : (pc : Int) + off = (tgt : Int)) (kt : b = false → PW cc Y Z tgt ls st σ I F β) (kf : b = true → PW cc Y Z (pc + 3) ls st σ I F β) : PW cc Y Z pc ls (.int (bI b) :: st) σ I F β := pw_if_eq hdg ht (fun h => kt (bI_0 h)) (fun h => kf (bI_n0 h))
theorem pw_ifB_ne {b : Bool} {off : Int} {tgt : Nat} (hdg : decode cc pc = .ok (.ifCond .ne off, 3)) (ht : (pc : Int) + off = (tgt : Int)) (kt : b = true → PW cc Y Z tgt ls st σ I F β) (kf : b = false → PW cc Y Z (pc + 3) ls st σ I F β) : PW cc Y Z pc ls (.int (bI b) :: st) σ I F β := pw_if_ne hdg ht (fun h => kt (bI_n0 h)) (fun h => kf (bI_0 h))
theorem pw_bret {Post : pQ} {b : Bool} (hdg : decode cc pc = .ok (.ireturn, 1)) (hr : Y.2.2.1 = some .boolean) (h : Post (some (.int (bI b))) σ I F) : PW cc Y (fM Post) pc ls [.int (bI b)] σ I F β := pw_zret hdg hr (by cases b <;> rfl) h
theorem pw_retE {v : Option Value} {σ' : pT} {I' : pI} {F' : pF} {x : Int32} (hdg : decode cc pc = .ok (.ireturn, 1)) (hr : Y.2.2.1 = some .int) (h : some (.int x) = v ∧ σ = σ' ∧ I = I' ∧ F = F') : PW cc Y (fM (qE v σ' I' F')) pc ls [.int x] σ I F β := pw_iret hdg hr h

theorem pe_callVi {y : MethodName} {cy : ByteArray} {Yy : mB} {n ci idx q : Nat} {as : List Value} {r : Int32} {I' : pI} {F' : pF} {stk : List Value} (hdg : decode cc pc = .ok (.invokevirtual idx, 3)) (hy : mOKV y cy Yy n ci) (hl : Cond.methodLink Y.1 idx y ∈ wsA) (hM : PE y cy Yy (.ref q :: as) σ I F (some (.int r)) I' F') (hq : (σ.2.1 q).1 = ci + 1) (hn : as.length = n) (hst : stk = as.reverse ++ .ref q :: st) (hcat : (st.map fun v => v.category).sum ≤ 8) (hR : Yy.2.2.2.1 + 1 ≤ Y.2.2.2.1 ∧ 8 + (Yy.2.1 + 11) + Yy.2.2.2.2.1 ≤ Y.2.2.2.2.1) (k : PW cc Y Z (pc + 3) ls (.int r :: st) σ I' F' β) : PW cc Y Z pc ls stk σ I F β :=
  pw_callV hdg hy hl hM hq hn hst hcat hR ⟨Nat.zero_le _, Nat.zero_le _⟩ (by rintro _ _ _ _ ⟨rfl, rfl, rfl, rfl⟩; exact k)
theorem pe_callVf {y : MethodName} {cy : ByteArray} {Yy : mB} {n ci idx q : Nat} {as : List Value} {r : UInt32} {I' : pI} {F' : pF} {stk : List Value} (hdg : decode cc pc = .ok (.invokevirtual idx, 3)) (hy : mOKV y cy Yy n ci) (hl : Cond.methodLink Y.1 idx y ∈ wsA) (hM : PE y cy Yy (.ref q :: as) σ I F (some (.float r)) I' F') (hq : (σ.2.1 q).1 = ci + 1) (hn : as.length = n) (hst : stk = as.reverse ++ .ref q :: st) (hcat : (st.map fun v => v.category).sum ≤ 8) (hR : Yy.2.2.2.1 + 1 ≤ Y.2.2.2.1 ∧ 8 + (Yy.2.1 + 11) + Yy.2.2.2.2.1 ≤ Y.2.2.2.2.1) (k : PW cc Y Z (pc + 3) ls (.float r :: st) σ I' F' β) : PW cc Y Z pc ls stk σ I F β :=
  pw_callV hdg hy hl hM hq hn hst hcat hR ⟨Nat.zero_le _, Nat.zero_le _⟩ (by rintro _ _ _ _ ⟨rfl, rfl, rfl, rfl⟩; exact k)
theorem pe_callVv {y : MethodName} {cy : ByteArray} {Yy : mB} {n ci idx q : Nat} {as : List Value} {I' : pI} {F' : pF} {stk : List Value} (hdg : decode cc pc = .ok (.invokevirtual idx, 3)) (hy : mOKV y cy Yy n ci) (hl : Cond.methodLink Y.1 idx y ∈ wsA) (hM : PE y cy Yy (.ref q :: as) σ I F none I' F') (hq : (σ.2.1 q).1 = ci + 1) (hn : as.length = n) (hst : stk = as.reverse ++ .ref q :: st) (hcat : (st.map fun v => v.category).sum ≤ 8) (hR : Yy.2.2.2.1 + 1 ≤ Y.2.2.2.1 ∧ 8 + (Yy.2.1 + 11) + Yy.2.2.2.2.1 ≤ Y.2.2.2.2.1) (k : PW cc Y Z (pc + 3) ls st σ I' F' β) : PW cc Y Z pc ls stk σ I F β :=
  pw_callV hdg hy hl hM hq hn hst hcat hR ⟨Nat.zero_le _, Nat.zero_le _⟩ (by rintro _ _ _ _ ⟨rfl, rfl, rfl, rfl⟩; exact k)
theorem pr_callV {y : MethodName} {cy : ByteArray} {Yy : mB} {n ci idx q : Nat} {as : List Value} {Q : Option Value → pI → pF → Prop} {stk : List Value} (hdg : decode cc pc = .ok (.invokevirtual idx, 3)) (hy : mOKV y cy Yy n ci) (hl : Cond.methodLink Y.1 idx y ∈ wsA) (hM : PR y cy Yy (.ref q :: as) σ I F Q) (hq : (σ.2.1 q).1 = ci + 1) (hn : as.length = n) (hst : stk = as.reverse ++ .ref q :: st) (hcat : (st.map fun v => v.category).sum ≤ 8) (hR : Yy.2.2.2.1 + 1 ≤ Y.2.2.2.1 ∧ 8 + (Yy.2.1 + 11) + Yy.2.2.2.2.1 ≤ Y.2.2.2.2.1) (k : ∀ v I' F', Q v I' F' → PW cc Y Z (pc + 3) ls (v.toList ++ st) σ I' F' β) : PW cc Y Z pc ls stk σ I F β :=
  pw_callV hdg hy hl hM hq hn hst hcat hR ⟨Nat.zero_le _, Nat.zero_le _⟩ (by rintro v _ I' F' ⟨rfl, h⟩; exact k v I' F' h)
theorem pe_callSi {y : MethodName} {cy : ByteArray} {Yy : mB} {n idx : Nat} {as : List Value} {r : Int32} {I' : pI} {F' : pF} {stk : List Value} (hdg : decode cc pc = .ok (.invokestatic idx, 3)) (hy : mOKS y cy Yy n) (hl : Cond.methodLink Y.1 idx y ∈ wsA) (hM : PE y cy Yy as σ I F (some (.int r)) I' F') (hn : as.length = n) (hst : stk = as.reverse ++ st) (hcat : (st.map fun v => v.category).sum ≤ 8) (hR : Yy.2.2.2.1 + 1 ≤ Y.2.2.2.1 ∧ 8 + (Yy.2.1 + 11) + Yy.2.2.2.2.1 ≤ Y.2.2.2.2.1) (k : PW cc Y Z (pc + 3) ls (.int r :: st) σ I' F' β) : PW cc Y Z pc ls stk σ I F β :=
  pw_callS hdg hy hl hM hn hst hcat hR ⟨Nat.zero_le _, Nat.zero_le _⟩ (by rintro _ _ _ _ ⟨rfl, rfl, rfl, rfl⟩; exact k)
theorem pe_callSNi {y : MethodName} {cy : ByteArray} {Yy : mB} {n idx : Nat} {as : List Value} {r : Int32} {I' : pI} {F' : pF} {stk : List Value} (hdg : decode cc pc = .ok (.invokestatic idx, 3)) (hy : mOKS y cy Yy n) {host : String} (hl : (Y.1, idx, y, host) ∈ spN) (hM : PE y cy Yy as σ I F (some (.int r)) I' F') (hn : as.length = n) (hst : stk = as.reverse ++ st) (hcat : (st.map fun v => v.category).sum ≤ 8) (hR : Yy.2.2.2.1 + 1 ≤ Y.2.2.2.1 ∧ 8 + (Yy.2.1 + 11) + Yy.2.2.2.2.1 ≤ Y.2.2.2.2.1) (k : PW cc Y Z (pc + 3) ls (.int r :: st) σ I' F' β) : PW cc Y Z pc ls stk σ I F β :=
  pw_callSN hdg hy hl hM hn hst hcat hR ⟨Nat.zero_le _, Nat.zero_le _⟩ (by rintro _ _ _ _ ⟨rfl, rfl, rfl, rfl⟩; exact k)
theorem pe_callSf {y : MethodName} {cy : ByteArray} {Yy : mB} {n idx : Nat} {as : List Value} {r : UInt32} {I' : pI} {F' : pF} {stk : List Value} (hdg : decode cc pc = .ok (.invokestatic idx, 3)) (hy : mOKS y cy Yy n) (hl : Cond.methodLink Y.1 idx y ∈ wsA) (hM : PE y cy Yy as σ I F (some (.float r)) I' F') (hn : as.length = n) (hst : stk = as.reverse ++ st) (hcat : (st.map fun v => v.category).sum ≤ 8) (hR : Yy.2.2.2.1 + 1 ≤ Y.2.2.2.1 ∧ 8 + (Yy.2.1 + 11) + Yy.2.2.2.2.1 ≤ Y.2.2.2.2.1) (k : PW cc Y Z (pc + 3) ls (.float r :: st) σ I' F' β) : PW cc Y Z pc ls stk σ I F β :=
  pw_callS hdg hy hl hM hn hst hcat hR ⟨Nat.zero_le _, Nat.zero_le _⟩ (by rintro _ _ _ _ ⟨rfl, rfl, rfl, rfl⟩; exact k)
theorem pe_callSNf {y : MethodName} {cy : ByteArray} {Yy : mB} {n idx : Nat} {as : List Value} {r : UInt32} {I' : pI} {F' : pF} {stk : List Value} (hdg : decode cc pc = .ok (.invokestatic idx, 3)) (hy : mOKS y cy Yy n) {host : String} (hl : (Y.1, idx, y, host) ∈ spN) (hM : PE y cy Yy as σ I F (some (.float r)) I' F') (hn : as.length = n) (hst : stk = as.reverse ++ st) (hcat : (st.map fun v => v.category).sum ≤ 8) (hR : Yy.2.2.2.1 + 1 ≤ Y.2.2.2.1 ∧ 8 + (Yy.2.1 + 11) + Yy.2.2.2.2.1 ≤ Y.2.2.2.2.1) (k : PW cc Y Z (pc + 3) ls (.float r :: st) σ I' F' β) : PW cc Y Z pc ls stk σ I F β :=
  pw_callSN hdg hy hl hM hn hst hcat hR ⟨Nat.zero_le _, Nat.zero_le _⟩ (by rintro _ _ _ _ ⟨rfl, rfl, rfl, rfl⟩; exact k)
theorem pe_callSv {y : MethodName} {cy : ByteArray} {Yy : mB} {n idx : Nat} {as : List Value} {I' : pI} {F' : pF} {stk : List Value} (hdg : decode cc pc = .ok (.invokestatic idx, 3)) (hy : mOKS y cy Yy n) (hl : Cond.methodLink Y.1 idx y ∈ wsA) (hM : PE y cy Yy as σ I F none I' F') (hn : as.length = n) (hst : stk = as.reverse ++ st) (hcat : (st.map fun v => v.category).sum ≤ 8) (hR : Yy.2.2.2.1 + 1 ≤ Y.2.2.2.1 ∧ 8 + (Yy.2.1 + 11) + Yy.2.2.2.2.1 ≤ Y.2.2.2.2.1) (k : PW cc Y Z (pc + 3) ls st σ I' F' β) : PW cc Y Z pc ls stk σ I F β :=
  pw_callS hdg hy hl hM hn hst hcat hR ⟨Nat.zero_le _, Nat.zero_le _⟩ (by rintro _ _ _ _ ⟨rfl, rfl, rfl, rfl⟩; exact k)
theorem pe_callSNv {y : MethodName} {cy : ByteArray} {Yy : mB} {n idx : Nat} {as : List Value} {I' : pI} {F' : pF} {stk : List Value} (hdg : decode cc pc = .ok (.invokestatic idx, 3)) (hy : mOKS y cy Yy n) {host : String} (hl : (Y.1, idx, y, host) ∈ spN) (hM : PE y cy Yy as σ I F none I' F') (hn : as.length = n) (hst : stk = as.reverse ++ st) (hcat : (st.map fun v => v.category).sum ≤ 8) (hR : Yy.2.2.2.1 + 1 ≤ Y.2.2.2.1 ∧ 8 + (Yy.2.1 + 11) + Yy.2.2.2.2.1 ≤ Y.2.2.2.2.1) (k : PW cc Y Z (pc + 3) ls st σ I' F' β) : PW cc Y Z pc ls stk σ I F β :=
  pw_callSN hdg hy hl hM hn hst hcat hR ⟨Nat.zero_le _, Nat.zero_le _⟩ (by rintro _ _ _ _ ⟨rfl, rfl, rfl, rfl⟩; exact k)
theorem pr_callS {y : MethodName} {cy : ByteArray} {Yy : mB} {n idx : Nat} {as : List Value} {Q : Option Value → pI → pF → Prop} {stk : List Value} (hdg : decode cc pc = .ok (.invokestatic idx, 3)) (hy : mOKS y cy Yy n) (hl : Cond.methodLink Y.1 idx y ∈ wsA) (hM : PR y cy Yy as σ I F Q) (hn : as.length = n) (hst : stk = as.reverse ++ st) (hcat : (st.map fun v => v.category).sum ≤ 8) (hR : Yy.2.2.2.1 + 1 ≤ Y.2.2.2.1 ∧ 8 + (Yy.2.1 + 11) + Yy.2.2.2.2.1 ≤ Y.2.2.2.2.1) (k : ∀ v I' F', Q v I' F' → PW cc Y Z (pc + 3) ls (v.toList ++ st) σ I' F' β) : PW cc Y Z pc ls stk σ I F β :=
  pw_callS hdg hy hl hM hn hst hcat hR ⟨Nat.zero_le _, Nat.zero_le _⟩ (by rintro v _ I' F' ⟨rfl, h⟩; exact k v I' F' h)
end PB
end
section
/-! names as the contracts ask for them -/
theorem catOK {as : List Value} (h : (as.all fun v => v.category == 1) = true) : ∀ v ∈ as, v.category = 1 := fun v hv => by simpa using List.all_eq_true.mp h v hv
theorem pn_RX0 : plainName RX0 = true := by decide +kernel
theorem pn_RX1 : plainName RX1 = true := by decide +kernel
theorem pn_RX2 : plainName RX2 = true := by decide +kernel
theorem pn_RX3 : plainName RX3 = true := by decide +kernel
theorem pn_RX4 : plainName RX4 = true := by decide +kernel
theorem pn_RX5 : plainName RX5 = true := by decide +kernel
theorem pn_RX6 : plainName RX6 = true := by decide +kernel
theorem pn_RX7 : plainName RX7 = true := by decide +kernel
theorem pn_RX8 : plainName RX8 = true := by decide +kernel
theorem pn_RJ6 : plainName RJ6 = true := by decide +kernel
theorem oP_X0_init : plainName yX0_init.cls = true ∧ yX0_init.cls = mX0_init.1 ∧ (mX0_init.2.2.2.2.2 = true → yX0_init.name = "<init>") := ⟨pn_RX0, rfl, fun _ => rfl⟩
theorem oP_X0_setUp : plainName yX0_setUp.cls = true ∧ yX0_setUp.cls = mX0_setUp.1 ∧ (mX0_setUp.2.2.2.2.2 = true → yX0_setUp.name = "<init>") := ⟨pn_RX0, rfl, (fun h => by cases h)⟩
theorem oP_X0_copyFrom : plainName yX0_copyFrom.cls = true ∧ yX0_copyFrom.cls = mX0_copyFrom.1 ∧ (mX0_copyFrom.2.2.2.2.2 = true → yX0_copyFrom.name = "<init>") := ⟨pn_RX0, rfl, (fun h => by cases h)⟩
theorem oP_X0_isLinkedTo : plainName yX0_isLinkedTo.cls = true ∧ yX0_isLinkedTo.cls = mX0_isLinkedTo.1 ∧ (mX0_isLinkedTo.2.2.2.2.2 = true → yX0_isLinkedTo.name = "<init>") := ⟨pn_RX0, rfl, (fun h => by cases h)⟩
theorem oP_X0_runForAnHour : plainName yX0_runForAnHour.cls = true ∧ yX0_runForAnHour.cls = mX0_runForAnHour.1 ∧ (mX0_runForAnHour.2.2.2.2.2 = true → yX0_runForAnHour.name = "<init>") := ⟨pn_RX0, rfl, (fun h => by cases h)⟩
theorem oP_X0_mend : plainName yX0_mend.cls = true ∧ yX0_mend.cls = mX0_mend.1 ∧ (mX0_mend.2.2.2.2.2 = true → yX0_mend.name = "<init>") := ⟨pn_RX0, rfl, (fun h => by cases h)⟩
theorem oP_X0_afterAnHour : plainName yX0_afterAnHour.cls = true ∧ yX0_afterAnHour.cls = mX0_afterAnHour.1 ∧ (mX0_afterAnHour.2.2.2.2.2 = true → yX0_afterAnHour.name = "<init>") := ⟨pn_RX0, rfl, (fun h => by cases h)⟩
theorem oP_X0_hoursUntilBelow : plainName yX0_hoursUntilBelow.cls = true ∧ yX0_hoursUntilBelow.cls = mX0_hoursUntilBelow.1 ∧ (mX0_hoursUntilBelow.2.2.2.2.2 = true → yX0_hoursUntilBelow.name = "<init>") := ⟨pn_RX0, rfl, (fun h => by cases h)⟩
theorem oP_X1_init : plainName yX1_init.cls = true ∧ yX1_init.cls = mX1_init.1 ∧ (mX1_init.2.2.2.2.2 = true → yX1_init.name = "<init>") := ⟨pn_RX1, rfl, fun _ => rfl⟩
theorem oP_X1_setUp : plainName yX1_setUp.cls = true ∧ yX1_setUp.cls = mX1_setUp.1 ∧ (mX1_setUp.2.2.2.2.2 = true → yX1_setUp.name = "<init>") := ⟨pn_RX1, rfl, (fun h => by cases h)⟩
theorem oP_X1_copyFrom : plainName yX1_copyFrom.cls = true ∧ yX1_copyFrom.cls = mX1_copyFrom.1 ∧ (mX1_copyFrom.2.2.2.2.2 = true → yX1_copyFrom.name = "<init>") := ⟨pn_RX1, rfl, (fun h => by cases h)⟩
theorem oP_X1_has : plainName yX1_has.cls = true ∧ yX1_has.cls = mX1_has.1 ∧ (mX1_has.2.2.2.2.2 = true → yX1_has.name = "<init>") := ⟨pn_RX1, rfl, (fun h => by cases h)⟩
theorem oP_X2_init : plainName yX2_init.cls = true ∧ yX2_init.cls = mX2_init.1 ∧ (mX2_init.2.2.2.2.2 = true → yX2_init.name = "<init>") := ⟨pn_RX2, rfl, fun _ => rfl⟩
theorem oP_X2_add : plainName yX2_add.cls = true ∧ yX2_add.cls = mX2_add.1 ∧ (mX2_add.2.2.2.2.2 = true → yX2_add.name = "<init>") := ⟨pn_RX2, rfl, (fun h => by cases h)⟩
theorem oP_X2_takeBack : plainName yX2_takeBack.cls = true ∧ yX2_takeBack.cls = mX2_takeBack.1 ∧ (mX2_takeBack.2.2.2.2.2 = true → yX2_takeBack.name = "<init>") := ⟨pn_RX2, rfl, (fun h => by cases h)⟩
theorem oP_X3_init : plainName yX3_init.cls = true ∧ yX3_init.cls = mX3_init.1 ∧ (mX3_init.2.2.2.2.2 = true → yX3_init.name = "<init>") := ⟨pn_RX3, rfl, fun _ => rfl⟩
theorem oP_X4_init : plainName yX4_init.cls = true ∧ yX4_init.cls = mX4_init.1 ∧ (mX4_init.2.2.2.2.2 = true → yX4_init.name = "<init>") := ⟨pn_RX4, rfl, fun _ => rfl⟩
theorem oP_X5_init : plainName yX5_init.cls = true ∧ yX5_init.cls = mX5_init.1 ∧ (mX5_init.2.2.2.2.2 = true → yX5_init.name = "<init>") := ⟨pn_RX5, rfl, fun _ => rfl⟩
theorem oP_X5_copyFrom : plainName yX5_copyFrom.cls = true ∧ yX5_copyFrom.cls = mX5_copyFrom.1 ∧ (mX5_copyFrom.2.2.2.2.2 = true → yX5_copyFrom.name = "<init>") := ⟨pn_RX5, rfl, (fun h => by cases h)⟩
theorem oP_X5_hasAsset : plainName yX5_hasAsset.cls = true ∧ yX5_hasAsset.cls = mX5_hasAsset.1 ∧ (mX5_hasAsset.2.2.2.2.2 = true → yX5_hasAsset.name = "<init>") := ⟨pn_RX5, rfl, (fun h => by cases h)⟩
theorem oP_X5_hasCrew : plainName yX5_hasCrew.cls = true ∧ yX5_hasCrew.cls = mX5_hasCrew.1 ∧ (mX5_hasCrew.2.2.2.2.2 = true → yX5_hasCrew.name = "<init>") := ⟨pn_RX5, rfl, (fun h => by cases h)⟩
theorem oP_X5_hasTask : plainName yX5_hasTask.cls = true ∧ yX5_hasTask.cls = mX5_hasTask.1 ∧ (mX5_hasTask.2.2.2.2.2 = true → yX5_hasTask.name = "<init>") := ⟨pn_RX5, rfl, (fun h => by cases h)⟩
theorem oP_X5_newAsset : plainName yX5_newAsset.cls = true ∧ yX5_newAsset.cls = mX5_newAsset.1 ∧ (mX5_newAsset.2.2.2.2.2 = true → yX5_newAsset.name = "<init>") := ⟨pn_RX5, rfl, (fun h => by cases h)⟩
theorem oP_X5_setLink : plainName yX5_setLink.cls = true ∧ yX5_setLink.cls = mX5_setLink.1 ∧ (mX5_setLink.2.2.2.2.2 = true → yX5_setLink.name = "<init>") := ⟨pn_RX5, rfl, (fun h => by cases h)⟩
theorem oP_X5_setBar : plainName yX5_setBar.cls = true ∧ yX5_setBar.cls = mX5_setBar.1 ∧ (mX5_setBar.2.2.2.2.2 = true → yX5_setBar.name = "<init>") := ⟨pn_RX5, rfl, (fun h => by cases h)⟩
theorem oP_X5_newCrew : plainName yX5_newCrew.cls = true ∧ yX5_newCrew.cls = mX5_newCrew.1 ∧ (mX5_newCrew.2.2.2.2.2 = true → yX5_newCrew.name = "<init>") := ⟨pn_RX5, rfl, (fun h => by cases h)⟩
theorem oP_X5_newTask : plainName yX5_newTask.cls = true ∧ yX5_newTask.cls = mX5_newTask.1 ∧ (mX5_newTask.2.2.2.2.2 = true → yX5_newTask.name = "<init>") := ⟨pn_RX5, rfl, (fun h => by cases h)⟩
theorem oP_X5_startAsset : plainName yX5_startAsset.cls = true ∧ yX5_startAsset.cls = mX5_startAsset.1 ∧ (mX5_startAsset.2.2.2.2.2 = true → yX5_startAsset.name = "<init>") := ⟨pn_RX5, rfl, (fun h => by cases h)⟩
theorem oP_X5_stopAsset : plainName yX5_stopAsset.cls = true ∧ yX5_stopAsset.cls = mX5_stopAsset.1 ∧ (mX5_stopAsset.2.2.2.2.2 = true → yX5_stopAsset.name = "<init>") := ⟨pn_RX5, rfl, (fun h => by cases h)⟩
theorem oP_X5_hangTag : plainName yX5_hangTag.cls = true ∧ yX5_hangTag.cls = mX5_hangTag.1 ∧ (mX5_hangTag.2.2.2.2.2 = true → yX5_hangTag.name = "<init>") := ⟨pn_RX5, rfl, (fun h => by cases h)⟩
theorem oP_X5_beginTask : plainName yX5_beginTask.cls = true ∧ yX5_beginTask.cls = mX5_beginTask.1 ∧ (mX5_beginTask.2.2.2.2.2 = true → yX5_beginTask.name = "<init>") := ⟨pn_RX5, rfl, (fun h => by cases h)⟩
theorem oP_X5_liftTag : plainName yX5_liftTag.cls = true ∧ yX5_liftTag.cls = mX5_liftTag.1 ∧ (mX5_liftTag.2.2.2.2.2 = true → yX5_liftTag.name = "<init>") := ⟨pn_RX5, rfl, (fun h => by cases h)⟩
theorem oP_X5_cancelTask : plainName yX5_cancelTask.cls = true ∧ yX5_cancelTask.cls = mX5_cancelTask.1 ∧ (mX5_cancelTask.2.2.2.2.2 = true → yX5_cancelTask.name = "<init>") := ⟨pn_RX5, rfl, (fun h => by cases h)⟩
theorem oP_X5_passHours : plainName yX5_passHours.cls = true ∧ yX5_passHours.cls = mX5_passHours.1 ∧ (mX5_passHours.2.2.2.2.2 = true → yX5_passHours.name = "<init>") := ⟨pn_RX5, rfl, (fun h => by cases h)⟩
theorem oP_X5_runAssets : plainName yX5_runAssets.cls = true ∧ yX5_runAssets.cls = mX5_runAssets.1 ∧ (mX5_runAssets.2.2.2.2.2 = true → yX5_runAssets.name = "<init>") := ⟨pn_RX5, rfl, (fun h => by cases h)⟩
theorem oP_X5_workOnTasks : plainName yX5_workOnTasks.cls = true ∧ yX5_workOnTasks.cls = mX5_workOnTasks.1 ∧ (mX5_workOnTasks.2.2.2.2.2 = true → yX5_workOnTasks.name = "<init>") := ⟨pn_RX5, rfl, (fun h => by cases h)⟩
theorem oP_X5_mendAsset : plainName yX5_mendAsset.cls = true ∧ yX5_mendAsset.cls = mX5_mendAsset.1 ∧ (mX5_mendAsset.2.2.2.2.2 = true → yX5_mendAsset.name = "<init>") := ⟨pn_RX5, rfl, (fun h => by cases h)⟩
theorem oP_X5_slipTasks : plainName yX5_slipTasks.cls = true ∧ yX5_slipTasks.cls = mX5_slipTasks.1 ∧ (mX5_slipTasks.2.2.2.2.2 = true → yX5_slipTasks.name = "<init>") := ⟨pn_RX5, rfl, (fun h => by cases h)⟩
theorem oP_X5_reasonAgainst : plainName yX5_reasonAgainst.cls = true ∧ yX5_reasonAgainst.cls = mX5_reasonAgainst.1 ∧ (mX5_reasonAgainst.2.2.2.2.2 = true → yX5_reasonAgainst.name = "<init>") := ⟨pn_RX5, rfl, (fun h => by cases h)⟩
theorem oP_X5_barrierOf : plainName yX5_barrierOf.cls = true ∧ yX5_barrierOf.cls = mX5_barrierOf.1 ∧ (mX5_barrierOf.2.2.2.2.2 = true → yX5_barrierOf.name = "<init>") := ⟨pn_RX5, rfl, (fun h => by cases h)⟩
theorem oP_X5_doBar : plainName yX5_doBar.cls = true ∧ yX5_doBar.cls = mX5_doBar.1 ∧ (mX5_doBar.2.2.2.2.2 = true → yX5_doBar.name = "<init>") := ⟨pn_RX5, rfl, (fun h => by cases h)⟩
theorem oP_X5_areNear : plainName yX5_areNear.cls = true ∧ yX5_areNear.cls = mX5_areNear.1 ∧ (mX5_areNear.2.2.2.2.2 = true → yX5_areNear.name = "<init>") := ⟨pn_RX5, rfl, (fun h => by cases h)⟩
theorem oP_X5_isRunning : plainName yX5_isRunning.cls = true ∧ yX5_isRunning.cls = mX5_isRunning.1 ∧ (mX5_isRunning.2.2.2.2.2 = true → yX5_isRunning.name = "<init>") := ⟨pn_RX5, rfl, (fun h => by cases h)⟩
theorem oP_X5_canServe : plainName yX5_canServe.cls = true ∧ yX5_canServe.cls = mX5_canServe.1 ∧ (mX5_canServe.2.2.2.2.2 = true → yX5_canServe.name = "<init>") := ⟨pn_RX5, rfl, (fun h => by cases h)⟩
theorem oP_X5_firstCrewFor : plainName yX5_firstCrewFor.cls = true ∧ yX5_firstCrewFor.cls = mX5_firstCrewFor.1 ∧ (mX5_firstCrewFor.2.2.2.2.2 = true → yX5_firstCrewFor.name = "<init>") := ⟨pn_RX5, rfl, (fun h => by cases h)⟩
theorem oP_X5_tagsHanging : plainName yX5_tagsHanging.cls = true ∧ yX5_tagsHanging.cls = mX5_tagsHanging.1 ∧ (mX5_tagsHanging.2.2.2.2.2 = true → yX5_tagsHanging.name = "<init>") := ⟨pn_RX5, rfl, (fun h => by cases h)⟩
theorem oP_X5_taskOfTag : plainName yX5_taskOfTag.cls = true ∧ yX5_taskOfTag.cls = mX5_taskOfTag.1 ∧ (mX5_taskOfTag.2.2.2.2.2 = true → yX5_taskOfTag.name = "<init>") := ⟨pn_RX5, rfl, (fun h => by cases h)⟩
theorem oP_X5_tasksOfAsset : plainName yX5_tasksOfAsset.cls = true ∧ yX5_tasksOfAsset.cls = mX5_tasksOfAsset.1 ∧ (mX5_tasksOfAsset.2.2.2.2.2 = true → yX5_tasksOfAsset.name = "<init>") := ⟨pn_RX5, rfl, (fun h => by cases h)⟩
theorem oP_X5_tasksOfCrew : plainName yX5_tasksOfCrew.cls = true ∧ yX5_tasksOfCrew.cls = mX5_tasksOfCrew.1 ∧ (mX5_tasksOfCrew.2.2.2.2.2 = true → yX5_tasksOfCrew.name = "<init>") := ⟨pn_RX5, rfl, (fun h => by cases h)⟩
theorem oP_X5_tasksIn : plainName yX5_tasksIn.cls = true ∧ yX5_tasksIn.cls = mX5_tasksIn.1 ∧ (mX5_tasksIn.2.2.2.2.2 = true → yX5_tasksIn.name = "<init>") := ⟨pn_RX5, rfl, (fun h => by cases h)⟩
theorem oP_X5_busyPeople : plainName yX5_busyPeople.cls = true ∧ yX5_busyPeople.cls = mX5_busyPeople.1 ∧ (mX5_busyPeople.2.2.2.2.2 = true → yX5_busyPeople.name = "<init>") := ⟨pn_RX5, rfl, (fun h => by cases h)⟩
theorem oP_X5_allBusyPeople : plainName yX5_allBusyPeople.cls = true ∧ yX5_allBusyPeople.cls = mX5_allBusyPeople.1 ∧ (mX5_allBusyPeople.2.2.2.2.2 = true → yX5_allBusyPeople.name = "<init>") := ⟨pn_RX5, rfl, (fun h => by cases h)⟩
theorem oP_X5_assetsRunning : plainName yX5_assetsRunning.cls = true ∧ yX5_assetsRunning.cls = mX5_assetsRunning.1 ∧ (mX5_assetsRunning.2.2.2.2.2 = true → yX5_assetsRunning.name = "<init>") := ⟨pn_RX5, rfl, (fun h => by cases h)⟩
theorem oP_X5_slipsSoFar : plainName yX5_slipsSoFar.cls = true ∧ yX5_slipsSoFar.cls = mX5_slipsSoFar.1 ∧ (mX5_slipsSoFar.2.2.2.2.2 = true → yX5_slipsSoFar.name = "<init>") := ⟨pn_RX5, rfl, (fun h => by cases h)⟩
theorem oP_X6_init : plainName yX6_init.cls = true ∧ yX6_init.cls = mX6_init.1 ∧ (mX6_init.2.2.2.2.2 = true → yX6_init.name = "<init>") := ⟨pn_RX6, rfl, fun _ => rfl⟩
theorem oP_X6_setUp : plainName yX6_setUp.cls = true ∧ yX6_setUp.cls = mX6_setUp.1 ∧ (mX6_setUp.2.2.2.2.2 = true → yX6_setUp.name = "<init>") := ⟨pn_RX6, rfl, (fun h => by cases h)⟩
theorem oP_X6_copyFrom : plainName yX6_copyFrom.cls = true ∧ yX6_copyFrom.cls = mX6_copyFrom.1 ∧ (mX6_copyFrom.2.2.2.2.2 = true → yX6_copyFrom.name = "<init>") := ⟨pn_RX6, rfl, (fun h => by cases h)⟩
theorem oP_X6_isIn : plainName yX6_isIn.cls = true ∧ yX6_isIn.cls = mX6_isIn.1 ∧ (mX6_isIn.2.2.2.2.2 = true → yX6_isIn.name = "<init>") := ⟨pn_RX6, rfl, (fun h => by cases h)⟩
theorem oP_X6_tagHangs : plainName yX6_tagHangs.cls = true ∧ yX6_tagHangs.cls = mX6_tagHangs.1 ∧ (mX6_tagHangs.2.2.2.2.2 = true → yX6_tagHangs.name = "<init>") := ⟨pn_RX6, rfl, (fun h => by cases h)⟩
theorem oP_X6_isTooLateAt : plainName yX6_isTooLateAt.cls = true ∧ yX6_isTooLateAt.cls = mX6_isTooLateAt.1 ∧ (mX6_isTooLateAt.2.2.2.2.2 = true → yX6_isTooLateAt.name = "<init>") := ⟨pn_RX6, rfl, (fun h => by cases h)⟩
theorem oP_X6_slip : plainName yX6_slip.cls = true ∧ yX6_slip.cls = mX6_slip.1 ∧ (mX6_slip.2.2.2.2.2 = true → yX6_slip.name = "<init>") := ⟨pn_RX6, rfl, (fun h => by cases h)⟩
theorem oP_X7_init : plainName yX7_init.cls = true ∧ yX7_init.cls = mX7_init.1 ∧ (mX7_init.2.2.2.2.2 = true → yX7_init.name = "<init>") := ⟨pn_RX7, rfl, fun _ => rfl⟩
theorem oP_X7_addAsset : plainName yX7_addAsset.cls = true ∧ yX7_addAsset.cls = mX7_addAsset.1 ∧ (mX7_addAsset.2.2.2.2.2 = true → yX7_addAsset.name = "<init>") := ⟨pn_RX7, rfl, (fun h => by cases h)⟩
theorem oP_X7_link : plainName yX7_link.cls = true ∧ yX7_link.cls = mX7_link.1 ∧ (mX7_link.2.2.2.2.2 = true → yX7_link.name = "<init>") := ⟨pn_RX7, rfl, (fun h => by cases h)⟩
theorem oP_X7_bar : plainName yX7_bar.cls = true ∧ yX7_bar.cls = mX7_bar.1 ∧ (mX7_bar.2.2.2.2.2 = true → yX7_bar.name = "<init>") := ⟨pn_RX7, rfl, (fun h => by cases h)⟩
theorem oP_X7_addCrew : plainName yX7_addCrew.cls = true ∧ yX7_addCrew.cls = mX7_addCrew.1 ∧ (mX7_addCrew.2.2.2.2.2 = true → yX7_addCrew.name = "<init>") := ⟨pn_RX7, rfl, (fun h => by cases h)⟩
theorem oP_X7_addTask : plainName yX7_addTask.cls = true ∧ yX7_addTask.cls = mX7_addTask.1 ∧ (mX7_addTask.2.2.2.2.2 = true → yX7_addTask.name = "<init>") := ⟨pn_RX7, rfl, (fun h => by cases h)⟩
theorem oP_X7_run : plainName yX7_run.cls = true ∧ yX7_run.cls = mX7_run.1 ∧ (mX7_run.2.2.2.2.2 = true → yX7_run.name = "<init>") := ⟨pn_RX7, rfl, (fun h => by cases h)⟩
theorem oP_X7_stop : plainName yX7_stop.cls = true ∧ yX7_stop.cls = mX7_stop.1 ∧ (mX7_stop.2.2.2.2.2 = true → yX7_stop.name = "<init>") := ⟨pn_RX7, rfl, (fun h => by cases h)⟩
theorem oP_X7_hang : plainName yX7_hang.cls = true ∧ yX7_hang.cls = mX7_hang.1 ∧ (mX7_hang.2.2.2.2.2 = true → yX7_hang.name = "<init>") := ⟨pn_RX7, rfl, (fun h => by cases h)⟩
theorem oP_X7_begin : plainName yX7_begin.cls = true ∧ yX7_begin.cls = mX7_begin.1 ∧ (mX7_begin.2.2.2.2.2 = true → yX7_begin.name = "<init>") := ⟨pn_RX7, rfl, (fun h => by cases h)⟩
theorem oP_X7_lift : plainName yX7_lift.cls = true ∧ yX7_lift.cls = mX7_lift.1 ∧ (mX7_lift.2.2.2.2.2 = true → yX7_lift.name = "<init>") := ⟨pn_RX7, rfl, (fun h => by cases h)⟩
theorem oP_X7_cancel : plainName yX7_cancel.cls = true ∧ yX7_cancel.cls = mX7_cancel.1 ∧ (mX7_cancel.2.2.2.2.2 = true → yX7_cancel.name = "<init>") := ⟨pn_RX7, rfl, (fun h => by cases h)⟩
theorem oP_X7_pass : plainName yX7_pass.cls = true ∧ yX7_pass.cls = mX7_pass.1 ∧ (mX7_pass.2.2.2.2.2 = true → yX7_pass.name = "<init>") := ⟨pn_RX7, rfl, (fun h => by cases h)⟩
theorem oP_X7_undo : plainName yX7_undo.cls = true ∧ yX7_undo.cls = mX7_undo.1 ∧ (mX7_undo.2.2.2.2.2 = true → yX7_undo.name = "<init>") := ⟨pn_RX7, rfl, (fun h => by cases h)⟩
theorem oP_X7_keep : plainName yX7_keep.cls = true ∧ yX7_keep.cls = mX7_keep.1 ∧ (mX7_keep.2.2.2.2.2 = true → yX7_keep.name = "<init>") := ⟨pn_RX7, rfl, (fun h => by cases h)⟩
theorem oP_X7_restore : plainName yX7_restore.cls = true ∧ yX7_restore.cls = mX7_restore.1 ∧ (mX7_restore.2.2.2.2.2 = true → yX7_restore.name = "<init>") := ⟨pn_RX7, rfl, (fun h => by cases h)⟩
theorem oP_X7_real : plainName yX7_real.cls = true ∧ yX7_real.cls = mX7_real.1 ∧ (mX7_real.2.2.2.2.2 = true → yX7_real.name = "<init>") := ⟨pn_RX7, rfl, (fun h => by cases h)⟩
theorem oP_X7_hoursTo : plainName yX7_hoursTo.cls = true ∧ yX7_hoursTo.cls = mX7_hoursTo.1 ∧ (mX7_hoursTo.2.2.2.2.2 = true → yX7_hoursTo.name = "<init>") := ⟨pn_RX7, rfl, (fun h => by cases h)⟩
theorem oP_X7_asset : plainName yX7_asset.cls = true ∧ yX7_asset.cls = mX7_asset.1 ∧ (mX7_asset.2.2.2.2.2 = true → yX7_asset.name = "<init>") := ⟨pn_RX7, rfl, (fun h => by cases h)⟩
theorem oP_X7_tagAt : plainName yX7_tagAt.cls = true ∧ yX7_tagAt.cls = mX7_tagAt.1 ∧ (mX7_tagAt.2.2.2.2.2 = true → yX7_tagAt.name = "<init>") := ⟨pn_RX7, rfl, (fun h => by cases h)⟩
theorem oP_X7_crew : plainName yX7_crew.cls = true ∧ yX7_crew.cls = mX7_crew.1 ∧ (mX7_crew.2.2.2.2.2 = true → yX7_crew.name = "<init>") := ⟨pn_RX7, rfl, (fun h => by cases h)⟩
theorem oP_X7_task : plainName yX7_task.cls = true ∧ yX7_task.cls = mX7_task.1 ∧ (mX7_task.2.2.2.2.2 = true → yX7_task.name = "<init>") := ⟨pn_RX7, rfl, (fun h => by cases h)⟩
theorem oP_X7_crewFor : plainName yX7_crewFor.cls = true ∧ yX7_crewFor.cls = mX7_crewFor.1 ∧ (mX7_crewFor.2.2.2.2.2 = true → yX7_crewFor.name = "<init>") := ⟨pn_RX7, rfl, (fun h => by cases h)⟩
theorem oP_X7_count : plainName yX7_count.cls = true ∧ yX7_count.cls = mX7_count.1 ∧ (mX7_count.2.2.2.2.2 = true → yX7_count.name = "<init>") := ⟨pn_RX7, rfl, (fun h => by cases h)⟩
theorem oP_X7_recorded : plainName yX7_recorded.cls = true ∧ yX7_recorded.cls = mX7_recorded.1 ∧ (mX7_recorded.2.2.2.2.2 = true → yX7_recorded.name = "<init>") := ⟨pn_RX7, rfl, (fun h => by cases h)⟩
theorem oP_X7_within : plainName yX7_within.cls = true ∧ yX7_within.cls = mX7_within.1 ∧ (mX7_within.2.2.2.2.2 = true → yX7_within.name = "<init>") := ⟨pn_RX7, rfl, (fun h => by cases h)⟩
theorem oP_J6_bitCount_0f7a4 : plainName yJ6_bitCount_0f7a4.cls = true ∧ yJ6_bitCount_0f7a4.cls = mJ6_bitCount_0f7a4.1 ∧ (mJ6_bitCount_0f7a4.2.2.2.2.2 = true → yJ6_bitCount_0f7a4.name = "<init>") := ⟨pn_RJ6, rfl, (fun h => by cases h)⟩
/-! where things lie: a plant at p (its rows of references p+1 .. p+3, its bars p+4, 8 assets from p+5, 5 crews from p+13, 24 tasks from p+18) -/
def isPl (σ : pT) (p : Nat) : Prop :=
  (σ.2.1 p).1 = 6 ∧
  σ.2.2 p 0 = some (p + 1) ∧
  σ.2.2 p 1 = some (p + 2) ∧
  σ.2.2 p 2 = some (p + 3) ∧
  σ.2.2 p 3 = some (p + 4) ∧
  σ.2.1 (p + 1) = (0 + 30, 8) ∧
  σ.2.1 (p + 2) = (1 + 30, 5) ∧
  σ.2.1 (p + 3) = (6 + 30, 24) ∧
  σ.2.1 (p + 4) = (20, 5) ∧
  (∀ i, i < 8 → σ.2.2 (p + 1) i = some (p + 5 + i)) ∧
  (∀ i, i < 8 → (σ.2.1 (p + 5 + i)).1 = 0 + 1) ∧
  (∀ i, i < 5 → σ.2.2 (p + 2) i = some (p + 13 + i)) ∧
  (∀ i, i < 5 → (σ.2.1 (p + 13 + i)).1 = 1 + 1) ∧
  (∀ i, i < 24 → σ.2.2 (p + 3) i = some (p + 18 + i)) ∧
  (∀ i, i < 24 → (σ.2.1 (p + 18 + i)).1 = 6 + 1)
theorem pl_k {σ : pT} {p : Nat} (h : isPl σ p) : (σ.2.1 p).1 = 6 := h.1
theorem pl_rA {σ : pT} {p : Nat} (h : isPl σ p) : σ.2.2 p 0 = some (p + 1) := h.2.1
theorem pl_rC {σ : pT} {p : Nat} (h : isPl σ p) : σ.2.2 p 1 = some (p + 2) := h.2.2.1
theorem pl_rT {σ : pT} {p : Nat} (h : isPl σ p) : σ.2.2 p 2 = some (p + 3) := h.2.2.2.1
theorem pl_rB {σ : pT} {p : Nat} (h : isPl σ p) : σ.2.2 p 3 = some (p + 4) := h.2.2.2.2.1
theorem pl_kA {σ : pT} {p : Nat} (h : isPl σ p) : σ.2.1 (p + 1) = (0 + 30, 8) := h.2.2.2.2.2.1
theorem pl_kC {σ : pT} {p : Nat} (h : isPl σ p) : σ.2.1 (p + 2) = (1 + 30, 5) := h.2.2.2.2.2.2.1
theorem pl_kT {σ : pT} {p : Nat} (h : isPl σ p) : σ.2.1 (p + 3) = (6 + 30, 24) := h.2.2.2.2.2.2.2.1
theorem pl_kB {σ : pT} {p : Nat} (h : isPl σ p) : σ.2.1 (p + 4) = (20, 5) := h.2.2.2.2.2.2.2.2.1
theorem pl_eA_ {σ : pT} {p : Nat} (h : isPl σ p) : (∀ i, i < 8 → σ.2.2 (p + 1) i = some (p + 5 + i)) := h.2.2.2.2.2.2.2.2.2.1
theorem pl_oA_ {σ : pT} {p : Nat} (h : isPl σ p) : (∀ i, i < 8 → (σ.2.1 (p + 5 + i)).1 = 0 + 1) := h.2.2.2.2.2.2.2.2.2.2.1
theorem pl_eC_ {σ : pT} {p : Nat} (h : isPl σ p) : (∀ i, i < 5 → σ.2.2 (p + 2) i = some (p + 13 + i)) := h.2.2.2.2.2.2.2.2.2.2.2.1
theorem pl_oC_ {σ : pT} {p : Nat} (h : isPl σ p) : (∀ i, i < 5 → (σ.2.1 (p + 13 + i)).1 = 1 + 1) := h.2.2.2.2.2.2.2.2.2.2.2.2.1
theorem pl_eT_ {σ : pT} {p : Nat} (h : isPl σ p) : (∀ i, i < 24 → σ.2.2 (p + 3) i = some (p + 18 + i)) := h.2.2.2.2.2.2.2.2.2.2.2.2.2.1
theorem pl_oT_ {σ : pT} {p : Nat} (h : isPl σ p) : (∀ i, i < 24 → (σ.2.1 (p + 18 + i)).1 = 6 + 1) := h.2.2.2.2.2.2.2.2.2.2.2.2.2.2
theorem pl_eA {σ : pT} {p i : Nat} (h : isPl σ p) (hi : i < 8) : σ.2.2 (p + 1) i = some (p + 5 + i) := pl_eA_ h i hi
theorem pl_oA {σ : pT} {p i : Nat} (h : isPl σ p) (hi : i < 8) : (σ.2.1 (p + 5 + i)).1 = 0 + 1 := pl_oA_ h i hi
theorem pl_eC {σ : pT} {p i : Nat} (h : isPl σ p) (hi : i < 5) : σ.2.2 (p + 2) i = some (p + 13 + i) := pl_eC_ h i hi
theorem pl_oC {σ : pT} {p i : Nat} (h : isPl σ p) (hi : i < 5) : (σ.2.1 (p + 13 + i)).1 = 1 + 1 := pl_oC_ h i hi
theorem pl_eT {σ : pT} {p i : Nat} (h : isPl σ p) (hi : i < 24) : σ.2.2 (p + 3) i = some (p + 18 + i) := pl_eT_ h i hi
theorem pl_oT {σ : pT} {p i : Nat} (h : isPl σ p) (hi : i < 24) : (σ.2.1 (p + 18 + i)).1 = 6 + 1 := pl_oT_ h i hi
/-! the history at q: its row q+1, four plants from q+2, 42 cells each -/
def isHi (σ : pT) (q : Nat) : Prop :=
  (σ.2.1 q).1 = 3 ∧
  σ.2.2 q 0 = some (q + 1) ∧
  σ.2.1 (q + 1) = (5 + 30, 4) ∧
  (∀ i, i < 4 → σ.2.2 (q + 1) i = some (q + 2 + 42 * i)) ∧
  (∀ i, i < 4 → isPl σ (q + 2 + 42 * i))
theorem hi_k {σ : pT} {q : Nat} (h : isHi σ q) : (σ.2.1 q).1 = 3 := h.1
theorem hi_rs {σ : pT} {q : Nat} (h : isHi σ q) : σ.2.2 q 0 = some (q + 1) := h.2.1
theorem hi_ks {σ : pT} {q : Nat} (h : isHi σ q) : σ.2.1 (q + 1) = (5 + 30, 4) := h.2.2.1
theorem hi_ep_ {σ : pT} {q : Nat} (h : isHi σ q) : (∀ i, i < 4 → σ.2.2 (q + 1) i = some (q + 2 + 42 * i)) := h.2.2.2.1
theorem hi_op_ {σ : pT} {q : Nat} (h : isHi σ q) : (∀ i, i < 4 → isPl σ (q + 2 + 42 * i)) := h.2.2.2.2
theorem hi_ep {σ : pT} {q i : Nat} (h : isHi σ q) (hi : i < 4) : σ.2.2 (q + 1) i = some (q + 2 + 42 * i) := hi_ep_ h i hi
theorem hi_op {σ : pT} {q i : Nat} (h : isHi σ q) (hi : i < 4) : isPl σ (q + 2 + 42 * i) := hi_op_ h i hi
/-! the orders at q: the text q+1, the row q+2, twenty orders from q+3 -/
def isOr (σ : pT) (q : Nat) : Prop :=
  (σ.2.1 q).1 = 5 ∧
  σ.2.2 q 0 = some (q + 1) ∧
  σ.2.2 q 2 = some (q + 2) ∧
  σ.2.1 (q + 1) = (21, 60) ∧
  σ.2.1 (q + 2) = (3 + 30, 20) ∧
  (∀ i, i < 20 → σ.2.2 (q + 2) i = some (q + 3 + i)) ∧
  (∀ i, i < 20 → (σ.2.1 (q + 3 + i)).1 = 3 + 1)
theorem or_k {σ : pT} {q : Nat} (h : isOr σ q) : (σ.2.1 q).1 = 5 := h.1
theorem or_rt {σ : pT} {q : Nat} (h : isOr σ q) : σ.2.2 q 0 = some (q + 1) := h.2.1
theorem or_rr {σ : pT} {q : Nat} (h : isOr σ q) : σ.2.2 q 2 = some (q + 2) := h.2.2.1
theorem or_kt {σ : pT} {q : Nat} (h : isOr σ q) : σ.2.1 (q + 1) = (21, 60) := h.2.2.2.1
theorem or_kr {σ : pT} {q : Nat} (h : isOr σ q) : σ.2.1 (q + 2) = (3 + 30, 20) := h.2.2.2.2.1
theorem or_eo_ {σ : pT} {q : Nat} (h : isOr σ q) : (∀ i, i < 20 → σ.2.2 (q + 2) i = some (q + 3 + i)) := h.2.2.2.2.2.1
theorem or_oo_ {σ : pT} {q : Nat} (h : isOr σ q) : (∀ i, i < 20 → (σ.2.1 (q + 3 + i)).1 = 3 + 1) := h.2.2.2.2.2.2
theorem or_eo {σ : pT} {q i : Nat} (h : isOr σ q) (hi : i < 20) : σ.2.2 (q + 2) i = some (q + 3 + i) := or_eo_ h i hi
theorem or_oo {σ : pT} {q i : Nat} (h : isOr σ q) (hi : i < 20) : (σ.2.1 (q + 3 + i)).1 = 3 + 1 := or_oo_ h i hi
/-! the whole object at x: plants x+1, x+43, x+85, the history x+127, the orders x+297 -/
def isTW (σ : pT) (x : Nat) : Prop :=
  (σ.2.1 x).1 = 8 ∧
  σ.2.2 x 0 = some (x + 1) ∧
  σ.2.2 x 1 = some (x + 43) ∧
  σ.2.2 x 2 = some (x + 85) ∧
  σ.2.2 x 4 = some (x + 127) ∧
  σ.2.2 x 5 = some (x + 297) ∧
  isPl σ (x + 1) ∧
  isPl σ (x + 43) ∧
  isPl σ (x + 85) ∧
  isHi σ (x + 127) ∧
  isOr σ (x + 297)
theorem tw_k {σ : pT} {x : Nat} (h : isTW σ x) : (σ.2.1 x).1 = 8 := h.1
theorem tw_r0 {σ : pT} {x : Nat} (h : isTW σ x) : σ.2.2 x 0 = some (x + 1) := h.2.1
theorem tw_r1 {σ : pT} {x : Nat} (h : isTW σ x) : σ.2.2 x 1 = some (x + 43) := h.2.2.1
theorem tw_r2 {σ : pT} {x : Nat} (h : isTW σ x) : σ.2.2 x 2 = some (x + 85) := h.2.2.2.1
theorem tw_r4 {σ : pT} {x : Nat} (h : isTW σ x) : σ.2.2 x 4 = some (x + 127) := h.2.2.2.2.1
theorem tw_r5 {σ : pT} {x : Nat} (h : isTW σ x) : σ.2.2 x 5 = some (x + 297) := h.2.2.2.2.2.1
theorem tw_now {σ : pT} {x : Nat} (h : isTW σ x) : isPl σ (x + 1) := h.2.2.2.2.2.2.1
theorem tw_bef {σ : pT} {x : Nat} (h : isTW σ x) : isPl σ (x + 43) := h.2.2.2.2.2.2.2.1
theorem tw_kept {σ : pT} {x : Nat} (h : isTW σ x) : isPl σ (x + 85) := h.2.2.2.2.2.2.2.2.1
theorem tw_hi {σ : pT} {x : Nat} (h : isTW σ x) : isHi σ (x + 127) := h.2.2.2.2.2.2.2.2.2.1
theorem tw_or {σ : pT} {x : Nat} (h : isTW σ x) : isOr σ (x + 297) := h.2.2.2.2.2.2.2.2.2.2
/-! the model at m: its seven rows from m+1 -/
def isMo (σ : pT) (m : Nat) : Prop :=
  (σ.2.1 m).1 = 9 ∧
  σ.2.2 m 0 = some (m + 1) ∧
  σ.2.2 m 1 = some (m + 2) ∧
  σ.2.2 m 2 = some (m + 3) ∧
  σ.2.2 m 3 = some (m + 4) ∧
  σ.2.2 m 4 = some (m + 5) ∧
  σ.2.2 m 5 = some (m + 6) ∧
  σ.2.2 m 8 = some (m + 7) ∧
  σ.2.1 (m + 1) = (20, 491) ∧
  σ.2.1 (m + 2) = (22, 8) ∧
  σ.2.1 (m + 3) = (22, 8) ∧
  σ.2.1 (m + 4) = (20, 2946) ∧
  σ.2.1 (m + 5) = (22, 48) ∧
  σ.2.1 (m + 6) = (22, 48) ∧
  σ.2.1 (m + 7) = (20, 60)
theorem mo_k {σ : pT} {m : Nat} (h : isMo σ m) : (σ.2.1 m).1 = 9 := h.1
theorem mo_r1 {σ : pT} {m : Nat} (h : isMo σ m) : σ.2.2 m 0 = some (m + 1) := h.2.1
theorem mo_r2 {σ : pT} {m : Nat} (h : isMo σ m) : σ.2.2 m 1 = some (m + 2) := h.2.2.1
theorem mo_r3 {σ : pT} {m : Nat} (h : isMo σ m) : σ.2.2 m 2 = some (m + 3) := h.2.2.2.1
theorem mo_r4 {σ : pT} {m : Nat} (h : isMo σ m) : σ.2.2 m 3 = some (m + 4) := h.2.2.2.2.1
theorem mo_r5 {σ : pT} {m : Nat} (h : isMo σ m) : σ.2.2 m 4 = some (m + 5) := h.2.2.2.2.2.1
theorem mo_r6 {σ : pT} {m : Nat} (h : isMo σ m) : σ.2.2 m 5 = some (m + 6) := h.2.2.2.2.2.2.1
theorem mo_r7 {σ : pT} {m : Nat} (h : isMo σ m) : σ.2.2 m 8 = some (m + 7) := h.2.2.2.2.2.2.2.1
theorem mo_k1 {σ : pT} {m : Nat} (h : isMo σ m) : σ.2.1 (m + 1) = (20, 491) := h.2.2.2.2.2.2.2.2.1
theorem mo_k2 {σ : pT} {m : Nat} (h : isMo σ m) : σ.2.1 (m + 2) = (22, 8) := h.2.2.2.2.2.2.2.2.2.1
theorem mo_k3 {σ : pT} {m : Nat} (h : isMo σ m) : σ.2.1 (m + 3) = (22, 8) := h.2.2.2.2.2.2.2.2.2.2.1
theorem mo_k4 {σ : pT} {m : Nat} (h : isMo σ m) : σ.2.1 (m + 4) = (20, 2946) := h.2.2.2.2.2.2.2.2.2.2.2.1
theorem mo_k5 {σ : pT} {m : Nat} (h : isMo σ m) : σ.2.1 (m + 5) = (22, 48) := h.2.2.2.2.2.2.2.2.2.2.2.2.1
theorem mo_k6 {σ : pT} {m : Nat} (h : isMo σ m) : σ.2.1 (m + 6) = (22, 48) := h.2.2.2.2.2.2.2.2.2.2.2.2.2.1
theorem mo_k7 {σ : pT} {m : Nat} (h : isMo σ m) : σ.2.1 (m + 7) = (20, 60) := h.2.2.2.2.2.2.2.2.2.2.2.2.2.2
end
section
theorem ret_t {c : Prop} [Decidable c] (h : c) : some (Value.int 1) = some (Value.int (bI (decide c))) := by simp [bI, h]
theorem ret_f {c : Prop} [Decidable c] (h : ¬ c) : some (Value.int 0) = some (Value.int (bI (decide c))) := by simp [bI, h]
theorem i_nlt {a b : Int32} (h : a < b) : ¬ b ≤ a := by
  rw [Int32.lt_iff_toInt_lt] at h
  rw [Int32.le_iff_toInt_le]
  omega
theorem i_nle {a b : Int32} (h : a ≤ b) : ¬ b < a := by
  rw [Int32.le_iff_toInt_le] at h
  rw [Int32.lt_iff_toInt_lt]
  omega
theorem i_le {a b : Int32} (h : ¬ b < a) : a ≤ b := by
  rw [Int32.lt_iff_toInt_lt] at h
  rw [Int32.le_iff_toInt_le]
  omega
theorem i_lt {a b : Int32} (h : ¬ b ≤ a) : a < b := by
  rw [Int32.le_iff_toInt_le] at h
  rw [Int32.lt_iff_toInt_lt]
  omega
/-- an asset's health an hour later -/
def wornF (w h : UInt32) : UInt32 := if 0 ≤ Op.cmpValue (FP.fcmp (FP.fsub h (FP.fmul h w)) 1008981770) .g then FP.fsub h (FP.fmul h w) else 1008981770
def wornN (w : UInt32) : Nat → UInt32 → UInt32
  | 0, h => h
  | n + 1, h => wornN w n (wornF w h)
theorem wornN_s (w : UInt32) (n : Nat) (h : UInt32) : wornN w (n + 1) h = wornF w (wornN w n h) := by
  induction n generalizing h with
  | zero => rfl
  | succ n ih => exact ih (wornF w h)
/-- hours until it is less than a bound: from hour k on, at most so many more -/
def untilB (w b : UInt32) : Nat → Nat → UInt32 → Int32
  | 0, _, _ => -5
  | n + 1, k, h => if 0 ≤ Op.cmpValue (FP.fcmp h b) .g then untilB w b n (k + 1) (wornF w h) else nI k

set_option maxRecDepth 4000 in
theorem sp_within {σ : pT} {I : pI} {F : pF} {v a b : Int32} : PE yX7_within cX7_within mX7_within [.int v, .int a, .int b] σ I F (some (.int (bI (decide (a ≤ v ∧ v ≤ b))))) I F := by
  refine PE.of oP_X7_within (catOK rfl) (Nat.le_of_ble_eq_true rfl) ?_
  show PW _ _ _ 0 [.int v, .int a, .int b] [] _ _ _ _
  refine pw_iload_n dX7_within_0 rfl rfl ?_
  refine pw_iload_n dX7_within_1 rfl rfl ?_
  refine pw_icmp_lt (tgt := 14) dX7_within_2 (by decide) (fun c_2 => ?_) (fun c_2 => ?_)
  · refine pw_iconst (v := 0) dX7_within_14 (by decide) ?_
    exact pw_zret dX7_within_15 rfl (by first | rfl | decide) (by first | exact ⟨ret_t ⟨i_le c_2, i_le c_7⟩, rfl, rfl, rfl⟩ | exact ⟨ret_f (fun z => i_nlt c_2 z.1), rfl, rfl, rfl⟩ | exact ⟨ret_f (fun z => i_nlt c_7 z.2), rfl, rfl, rfl⟩)
  · refine pw_iload_n dX7_within_5 rfl rfl ?_
    refine pw_iload_n dX7_within_6 rfl rfl ?_
    refine pw_icmp_gt (tgt := 14) dX7_within_7 (by decide) (fun c_7 => ?_) (fun c_7 => ?_)
    · refine pw_iconst (v := 0) dX7_within_14 (by decide) ?_
      exact pw_zret dX7_within_15 rfl (by first | rfl | decide) (by first | exact ⟨ret_t ⟨i_le c_2, i_le c_7⟩, rfl, rfl, rfl⟩ | exact ⟨ret_f (fun z => i_nlt c_2 z.1), rfl, rfl, rfl⟩ | exact ⟨ret_f (fun z => i_nlt c_7 z.2), rfl, rfl, rfl⟩)
    · refine pw_iconst (v := 1) dX7_within_10 (by decide) ?_
      refine pw_goto (tgt := 15) dX7_within_11 (by decide) ?_
      exact pw_zret dX7_within_15 rfl (by first | rfl | decide) (by first | exact ⟨ret_t ⟨i_le c_2, i_le c_7⟩, rfl, rfl, rfl⟩ | exact ⟨ret_f (fun z => i_nlt c_2 z.1), rfl, rfl, rfl⟩ | exact ⟨ret_f (fun z => i_nlt c_7 z.2), rfl, rfl, rfl⟩)

set_option maxRecDepth 4000 in
theorem sp_hasAsset {σ : pT} {I : pI} {F : pF} {p : Nat} {a : Int32} (h : isPl σ p) : PE yX5_hasAsset cX5_hasAsset mX5_hasAsset [.ref p, .int a] σ I F (some (.int (bI (decide (0 ≤ a ∧ a < I p 4))))) I F := by
  refine PE.of oP_X5_hasAsset (catOK rfl) (Nat.le_of_ble_eq_true rfl) ?_
  show PW _ _ _ 0 [.ref p, .int a] [] _ _ _ _
  refine pw_iload_n dX5_hasAsset_0 rfl rfl ?_
  refine pw_if_lt (tgt := 16) dX5_hasAsset_1 (by decide) (fun c_1 => ?_) (fun c_1 => ?_)
  · refine pw_iconst (v := 0) dX5_hasAsset_16 (by decide) ?_
    exact pw_zret dX5_hasAsset_17 rfl (by first | rfl | decide) (by first | exact ⟨ret_t ⟨i_le c_1, i_lt c_9⟩, rfl, rfl, rfl⟩ | exact ⟨ret_f (fun z => i_nlt c_1 z.1), rfl, rfl, rfl⟩ | exact ⟨ret_f (fun z => i_nle c_9 z.2), rfl, rfl, rfl⟩)
  · refine pw_iload_n dX5_hasAsset_4 rfl rfl ?_
    refine pw_aload_n dX5_hasAsset_5 rfl rfl ?_
    refine pw_getI dX5_hasAsset_6 fd_RX5_33 (by decide) (pl_k h) rfl ?_
    refine pw_icmp_ge (tgt := 16) dX5_hasAsset_9 (by decide) (fun c_9 => ?_) (fun c_9 => ?_)
    · refine pw_iconst (v := 0) dX5_hasAsset_16 (by decide) ?_
      exact pw_zret dX5_hasAsset_17 rfl (by first | rfl | decide) (by first | exact ⟨ret_t ⟨i_le c_1, i_lt c_9⟩, rfl, rfl, rfl⟩ | exact ⟨ret_f (fun z => i_nlt c_1 z.1), rfl, rfl, rfl⟩ | exact ⟨ret_f (fun z => i_nle c_9 z.2), rfl, rfl, rfl⟩)
    · refine pw_iconst (v := 1) dX5_hasAsset_12 (by decide) ?_
      refine pw_goto (tgt := 17) dX5_hasAsset_13 (by decide) ?_
      exact pw_zret dX5_hasAsset_17 rfl (by first | rfl | decide) (by first | exact ⟨ret_t ⟨i_le c_1, i_lt c_9⟩, rfl, rfl, rfl⟩ | exact ⟨ret_f (fun z => i_nlt c_1 z.1), rfl, rfl, rfl⟩ | exact ⟨ret_f (fun z => i_nle c_9 z.2), rfl, rfl, rfl⟩)

set_option maxRecDepth 4000 in
theorem sp_hasCrew {σ : pT} {I : pI} {F : pF} {p : Nat} {a : Int32} (h : isPl σ p) : PE yX5_hasCrew cX5_hasCrew mX5_hasCrew [.ref p, .int a] σ I F (some (.int (bI (decide (0 ≤ a ∧ a < I p 5))))) I F := by
  refine PE.of oP_X5_hasCrew (catOK rfl) (Nat.le_of_ble_eq_true rfl) ?_
  show PW _ _ _ 0 [.ref p, .int a] [] _ _ _ _
  refine pw_iload_n dX5_hasCrew_0 rfl rfl ?_
  refine pw_if_lt (tgt := 16) dX5_hasCrew_1 (by decide) (fun c_1 => ?_) (fun c_1 => ?_)
  · refine pw_iconst (v := 0) dX5_hasCrew_16 (by decide) ?_
    exact pw_zret dX5_hasCrew_17 rfl (by first | rfl | decide) (by first | exact ⟨ret_t ⟨i_le c_1, i_lt c_9⟩, rfl, rfl, rfl⟩ | exact ⟨ret_f (fun z => i_nlt c_1 z.1), rfl, rfl, rfl⟩ | exact ⟨ret_f (fun z => i_nle c_9 z.2), rfl, rfl, rfl⟩)
  · refine pw_iload_n dX5_hasCrew_4 rfl rfl ?_
    refine pw_aload_n dX5_hasCrew_5 rfl rfl ?_
    refine pw_getI dX5_hasCrew_6 fd_RX5_37 (by decide) (pl_k h) rfl ?_
    refine pw_icmp_ge (tgt := 16) dX5_hasCrew_9 (by decide) (fun c_9 => ?_) (fun c_9 => ?_)
    · refine pw_iconst (v := 0) dX5_hasCrew_16 (by decide) ?_
      exact pw_zret dX5_hasCrew_17 rfl (by first | rfl | decide) (by first | exact ⟨ret_t ⟨i_le c_1, i_lt c_9⟩, rfl, rfl, rfl⟩ | exact ⟨ret_f (fun z => i_nlt c_1 z.1), rfl, rfl, rfl⟩ | exact ⟨ret_f (fun z => i_nle c_9 z.2), rfl, rfl, rfl⟩)
    · refine pw_iconst (v := 1) dX5_hasCrew_12 (by decide) ?_
      refine pw_goto (tgt := 17) dX5_hasCrew_13 (by decide) ?_
      exact pw_zret dX5_hasCrew_17 rfl (by first | rfl | decide) (by first | exact ⟨ret_t ⟨i_le c_1, i_lt c_9⟩, rfl, rfl, rfl⟩ | exact ⟨ret_f (fun z => i_nlt c_1 z.1), rfl, rfl, rfl⟩ | exact ⟨ret_f (fun z => i_nle c_9 z.2), rfl, rfl, rfl⟩)

set_option maxRecDepth 4000 in
theorem sp_hasTask {σ : pT} {I : pI} {F : pF} {p : Nat} {a : Int32} (h : isPl σ p) : PE yX5_hasTask cX5_hasTask mX5_hasTask [.ref p, .int a] σ I F (some (.int (bI (decide (0 ≤ a ∧ a < I p 6))))) I F := by
  refine PE.of oP_X5_hasTask (catOK rfl) (Nat.le_of_ble_eq_true rfl) ?_
  show PW _ _ _ 0 [.ref p, .int a] [] _ _ _ _
  refine pw_iload_n dX5_hasTask_0 rfl rfl ?_
  refine pw_if_lt (tgt := 16) dX5_hasTask_1 (by decide) (fun c_1 => ?_) (fun c_1 => ?_)
  · refine pw_iconst (v := 0) dX5_hasTask_16 (by decide) ?_
    exact pw_zret dX5_hasTask_17 rfl (by first | rfl | decide) (by first | exact ⟨ret_t ⟨i_le c_1, i_lt c_9⟩, rfl, rfl, rfl⟩ | exact ⟨ret_f (fun z => i_nlt c_1 z.1), rfl, rfl, rfl⟩ | exact ⟨ret_f (fun z => i_nle c_9 z.2), rfl, rfl, rfl⟩)
  · refine pw_iload_n dX5_hasTask_4 rfl rfl ?_
    refine pw_aload_n dX5_hasTask_5 rfl rfl ?_
    refine pw_getI dX5_hasTask_6 fd_RX5_40 (by decide) (pl_k h) rfl ?_
    refine pw_icmp_ge (tgt := 16) dX5_hasTask_9 (by decide) (fun c_9 => ?_) (fun c_9 => ?_)
    · refine pw_iconst (v := 0) dX5_hasTask_16 (by decide) ?_
      exact pw_zret dX5_hasTask_17 rfl (by first | rfl | decide) (by first | exact ⟨ret_t ⟨i_le c_1, i_lt c_9⟩, rfl, rfl, rfl⟩ | exact ⟨ret_f (fun z => i_nlt c_1 z.1), rfl, rfl, rfl⟩ | exact ⟨ret_f (fun z => i_nle c_9 z.2), rfl, rfl, rfl⟩)
    · refine pw_iconst (v := 1) dX5_hasTask_12 (by decide) ?_
      refine pw_goto (tgt := 17) dX5_hasTask_13 (by decide) ?_
      exact pw_zret dX5_hasTask_17 rfl (by first | rfl | decide) (by first | exact ⟨ret_t ⟨i_le c_1, i_lt c_9⟩, rfl, rfl, rfl⟩ | exact ⟨ret_f (fun z => i_nlt c_1 z.1), rfl, rfl, rfl⟩ | exact ⟨ret_f (fun z => i_nle c_9 z.2), rfl, rfl, rfl⟩)

set_option maxRecDepth 4000 in
theorem sp_isLinkedTo {σ : pT} {I : pI} {F : pF} {q : Nat} {a : Int32} (h : (σ.2.1 q).1 = 0 + 1) : PE yX0_isLinkedTo cX0_isLinkedTo mX0_isLinkedTo [.ref q, .int a] σ I F (some (.int (bI (decide ((I q 5 >>> (a &&& 31)) &&& 1 = 1))))) I F := by
  refine PE.of oP_X0_isLinkedTo (catOK rfl) (Nat.le_of_ble_eq_true rfl) ?_
  show PW _ _ _ 0 [.ref q, .int a] [] _ _ _ _
  refine pw_aload_n dX0_isLinkedTo_0 rfl rfl ?_
  refine pw_getI dX0_isLinkedTo_1 fd_RX0_29 (by decide) h rfl ?_
  refine pw_iload_n dX0_isLinkedTo_4 rfl rfl ?_
  refine pw_ishr dX0_isLinkedTo_5 ?_
  refine pw_iconst (v := 1) dX0_isLinkedTo_6 (by decide) ?_
  refine pw_iand dX0_isLinkedTo_7 ?_
  refine pw_iconst (v := 1) dX0_isLinkedTo_8 (by decide) ?_
  refine pw_icmp_ne (tgt := 16) dX0_isLinkedTo_9 (by decide) (fun c_9 => ?_) (fun c_9 => ?_)
  · refine pw_iconst (v := 0) dX0_isLinkedTo_16 (by decide) ?_
    exact pw_zret dX0_isLinkedTo_17 rfl (by first | rfl | decide) (by first | exact ⟨ret_t c_9, rfl, rfl, rfl⟩ | exact ⟨ret_f c_9, rfl, rfl, rfl⟩ | exact ⟨ret_t (Classical.not_not.mp c_9), rfl, rfl, rfl⟩)
  · refine pw_iconst (v := 1) dX0_isLinkedTo_12 (by decide) ?_
    refine pw_goto (tgt := 17) dX0_isLinkedTo_13 (by decide) ?_
    exact pw_zret dX0_isLinkedTo_17 rfl (by first | rfl | decide) (by first | exact ⟨ret_t c_9, rfl, rfl, rfl⟩ | exact ⟨ret_f c_9, rfl, rfl, rfl⟩ | exact ⟨ret_t (Classical.not_not.mp c_9), rfl, rfl, rfl⟩)

set_option maxRecDepth 4000 in
theorem sp_afterAnHour {σ : pT} {I : pI} {F : pF} {q : Nat} {x : UInt32} (h : (σ.2.1 q).1 = 0 + 1) : PE yX0_afterAnHour cX0_afterAnHour mX0_afterAnHour [.ref q, .float x] σ I F (some (.float (wornF (F q 1) x))) I F := by
  refine PE.of oP_X0_afterAnHour (catOK rfl) (Nat.le_of_ble_eq_true rfl) ?_
  show PW _ _ _ 0 [.ref q, .float x, pJ] [] _ _ _ _
  refine pw_fload_n dX0_afterAnHour_0 rfl rfl ?_
  refine pw_fload_n dX0_afterAnHour_1 rfl rfl ?_
  refine pw_aload_n dX0_afterAnHour_2 rfl rfl ?_
  refine pw_getF dX0_afterAnHour_3 fd_RX0_15 (by decide) h rfl ?_
  refine pw_fmul dX0_afterAnHour_6 ?_
  refine pw_fsub dX0_afterAnHour_7 ?_
  refine pw_fstore_n dX0_afterAnHour_8 rfl (by decide) rfl ?_
  refine pw_fload_n dX0_afterAnHour_9 rfl rfl ?_
  refine pw_ldcf dX0_afterAnHour_10 kc_RX0_38 ?_
  refine pw_fcmp dX0_afterAnHour_12 ?_
  refine pw_if_ge (tgt := 21) dX0_afterAnHour_13 (by decide) (fun c_13 => ?_) (fun c_13 => ?_)
  · refine pw_fload_n dX0_afterAnHour_21 rfl rfl ?_
    exact pw_fret dX0_afterAnHour_22 rfl ⟨by simp [wornF, *], rfl, rfl, rfl⟩
  · refine pw_ldcf dX0_afterAnHour_16 kc_RX0_38 ?_
    refine pw_goto (tgt := 22) dX0_afterAnHour_18 (by decide) ?_
    exact pw_fret dX0_afterAnHour_22 rfl ⟨by simp [wornF, *], rfl, rfl, rfl⟩

set_option maxRecDepth 4000 in
theorem sp_runForAnHour {σ : pT} {I : pI} {F : pF} {q : Nat} (h : (σ.2.1 q).1 = 0 + 1) : PE yX0_runForAnHour cX0_runForAnHour mX0_runForAnHour [.ref q] σ I F none I (up2 (up2 F q 3 (FP.fadd (F q 3) (FP.fmul (FP.i2f (I q 0)) (F q 2)))) q 2 (wornF (F q 1) (F q 2))) := by
  refine PE.of oP_X0_runForAnHour (catOK rfl) (Nat.le_of_ble_eq_true rfl) ?_
  show PW _ _ _ 0 [.ref q] [] _ _ _ _
  refine pw_aload_n dX0_runForAnHour_0 rfl rfl ?_
  refine pw_aload_n dX0_runForAnHour_1 rfl rfl ?_
  refine pw_getF dX0_runForAnHour_2 fd_RX0_22 (by decide) h rfl ?_
  refine pw_aload_n dX0_runForAnHour_5 rfl rfl ?_
  refine pw_getI dX0_runForAnHour_6 fd_RX0_9 (by decide) h rfl ?_
  refine pw_i2f dX0_runForAnHour_9 ?_
  refine pw_aload_n dX0_runForAnHour_10 rfl rfl ?_
  refine pw_getF dX0_runForAnHour_11 fd_RX0_19 (by decide) h rfl ?_
  refine pw_fmul dX0_runForAnHour_14 ?_
  refine pw_fadd dX0_runForAnHour_15 ?_
  refine pw_putF dX0_runForAnHour_16 fd_RX0_22 (by decide) rfl rfl h ?_
  refine pw_aload_n dX0_runForAnHour_19 rfl rfl ?_
  refine pw_aload_n dX0_runForAnHour_20 rfl rfl ?_
  refine pw_aload_n dX0_runForAnHour_21 rfl rfl ?_
  refine pw_getF dX0_runForAnHour_22 fd_RX0_19 (by decide) h rfl ?_
  refine pe_callVf dX0_runForAnHour_25 oX_X0_afterAnHour lk_RX0_33 (sp_afterAnHour h) h rfl rfl (Nat.le_of_ble_eq_true rfl) (by decide) ?_
  refine pw_putF dX0_runForAnHour_28 fd_RX0_19 (by decide) rfl rfl h ?_
  exact pw_vret dX0_runForAnHour_31 rfl ⟨rfl, rfl, rfl, by simp [up2]⟩

set_option maxRecDepth 4000 in
theorem sp_mend {σ : pT} {I : pI} {F : pF} {q : Nat} (h : (σ.2.1 q).1 = 0 + 1) : PE yX0_mend cX0_mend mX0_mend [.ref q] σ I F none I (up2 F q 2 (FP.fadd (F q 2) (FP.fmul (FP.fsub 1065353216 (F q 2)) 1061158912))) := by
  refine PE.of oP_X0_mend (catOK rfl) (Nat.le_of_ble_eq_true rfl) ?_
  show PW _ _ _ 0 [.ref q] [] _ _ _ _
  refine pw_aload_n dX0_mend_0 rfl rfl ?_
  refine pw_aload_n dX0_mend_1 rfl rfl ?_
  refine pw_getF dX0_mend_2 fd_RX0_19 (by decide) h rfl ?_
  refine pw_fconst1 dX0_mend_5 ?_
  refine pw_aload_n dX0_mend_6 rfl rfl ?_
  refine pw_getF dX0_mend_7 fd_RX0_19 (by decide) h rfl ?_
  refine pw_fsub dX0_mend_10 ?_
  refine pw_ldcf dX0_mend_11 kc_RX0_37 ?_
  refine pw_fmul dX0_mend_13 ?_
  refine pw_fadd dX0_mend_14 ?_
  refine pw_putF dX0_mend_15 fd_RX0_19 (by decide) rfl rfl h ?_
  exact pw_vret dX0_mend_18 rfl ⟨rfl, rfl, rfl, rfl⟩

set_option maxRecDepth 4000 in
theorem sp_A_setUp {σ : pT} {I : pI} {F : pF} {q : Nat} {r t : Int32} (h : (σ.2.1 q).1 = 0 + 1) : PE yX0_setUp cX0_setUp mX0_setUp [.ref q, .int r, .int t] σ I F none (up2 (up2 (up2 I q 0 r) q 4 0) q 5 0) (up2 (up2 (up2 F q 1 (FP.fdiv (FP.i2f t) 1148846080)) q 2 1065353216) q 3 0) := by
  refine PE.of oP_X0_setUp (catOK rfl) (Nat.le_of_ble_eq_true rfl) ?_
  show PW _ _ _ 0 [.ref q, .int r, .int t] [] _ _ _ _
  refine pw_aload_n dX0_setUp_0 rfl rfl ?_
  refine pw_iload_n dX0_setUp_1 rfl rfl ?_
  refine pw_putI dX0_setUp_2 fd_RX0_9 (by decide) rfl ⟨rfl, rfl, rfl⟩ h ?_
  refine pw_aload_n dX0_setUp_5 rfl rfl ?_
  refine pw_iload_n dX0_setUp_6 rfl rfl ?_
  refine pw_i2f dX0_setUp_7 ?_
  refine pw_ldcf dX0_setUp_8 kc_RX0_32 ?_
  refine pw_fdiv dX0_setUp_10 ?_
  refine pw_putF dX0_setUp_11 fd_RX0_15 (by decide) rfl rfl h ?_
  refine pw_aload_n dX0_setUp_14 rfl rfl ?_
  refine pw_fconst1 dX0_setUp_15 ?_
  refine pw_putF dX0_setUp_16 fd_RX0_19 (by decide) rfl rfl h ?_
  refine pw_aload_n dX0_setUp_19 rfl rfl ?_
  refine pw_fconst0 dX0_setUp_20 ?_
  refine pw_putF dX0_setUp_21 fd_RX0_22 (by decide) rfl rfl h ?_
  refine pw_aload_n dX0_setUp_24 rfl rfl ?_
  refine pw_iconst (v := 0) dX0_setUp_25 (by decide) ?_
  refine pw_putI dX0_setUp_26 fd_RX0_25 (by decide) rfl ⟨by decide, by decide, rfl⟩ h ?_
  refine pw_aload_n dX0_setUp_29 rfl rfl ?_
  refine pw_iconst (v := 0) dX0_setUp_30 (by decide) ?_
  refine pw_putI dX0_setUp_31 fd_RX0_29 (by decide) rfl ⟨rfl, rfl, rfl⟩ h ?_
  exact pw_vret dX0_setUp_34 rfl ⟨rfl, rfl, rfl, rfl⟩

set_option maxRecDepth 4000 in
theorem sp_A_copy {σ : pT} {I : pI} {F : pF} {q r : Nat} (h : (σ.2.1 q).1 = 0 + 1) (h2 : (σ.2.1 r).1 = 0 + 1) (hz : I r 4 = 0 ∨ I r 4 = 1) (hqr : q ≠ r) : PE yX0_copyFrom cX0_copyFrom mX0_copyFrom [.ref q, .ref r] σ I F none (up2 (up2 (up2 I q 0 (I r 0)) q 4 (I r 4)) q 5 (I r 5)) (up2 (up2 (up2 F q 1 (F r 1)) q 2 (F r 2)) q 3 (F r 3)) := by
  refine PE.of oP_X0_copyFrom (catOK rfl) (Nat.le_of_ble_eq_true rfl) ?_
  show PW _ _ _ 0 [.ref q, .ref r] [] _ _ _ _
  refine pw_aload_n dX0_copyFrom_0 rfl rfl ?_
  refine pw_aload_n dX0_copyFrom_1 rfl rfl ?_
  refine pw_getI dX0_copyFrom_2 fd_RX0_9 (by decide) h2 rfl ?_
  refine pw_putI dX0_copyFrom_5 fd_RX0_9 (by decide) rfl ⟨rfl, rfl, rfl⟩ h ?_
  refine pw_aload_n dX0_copyFrom_8 rfl rfl ?_
  refine pw_aload_n dX0_copyFrom_9 rfl rfl ?_
  refine pw_getF dX0_copyFrom_10 fd_RX0_15 (by decide) h2 rfl ?_
  refine pw_putF dX0_copyFrom_13 fd_RX0_15 (by decide) rfl rfl h ?_
  refine pw_aload_n dX0_copyFrom_16 rfl rfl ?_
  refine pw_aload_n dX0_copyFrom_17 rfl rfl ?_
  refine pw_getF dX0_copyFrom_18 fd_RX0_19 (by decide) h2 rfl ?_
  refine pw_putF dX0_copyFrom_21 fd_RX0_19 (by decide) rfl rfl h ?_
  refine pw_aload_n dX0_copyFrom_24 rfl rfl ?_
  refine pw_aload_n dX0_copyFrom_25 rfl rfl ?_
  refine pw_getF dX0_copyFrom_26 fd_RX0_22 (by decide) h2 rfl ?_
  refine pw_putF dX0_copyFrom_29 fd_RX0_22 (by decide) rfl rfl h ?_
  refine pw_aload_n dX0_copyFrom_32 rfl rfl ?_
  refine pw_aload_n dX0_copyFrom_33 rfl rfl ?_
  refine pw_getI dX0_copyFrom_34 fd_RX0_25 (by decide) h2 rfl ?_
  refine pw_putI dX0_copyFrom_37 fd_RX0_25 (by decide) rfl ⟨by simp only [up2, Ne.symm hqr, false_and, if_false]; rcases hz with hz | hz <;> rw [hz] <;> rfl, by simp only [up2, Ne.symm hqr, false_and, if_false]; rcases hz with hz | hz <;> rw [hz] <;> rfl, rfl⟩ h ?_
  refine pw_aload_n dX0_copyFrom_40 rfl rfl ?_
  refine pw_aload_n dX0_copyFrom_41 rfl rfl ?_
  refine pw_getI dX0_copyFrom_42 fd_RX0_29 (by decide) h2 rfl ?_
  refine pw_putI dX0_copyFrom_45 fd_RX0_29 (by decide) rfl ⟨rfl, rfl, rfl⟩ h ?_
  exact pw_vret dX0_copyFrom_48 rfl ⟨rfl, rfl, by simp [up2, Ne.symm hqr], by simp [up2, Ne.symm hqr]⟩

set_option maxRecDepth 4000 in
theorem sp_C_setUp {σ : pT} {I : pI} {F : pF} {q : Nat} {r t : Int32} (h : (σ.2.1 q).1 = 1 + 1) : PE yX1_setUp cX1_setUp mX1_setUp [.ref q, .int r, .int t] σ I F none (up2 (up2 I q 0 r) q 1 t) F := by
  refine PE.of oP_X1_setUp (catOK rfl) (Nat.le_of_ble_eq_true rfl) ?_
  show PW _ _ _ 0 [.ref q, .int r, .int t] [] _ _ _ _
  refine pw_aload_n dX1_setUp_0 rfl rfl ?_
  refine pw_iload_n dX1_setUp_1 rfl rfl ?_
  refine pw_putI dX1_setUp_2 fd_RX1_7 (by decide) rfl ⟨rfl, rfl, rfl⟩ h ?_
  refine pw_aload_n dX1_setUp_5 rfl rfl ?_
  refine pw_iload_n dX1_setUp_6 rfl rfl ?_
  refine pw_putI dX1_setUp_7 fd_RX1_13 (by decide) rfl ⟨rfl, rfl, rfl⟩ h ?_
  exact pw_vret dX1_setUp_10 rfl ⟨rfl, rfl, rfl, rfl⟩

set_option maxRecDepth 4000 in
theorem sp_C_has {σ : pT} {I : pI} {F : pF} {q : Nat} {a : Int32} (h : (σ.2.1 q).1 = 1 + 1) : PE yX1_has cX1_has mX1_has [.ref q, .int a] σ I F (some (.int (bI (decide ((I q 1 >>> (a &&& 31)) &&& 1 = 1))))) I F := by
  refine PE.of oP_X1_has (catOK rfl) (Nat.le_of_ble_eq_true rfl) ?_
  show PW _ _ _ 0 [.ref q, .int a] [] _ _ _ _
  refine pw_aload_n dX1_has_0 rfl rfl ?_
  refine pw_getI dX1_has_1 fd_RX1_13 (by decide) h rfl ?_
  refine pw_iload_n dX1_has_4 rfl rfl ?_
  refine pw_ishr dX1_has_5 ?_
  refine pw_iconst (v := 1) dX1_has_6 (by decide) ?_
  refine pw_iand dX1_has_7 ?_
  refine pw_iconst (v := 1) dX1_has_8 (by decide) ?_
  refine pw_icmp_ne (tgt := 16) dX1_has_9 (by decide) (fun c_9 => ?_) (fun c_9 => ?_)
  · refine pw_iconst (v := 0) dX1_has_16 (by decide) ?_
    exact pw_zret dX1_has_17 rfl (by first | rfl | decide) (by first | exact ⟨ret_t c_9, rfl, rfl, rfl⟩ | exact ⟨ret_f c_9, rfl, rfl, rfl⟩ | exact ⟨ret_t (Classical.not_not.mp c_9), rfl, rfl, rfl⟩)
  · refine pw_iconst (v := 1) dX1_has_12 (by decide) ?_
    refine pw_goto (tgt := 17) dX1_has_13 (by decide) ?_
    exact pw_zret dX1_has_17 rfl (by first | rfl | decide) (by first | exact ⟨ret_t c_9, rfl, rfl, rfl⟩ | exact ⟨ret_f c_9, rfl, rfl, rfl⟩ | exact ⟨ret_t (Classical.not_not.mp c_9), rfl, rfl, rfl⟩)

set_option maxRecDepth 4000 in
theorem sp_C_copy {σ : pT} {I : pI} {F : pF} {q r : Nat} (h : (σ.2.1 q).1 = 1 + 1) (h2 : (σ.2.1 r).1 = 1 + 1) (hqr : q ≠ r) : PE yX1_copyFrom cX1_copyFrom mX1_copyFrom [.ref q, .ref r] σ I F none (up2 (up2 I q 0 (I r 0)) q 1 (I r 1)) F := by
  refine PE.of oP_X1_copyFrom (catOK rfl) (Nat.le_of_ble_eq_true rfl) ?_
  show PW _ _ _ 0 [.ref q, .ref r] [] _ _ _ _
  refine pw_aload_n dX1_copyFrom_0 rfl rfl ?_
  refine pw_aload_n dX1_copyFrom_1 rfl rfl ?_
  refine pw_getI dX1_copyFrom_2 fd_RX1_7 (by decide) h2 rfl ?_
  refine pw_putI dX1_copyFrom_5 fd_RX1_7 (by decide) rfl ⟨rfl, rfl, rfl⟩ h ?_
  refine pw_aload_n dX1_copyFrom_8 rfl rfl ?_
  refine pw_aload_n dX1_copyFrom_9 rfl rfl ?_
  refine pw_getI dX1_copyFrom_10 fd_RX1_13 (by decide) h2 rfl ?_
  refine pw_putI dX1_copyFrom_13 fd_RX1_13 (by decide) rfl ⟨rfl, rfl, rfl⟩ h ?_
  exact pw_vret dX1_copyFrom_16 rfl ⟨rfl, rfl, by simp [up2, Ne.symm hqr], rfl⟩

set_option maxRecDepth 4000 in
theorem sp_T_isIn {σ : pT} {I : pI} {F : pF} {q : Nat} {a b : Int32} (h : (σ.2.1 q).1 = 6 + 1) : PE yX6_isIn cX6_isIn mX6_isIn [.ref q, .int a, .int b] σ I F (some (.int (bI (decide (a ≤ I q 7 ∧ I q 7 ≤ b))))) I F := by
  refine PE.of oP_X6_isIn (catOK rfl) (Nat.le_of_ble_eq_true rfl) ?_
  show PW _ _ _ 0 [.ref q, .int a, .int b] [] _ _ _ _
  refine pw_aload_n dX6_isIn_0 rfl rfl ?_
  refine pw_getI dX6_isIn_1 fd_RX6_33 (by decide) h rfl ?_
  refine pw_iload_n dX6_isIn_4 rfl rfl ?_
  refine pw_icmp_lt (tgt := 20) dX6_isIn_5 (by decide) (fun c_5 => ?_) (fun c_5 => ?_)
  · refine pw_iconst (v := 0) dX6_isIn_20 (by decide) ?_
    exact pw_zret dX6_isIn_21 rfl (by first | rfl | decide) (by first | exact ⟨ret_t ⟨i_le c_5, i_le c_13⟩, rfl, rfl, rfl⟩ | exact ⟨ret_f (fun z => i_nlt c_5 z.1), rfl, rfl, rfl⟩ | exact ⟨ret_f (fun z => i_nlt c_13 z.2), rfl, rfl, rfl⟩)
  · refine pw_aload_n dX6_isIn_8 rfl rfl ?_
    refine pw_getI dX6_isIn_9 fd_RX6_33 (by decide) h rfl ?_
    refine pw_iload_n dX6_isIn_12 rfl rfl ?_
    refine pw_icmp_gt (tgt := 20) dX6_isIn_13 (by decide) (fun c_13 => ?_) (fun c_13 => ?_)
    · refine pw_iconst (v := 0) dX6_isIn_20 (by decide) ?_
      exact pw_zret dX6_isIn_21 rfl (by first | rfl | decide) (by first | exact ⟨ret_t ⟨i_le c_5, i_le c_13⟩, rfl, rfl, rfl⟩ | exact ⟨ret_f (fun z => i_nlt c_5 z.1), rfl, rfl, rfl⟩ | exact ⟨ret_f (fun z => i_nlt c_13 z.2), rfl, rfl, rfl⟩)
    · refine pw_iconst (v := 1) dX6_isIn_16 (by decide) ?_
      refine pw_goto (tgt := 21) dX6_isIn_17 (by decide) ?_
      exact pw_zret dX6_isIn_21 rfl (by first | rfl | decide) (by first | exact ⟨ret_t ⟨i_le c_5, i_le c_13⟩, rfl, rfl, rfl⟩ | exact ⟨ret_f (fun z => i_nlt c_5 z.1), rfl, rfl, rfl⟩ | exact ⟨ret_f (fun z => i_nlt c_13 z.2), rfl, rfl, rfl⟩)

set_option maxRecDepth 4000 in
theorem sp_T_tagHangs {σ : pT} {I : pI} {F : pF} {q : Nat} (h : (σ.2.1 q).1 = 6 + 1) : PE yX6_tagHangs cX6_tagHangs mX6_tagHangs [.ref q] σ I F (some (.int (bI (decide (1 ≤ I q 7 ∧ I q 7 ≤ 3))))) I F := by
  refine PE.of oP_X6_tagHangs (catOK rfl) (Nat.le_of_ble_eq_true rfl) ?_
  show PW _ _ _ 0 [.ref q] [] _ _ _ _
  refine pw_aload_n dX6_tagHangs_0 rfl rfl ?_
  refine pw_iconst (v := 1) dX6_tagHangs_1 (by decide) ?_
  refine pw_iconst (v := 3) dX6_tagHangs_2 (by decide) ?_
  refine pe_callVi dX6_tagHangs_3 oX_X6_isIn lk_RX6_48 (sp_T_isIn h) h rfl rfl (Nat.le_of_ble_eq_true rfl) (by decide) ?_
  exact pw_bret dX6_tagHangs_6 rfl ⟨rfl, rfl, rfl, rfl⟩

set_option maxRecDepth 4000 in
theorem sp_T_isTooLateAt {σ : pT} {I : pI} {F : pF} {q : Nat} {a : Int32} (h : (σ.2.1 q).1 = 6 + 1) : PE yX6_isTooLateAt cX6_isTooLateAt mX6_isTooLateAt [.ref q, .int a] σ I F (some (.int (bI (decide (I q 6 < a + I q 4))))) I F := by
  refine PE.of oP_X6_isTooLateAt (catOK rfl) (Nat.le_of_ble_eq_true rfl) ?_
  show PW _ _ _ 0 [.ref q, .int a] [] _ _ _ _
  refine pw_iload_n dX6_isTooLateAt_0 rfl rfl ?_
  refine pw_aload_n dX6_isTooLateAt_1 rfl rfl ?_
  refine pw_getI dX6_isTooLateAt_2 fd_RX6_24 (by decide) h rfl ?_
  refine pw_iadd dX6_isTooLateAt_5 ?_
  refine pw_aload_n dX6_isTooLateAt_6 rfl rfl ?_
  refine pw_getI dX6_isTooLateAt_7 fd_RX6_30 (by decide) h rfl ?_
  refine pw_icmp_le (tgt := 17) dX6_isTooLateAt_10 (by decide) (fun c_10 => ?_) (fun c_10 => ?_)
  · refine pw_iconst (v := 0) dX6_isTooLateAt_17 (by decide) ?_
    exact pw_zret dX6_isTooLateAt_18 rfl (by first | rfl | decide) (by first | exact ⟨ret_t (i_lt c_10), rfl, rfl, rfl⟩ | exact ⟨ret_f (i_nle c_10), rfl, rfl, rfl⟩)
  · refine pw_iconst (v := 1) dX6_isTooLateAt_13 (by decide) ?_
    refine pw_goto (tgt := 18) dX6_isTooLateAt_14 (by decide) ?_
    exact pw_zret dX6_isTooLateAt_18 rfl (by first | rfl | decide) (by first | exact ⟨ret_t (i_lt c_10), rfl, rfl, rfl⟩ | exact ⟨ret_f (i_nle c_10), rfl, rfl, rfl⟩)

/-- a task slips, or is missed -/
def slipI (I : pI) (q : Nat) : pI := if I q 7 = 0 ∧ 3 ≤ I q 10 then up2 I q 7 5 else up2 (up2 (up2 I q 5 (I q 5 + 24)) q 6 (I q 6 + 24)) q 10 (I q 10 + 1)
theorem slip_1 {I : pI} {q : Nat} (h1 : I q 7 = 0) (h2 : ¬ I q 10 < 3) : up2 I q 7 5 = slipI I q := by rw [slipI, if_pos ⟨h1, i_le h2⟩]
theorem slip_2 {I : pI} {q : Nat} (h2 : I q 10 < 3) : up2 (up2 (up2 I q 5 (I q 5 + 24)) q 6 (up2 I q 5 (I q 5 + 24) q 6 + 24)) q 10 (up2 (up2 I q 5 (I q 5 + 24)) q 6 (up2 I q 5 (I q 5 + 24) q 6 + 24) q 10 + 1) = slipI I q := by
  rw [slipI, if_neg (fun z => i_nlt h2 z.2)]
  simp [up2]
theorem slip_3 {I : pI} {q : Nat} (h2 : ¬ I q 7 = 0) : up2 (up2 (up2 I q 5 (I q 5 + 24)) q 6 (up2 I q 5 (I q 5 + 24) q 6 + 24)) q 10 (up2 (up2 I q 5 (I q 5 + 24)) q 6 (up2 I q 5 (I q 5 + 24) q 6 + 24) q 10 + 1) = slipI I q := by
  rw [slipI, if_neg (fun z => h2 z.1)]
  simp [up2]

set_option maxRecDepth 4000 in
theorem sp_T_slip {σ : pT} {I : pI} {F : pF} {q : Nat} (h : (σ.2.1 q).1 = 6 + 1) : PE yX6_slip cX6_slip mX6_slip [.ref q] σ I F none (slipI I q) F := by
  refine PE.of oP_X6_slip (catOK rfl) (Nat.le_of_ble_eq_true rfl) ?_
  show PW _ _ _ 0 [.ref q] [] _ _ _ _
  refine pw_aload_n dX6_slip_0 rfl rfl ?_
  refine pw_getI dX6_slip_1 fd_RX6_33 (by decide) h rfl ?_
  refine pw_if_ne (tgt := 21) dX6_slip_4 (by decide) (fun c_4 => ?_) (fun c_4 => ?_)
  · refine pw_aload_n dX6_slip_21 rfl rfl ?_
    refine pw_dup dX6_slip_22 rfl ?_
    refine pw_getI dX6_slip_23 fd_RX6_27 (by decide) h rfl ?_
    refine pw_bipush (v := 24) dX6_slip_26 (by decide) ?_
    refine pw_iadd dX6_slip_28 ?_
    refine pw_putI dX6_slip_29 fd_RX6_27 (by decide) rfl ⟨rfl, rfl, rfl⟩ h ?_
    refine pw_aload_n dX6_slip_32 rfl rfl ?_
    refine pw_dup dX6_slip_33 rfl ?_
    refine pw_getI dX6_slip_34 fd_RX6_30 (by decide) h rfl ?_
    refine pw_bipush (v := 24) dX6_slip_37 (by decide) ?_
    refine pw_iadd dX6_slip_39 ?_
    refine pw_putI dX6_slip_40 fd_RX6_30 (by decide) rfl ⟨rfl, rfl, rfl⟩ h ?_
    refine pw_aload_n dX6_slip_43 rfl rfl ?_
    refine pw_dup dX6_slip_44 rfl ?_
    refine pw_getI dX6_slip_45 fd_RX6_42 (by decide) h rfl ?_
    refine pw_iconst (v := 1) dX6_slip_48 (by decide) ?_
    refine pw_iadd dX6_slip_49 ?_
    refine pw_putI dX6_slip_50 fd_RX6_42 (by decide) rfl ⟨rfl, rfl, rfl⟩ h ?_
    exact pw_vret dX6_slip_53 rfl (by first | exact ⟨rfl, rfl, slip_1 c_4 c_12, rfl⟩ | exact ⟨rfl, rfl, slip_2 c_12, rfl⟩ | exact ⟨rfl, rfl, slip_3 c_4, rfl⟩)
  · refine pw_aload_n dX6_slip_7 rfl rfl ?_
    refine pw_getI dX6_slip_8 fd_RX6_42 (by decide) h rfl ?_
    refine pw_iconst (v := 3) dX6_slip_11 (by decide) ?_
    refine pw_icmp_lt (tgt := 21) dX6_slip_12 (by decide) (fun c_12 => ?_) (fun c_12 => ?_)
    · refine pw_aload_n dX6_slip_21 rfl rfl ?_
      refine pw_dup dX6_slip_22 rfl ?_
      refine pw_getI dX6_slip_23 fd_RX6_27 (by decide) h rfl ?_
      refine pw_bipush (v := 24) dX6_slip_26 (by decide) ?_
      refine pw_iadd dX6_slip_28 ?_
      refine pw_putI dX6_slip_29 fd_RX6_27 (by decide) rfl ⟨rfl, rfl, rfl⟩ h ?_
      refine pw_aload_n dX6_slip_32 rfl rfl ?_
      refine pw_dup dX6_slip_33 rfl ?_
      refine pw_getI dX6_slip_34 fd_RX6_30 (by decide) h rfl ?_
      refine pw_bipush (v := 24) dX6_slip_37 (by decide) ?_
      refine pw_iadd dX6_slip_39 ?_
      refine pw_putI dX6_slip_40 fd_RX6_30 (by decide) rfl ⟨rfl, rfl, rfl⟩ h ?_
      refine pw_aload_n dX6_slip_43 rfl rfl ?_
      refine pw_dup dX6_slip_44 rfl ?_
      refine pw_getI dX6_slip_45 fd_RX6_42 (by decide) h rfl ?_
      refine pw_iconst (v := 1) dX6_slip_48 (by decide) ?_
      refine pw_iadd dX6_slip_49 ?_
      refine pw_putI dX6_slip_50 fd_RX6_42 (by decide) rfl ⟨rfl, rfl, rfl⟩ h ?_
      exact pw_vret dX6_slip_53 rfl (by first | exact ⟨rfl, rfl, slip_1 c_4 c_12, rfl⟩ | exact ⟨rfl, rfl, slip_2 c_12, rfl⟩ | exact ⟨rfl, rfl, slip_3 c_4, rfl⟩)
    · refine pw_aload_n dX6_slip_15 rfl rfl ?_
      refine pw_iconst (v := 5) dX6_slip_16 (by decide) ?_
      refine pw_putI dX6_slip_17 fd_RX6_33 (by decide) rfl ⟨rfl, rfl, rfl⟩ h ?_
      exact pw_vret dX6_slip_20 rfl (by first | exact ⟨rfl, rfl, slip_1 c_4 c_12, rfl⟩ | exact ⟨rfl, rfl, slip_2 c_12, rfl⟩ | exact ⟨rfl, rfl, slip_3 c_4, rfl⟩)

set_option maxRecDepth 4000 in
theorem sp_T_setUp {σ : pT} {I : pI} {F : pF} {q : Nat} {a b c d e f : Int32} (h : (σ.2.1 q).1 = 6 + 1) : PE yX6_setUp cX6_setUp mX6_setUp [.ref q, .int a, .int b, .int c, .int d, .int e, .int f] σ I F none (up2 (up2 (up2 (up2 (up2 (up2 (up2 (up2 (up2 (up2 (up2 (up2 I q 0 a) q 1 b) q 2 c) q 3 d) q 4 e) q 5 f) q 6 (f + 2 * e + 6)) q 7 0) q 8 (-5)) q 9 0) q 10 0) q 11 0) F := by
  refine PE.of oP_X6_setUp (catOK rfl) (Nat.le_of_ble_eq_true rfl) ?_
  show PW _ _ _ 0 [.ref q, .int a, .int b, .int c, .int d, .int e, .int f] [] _ _ _ _
  refine pw_aload_n dX6_setUp_0 rfl rfl ?_
  refine pw_iload_n dX6_setUp_1 rfl rfl ?_
  refine pw_putI dX6_setUp_2 fd_RX6_9 (by decide) rfl ⟨rfl, rfl, rfl⟩ h ?_
  refine pw_aload_n dX6_setUp_5 rfl rfl ?_
  refine pw_iload_n dX6_setUp_6 rfl rfl ?_
  refine pw_putI dX6_setUp_7 fd_RX6_15 (by decide) rfl ⟨rfl, rfl, rfl⟩ h ?_
  refine pw_aload_n dX6_setUp_10 rfl rfl ?_
  refine pw_iload_n dX6_setUp_11 rfl rfl ?_
  refine pw_putI dX6_setUp_12 fd_RX6_18 (by decide) rfl ⟨rfl, rfl, rfl⟩ h ?_
  refine pw_aload_n dX6_setUp_15 rfl rfl ?_
  refine pw_iload dX6_setUp_16 rfl ?_
  refine pw_putI dX6_setUp_18 fd_RX6_21 (by decide) rfl ⟨rfl, rfl, rfl⟩ h ?_
  refine pw_aload_n dX6_setUp_21 rfl rfl ?_
  refine pw_iload dX6_setUp_22 rfl ?_
  refine pw_putI dX6_setUp_24 fd_RX6_24 (by decide) rfl ⟨rfl, rfl, rfl⟩ h ?_
  refine pw_aload_n dX6_setUp_27 rfl rfl ?_
  refine pw_iload dX6_setUp_28 rfl ?_
  refine pw_putI dX6_setUp_30 fd_RX6_27 (by decide) rfl ⟨rfl, rfl, rfl⟩ h ?_
  refine pw_aload_n dX6_setUp_33 rfl rfl ?_
  refine pw_iload dX6_setUp_34 rfl ?_
  refine pw_iconst (v := 2) dX6_setUp_36 (by decide) ?_
  refine pw_iload dX6_setUp_37 rfl ?_
  refine pw_imul dX6_setUp_39 ?_
  refine pw_iadd dX6_setUp_40 ?_
  refine pw_bipush (v := 6) dX6_setUp_41 (by decide) ?_
  refine pw_iadd dX6_setUp_43 ?_
  refine pw_putI dX6_setUp_44 fd_RX6_30 (by decide) rfl ⟨rfl, rfl, rfl⟩ h ?_
  refine pw_aload_n dX6_setUp_47 rfl rfl ?_
  refine pw_iconst (v := 0) dX6_setUp_48 (by decide) ?_
  refine pw_putI dX6_setUp_49 fd_RX6_33 (by decide) rfl ⟨rfl, rfl, rfl⟩ h ?_
  refine pw_aload_n dX6_setUp_52 rfl rfl ?_
  refine pw_bipush (v := (-5)) dX6_setUp_53 (by decide) ?_
  refine pw_putI dX6_setUp_55 fd_RX6_36 (by decide) rfl ⟨rfl, rfl, rfl⟩ h ?_
  refine pw_aload_n dX6_setUp_58 rfl rfl ?_
  refine pw_iconst (v := 0) dX6_setUp_59 (by decide) ?_
  refine pw_putI dX6_setUp_60 fd_RX6_39 (by decide) rfl ⟨rfl, rfl, rfl⟩ h ?_
  refine pw_aload_n dX6_setUp_63 rfl rfl ?_
  refine pw_iconst (v := 0) dX6_setUp_64 (by decide) ?_
  refine pw_putI dX6_setUp_65 fd_RX6_42 (by decide) rfl ⟨rfl, rfl, rfl⟩ h ?_
  refine pw_aload_n dX6_setUp_68 rfl rfl ?_
  refine pw_iconst (v := 0) dX6_setUp_69 (by decide) ?_
  refine pw_putI dX6_setUp_70 fd_RX6_45 (by decide) rfl ⟨rfl, rfl, rfl⟩ h ?_
  exact pw_vret dX6_setUp_73 rfl ⟨rfl, rfl, rfl, rfl⟩

set_option maxRecDepth 4000 in
theorem sp_T_copy {σ : pT} {I : pI} {F : pF} {q r : Nat} (h : (σ.2.1 q).1 = 6 + 1) (h2 : (σ.2.1 r).1 = 6 + 1) (hqr : q ≠ r) : PE yX6_copyFrom cX6_copyFrom mX6_copyFrom [.ref q, .ref r] σ I F none (up2 (up2 (up2 (up2 (up2 (up2 (up2 (up2 (up2 (up2 (up2 (up2 I q 0 (I r 0)) q 1 (I r 1)) q 2 (I r 2)) q 3 (I r 3)) q 4 (I r 4)) q 5 (I r 5)) q 6 (I r 6)) q 7 (I r 7)) q 8 (I r 8)) q 9 (I r 9)) q 10 (I r 10)) q 11 (I r 11)) F := by
  refine PE.of oP_X6_copyFrom (catOK rfl) (Nat.le_of_ble_eq_true rfl) ?_
  show PW _ _ _ 0 [.ref q, .ref r] [] _ _ _ _
  refine pw_aload_n dX6_copyFrom_0 rfl rfl ?_
  refine pw_aload_n dX6_copyFrom_1 rfl rfl ?_
  refine pw_getI dX6_copyFrom_2 fd_RX6_9 (by decide) h2 rfl ?_
  refine pw_putI dX6_copyFrom_5 fd_RX6_9 (by decide) rfl ⟨rfl, rfl, rfl⟩ h ?_
  refine pw_aload_n dX6_copyFrom_8 rfl rfl ?_
  refine pw_aload_n dX6_copyFrom_9 rfl rfl ?_
  refine pw_getI dX6_copyFrom_10 fd_RX6_15 (by decide) h2 rfl ?_
  refine pw_putI dX6_copyFrom_13 fd_RX6_15 (by decide) rfl ⟨rfl, rfl, rfl⟩ h ?_
  refine pw_aload_n dX6_copyFrom_16 rfl rfl ?_
  refine pw_aload_n dX6_copyFrom_17 rfl rfl ?_
  refine pw_getI dX6_copyFrom_18 fd_RX6_18 (by decide) h2 rfl ?_
  refine pw_putI dX6_copyFrom_21 fd_RX6_18 (by decide) rfl ⟨rfl, rfl, rfl⟩ h ?_
  refine pw_aload_n dX6_copyFrom_24 rfl rfl ?_
  refine pw_aload_n dX6_copyFrom_25 rfl rfl ?_
  refine pw_getI dX6_copyFrom_26 fd_RX6_21 (by decide) h2 rfl ?_
  refine pw_putI dX6_copyFrom_29 fd_RX6_21 (by decide) rfl ⟨rfl, rfl, rfl⟩ h ?_
  refine pw_aload_n dX6_copyFrom_32 rfl rfl ?_
  refine pw_aload_n dX6_copyFrom_33 rfl rfl ?_
  refine pw_getI dX6_copyFrom_34 fd_RX6_24 (by decide) h2 rfl ?_
  refine pw_putI dX6_copyFrom_37 fd_RX6_24 (by decide) rfl ⟨rfl, rfl, rfl⟩ h ?_
  refine pw_aload_n dX6_copyFrom_40 rfl rfl ?_
  refine pw_aload_n dX6_copyFrom_41 rfl rfl ?_
  refine pw_getI dX6_copyFrom_42 fd_RX6_27 (by decide) h2 rfl ?_
  refine pw_putI dX6_copyFrom_45 fd_RX6_27 (by decide) rfl ⟨rfl, rfl, rfl⟩ h ?_
  refine pw_aload_n dX6_copyFrom_48 rfl rfl ?_
  refine pw_aload_n dX6_copyFrom_49 rfl rfl ?_
  refine pw_getI dX6_copyFrom_50 fd_RX6_30 (by decide) h2 rfl ?_
  refine pw_putI dX6_copyFrom_53 fd_RX6_30 (by decide) rfl ⟨rfl, rfl, rfl⟩ h ?_
  refine pw_aload_n dX6_copyFrom_56 rfl rfl ?_
  refine pw_aload_n dX6_copyFrom_57 rfl rfl ?_
  refine pw_getI dX6_copyFrom_58 fd_RX6_33 (by decide) h2 rfl ?_
  refine pw_putI dX6_copyFrom_61 fd_RX6_33 (by decide) rfl ⟨rfl, rfl, rfl⟩ h ?_
  refine pw_aload_n dX6_copyFrom_64 rfl rfl ?_
  refine pw_aload_n dX6_copyFrom_65 rfl rfl ?_
  refine pw_getI dX6_copyFrom_66 fd_RX6_36 (by decide) h2 rfl ?_
  refine pw_putI dX6_copyFrom_69 fd_RX6_36 (by decide) rfl ⟨rfl, rfl, rfl⟩ h ?_
  refine pw_aload_n dX6_copyFrom_72 rfl rfl ?_
  refine pw_aload_n dX6_copyFrom_73 rfl rfl ?_
  refine pw_getI dX6_copyFrom_74 fd_RX6_39 (by decide) h2 rfl ?_
  refine pw_putI dX6_copyFrom_77 fd_RX6_39 (by decide) rfl ⟨rfl, rfl, rfl⟩ h ?_
  refine pw_aload_n dX6_copyFrom_80 rfl rfl ?_
  refine pw_aload_n dX6_copyFrom_81 rfl rfl ?_
  refine pw_getI dX6_copyFrom_82 fd_RX6_42 (by decide) h2 rfl ?_
  refine pw_putI dX6_copyFrom_85 fd_RX6_42 (by decide) rfl ⟨rfl, rfl, rfl⟩ h ?_
  refine pw_aload_n dX6_copyFrom_88 rfl rfl ?_
  refine pw_aload_n dX6_copyFrom_89 rfl rfl ?_
  refine pw_getI dX6_copyFrom_90 fd_RX6_45 (by decide) h2 rfl ?_
  refine pw_putI dX6_copyFrom_93 fd_RX6_45 (by decide) rfl ⟨rfl, rfl, rfl⟩ h ?_
  exact pw_vret dX6_copyFrom_96 rfl ⟨rfl, rfl, by simp [up2, Ne.symm hqr], rfl⟩
end
section
/-! counting, adding, looking for the first -/
def cntT (P : Nat → Bool) : Nat → Nat
  | 0 => 0
  | n + 1 => cntT P n + (if P n then 1 else 0)
def sumT (f : Nat → Int32) : Nat → Int32
  | 0 => 0
  | n + 1 => sumT f n + f n
/-- the first from k on, among so many; -5 if there is none -/
def fstT (P : Nat → Bool) : Nat → Nat → Int32
  | 0, _ => -5
  | r + 1, k => if P k then nI k else fstT P r (k + 1)
theorem cnt_t {P : Nat → Bool} {k : Nat} (h : P k = true) : cntT P (k + 1) = cntT P k + 1 := by simp [cntT, h]
theorem cnt_f {P : Nat → Bool} {k : Nat} (h : P k = false) : cntT P (k + 1) = cntT P k := by simp [cntT, h]
theorem sum_t {f : Nat → Int32} {k : Nat} {x : Int32} (h : f k = x) : sumT f (k + 1) = sumT f k + x := by simp [sumT, h]
theorem sum_0 {f : Nat → Int32} {k : Nat} (h : f k = 0) : sumT f (k + 1) = sumT f k := by simp [sumT, h]
theorem fst_t {P : Nat → Bool} {n k : Nat} (hk : k < n) (h : P k = true) : fstT P (n - k) k = nI k := by
  rw [show n - k = (n - (k + 1)) + 1 by omega]
  simp [fstT, h]
theorem fst_f {P : Nat → Bool} {n k : Nat} (hk : k < n) (h : P k = false) : fstT P (n - k) k = fstT P (n - (k + 1)) (k + 1) := by
  rw [show n - k = (n - (k + 1)) + 1 by omega]
  simp [fstT, h]
theorem fst_0 {P : Nat → Bool} {n : Nat} : fstT P (n - n) n = -5 := by simp [fstT]
theorem until_t {w b x : UInt32} {n k : Nat} (hk : k < n) (h : ¬ 0 ≤ Op.cmpValue (FP.fcmp x b) .g) : untilB w b (n - k) k x = nI k := by
  rw [show n - k = (n - (k + 1)) + 1 by omega]
  simp [untilB, h]
theorem until_f {w b x : UInt32} {n k : Nat} (hk : k < n) (h : 0 ≤ Op.cmpValue (FP.fcmp x b) .g) : untilB w b (n - k) k x = untilB w b (n - (k + 1)) (k + 1) (wornF w x) := by
  rw [show n - k = (n - (k + 1)) + 1 by omega]
  simp [untilB, h]
theorem until_0 {w b x : UInt32} {n : Nat} : untilB w b (n - n) n x = -5 := by simp [untilB]
theorem k_ge {x : Int32} {n : Nat} (h : x = nI n) : x ≤ nI n := by
  rw [h]
  exact Int32.le_refl _
theorem k_lt {x : Int32} {n k : Nat} (h : x = nI n) (hk : k < n) (hb : n < 2 ^ 31) : ¬ x ≤ nI k := by
  rw [h]
  exact nI_ge hk hb

set_option maxRecDepth 4000 in
theorem sp_hoursUntil {σ : pT} {I : pI} {F : pF} {q : Nat} {b : UInt32} (h : (σ.2.1 q).1 = 0 + 1) : PE yX0_hoursUntilBelow cX0_hoursUntilBelow mX0_hoursUntilBelow [.ref q, .float b] σ I F (some (.int (untilB (F q 1) b 201 0 (F q 2)))) I F := by
  refine PE.of oP_X0_hoursUntilBelow (catOK rfl) (Nat.le_of_ble_eq_true rfl) ?_
  show PW _ _ _ 0 [.ref q, .float b, pJ, pJ] [] _ _ _ _
  have L7 : ∀ k, k ≤ 201 → ∀ x : UInt32, untilB (F q 1) b (201 - k) k x = untilB (F q 1) b 201 0 (F q 2) → PW cX0_hoursUntilBelow mX0_hoursUntilBelow (fM (qE (some (.int (untilB (F q 1) b 201 0 (F q 2)))) σ I F)) 7 [.ref q, .float b, .float x, .int (nI k)] [] σ I F (0, 0) := by
    refine dn (fun k => ∀ x : UInt32, untilB (F q 1) b (201 - k) k x = untilB (F q 1) b 201 0 (F q 2) → PW cX0_hoursUntilBelow mX0_hoursUntilBelow (fM (qE (some (.int (untilB (F q 1) b 201 0 (F q 2)))) σ I F)) 7 [.ref q, .float b, .float x, .int (nI k)] [] σ I F (0, 0)) 201 ?_ ?_
    · intro x hx
      refine pw_iload_n dX0_hoursUntilBelow_7 rfl rfl ?_
      refine pw_sipush (v := 200) dX0_hoursUntilBelow_8 (by decide) ?_
      refine pw_icmp_gt (tgt := 34) dX0_hoursUntilBelow_11 (by decide) (fun c_11 => ?_) (fun c_11 => absurd (by decide) c_11)
      refine pw_bipush (v := (-5)) dX0_hoursUntilBelow_34 (by decide) ?_
      exact pw_iret dX0_hoursUntilBelow_36 rfl ⟨by rw [until_0] at hx; rw [← hx], rfl, rfl, rfl⟩
    · intro k hk ih
      intro x hx
      refine pw_iload_n dX0_hoursUntilBelow_7 rfl rfl ?_
      refine pw_sipush (v := 200) dX0_hoursUntilBelow_8 (by decide) ?_
      refine pw_icmp_gt (tgt := 34) dX0_hoursUntilBelow_11 (by decide) (fun c_11 => absurd c_11 (nI_nlt (a := 200) (by omega) (by omega))) (fun c_11 => ?_)
      refine pw_fload_n dX0_hoursUntilBelow_14 rfl rfl ?_
      refine pw_fload_n dX0_hoursUntilBelow_15 rfl rfl ?_
      refine pw_fcmp dX0_hoursUntilBelow_16 ?_
      refine pw_if_ge (tgt := 22) dX0_hoursUntilBelow_17 (by decide) (fun c_17 => ?_) (fun c_17 => ?_)
      · refine pw_aload_n dX0_hoursUntilBelow_22 rfl rfl ?_
        refine pw_fload_n dX0_hoursUntilBelow_23 rfl rfl ?_
        refine pe_callVf dX0_hoursUntilBelow_24 oX_X0_afterAnHour lk_RX0_33 (sp_afterAnHour h) h rfl rfl (Nat.le_of_ble_eq_true rfl) (by decide) ?_
        refine pw_fstore_n dX0_hoursUntilBelow_27 rfl (by decide) rfl ?_
        refine pw_iinc (v := nI (k + 1)) dX0_hoursUntilBelow_28 rfl (nI_add _ _) rfl ?_
        refine pw_goto (tgt := 7) dX0_hoursUntilBelow_31 (by decide) ?_
        exact ih _ (by rw [until_f hk c_17] at hx; exact hx)
      · refine pw_iload_n dX0_hoursUntilBelow_20 rfl rfl ?_
        exact pw_iret dX0_hoursUntilBelow_21 rfl ⟨by rw [until_t hk c_17] at hx; rw [← hx], rfl, rfl, rfl⟩
  refine pw_aload_n dX0_hoursUntilBelow_0 rfl rfl ?_
  refine pw_getF dX0_hoursUntilBelow_1 fd_RX0_19 (by decide) h rfl ?_
  refine pw_fstore_n dX0_hoursUntilBelow_4 rfl (by decide) rfl ?_
  refine pw_iconst (v := 0) dX0_hoursUntilBelow_5 (by decide) ?_
  refine pw_istore_n dX0_hoursUntilBelow_6 rfl (by decide) rfl ?_
  exact L7 0 (Nat.zero_le _) _ rfl

set_option maxRecDepth 4000 in
theorem sp_tasksOfAsset {σ : pT} {I : pI} {F : pF} {p n : Nat} {a f l : Int32} (h : isPl σ p) (hn : I p 6 = nI n) (hn4 : n ≤ 24)  : PE yX5_tasksOfAsset cX5_tasksOfAsset mX5_tasksOfAsset [.ref p, .int a, .int f, .int l] σ I F (some (.int (nI (cntT (fun t => decide (I (p + 18 + t) 0 = a) && decide (f ≤ I (p + 18 + t) 7 ∧ I (p + 18 + t) 7 ≤ l)) n)))) I F := by
  refine PE.of oP_X5_tasksOfAsset (catOK rfl) (Nat.le_of_ble_eq_true rfl) ?_
  show PW _ _ _ 0 [.ref p, .int a, .int f, .int l, pJ, pJ] [] _ _ _ _
  have L6 : ∀ k, k ≤ n → PW cX5_tasksOfAsset mX5_tasksOfAsset (fM (qE (some (.int (nI (cntT (fun t => decide (I (p + 18 + t) 0 = a) && decide (f ≤ I (p + 18 + t) 7 ∧ I (p + 18 + t) 7 ≤ l)) n)))) σ I F)) 6 [.ref p, .int a, .int f, .int l, .int (nI (cntT (fun t => decide (I (p + 18 + t) 0 = a) && decide (f ≤ I (p + 18 + t) 7 ∧ I (p + 18 + t) 7 ≤ l)) k)), .int (nI k)] [] σ I F (0, 0) := by
    refine dn (fun k => PW cX5_tasksOfAsset mX5_tasksOfAsset (fM (qE (some (.int (nI (cntT (fun t => decide (I (p + 18 + t) 0 = a) && decide (f ≤ I (p + 18 + t) 7 ∧ I (p + 18 + t) 7 ≤ l)) n)))) σ I F)) 6 [.ref p, .int a, .int f, .int l, .int (nI (cntT (fun t => decide (I (p + 18 + t) 0 = a) && decide (f ≤ I (p + 18 + t) 7 ∧ I (p + 18 + t) 7 ≤ l)) k)), .int (nI k)] [] σ I F (0, 0)) n ?_ ?_
    · skip
      refine pw_iload dX5_tasksOfAsset_6 rfl ?_
      refine pw_aload_n dX5_tasksOfAsset_8 rfl rfl ?_
      refine pw_getI dX5_tasksOfAsset_9 fd_RX5_40 (by decide) (pl_k h) rfl ?_
      refine pw_icmp_ge (tgt := 53) dX5_tasksOfAsset_12 (by decide) (fun c_12 => ?_) (fun c_12 => absurd (k_ge hn) c_12)
      refine pw_iload dX5_tasksOfAsset_53 rfl ?_
      exact pw_iret dX5_tasksOfAsset_55 rfl ⟨rfl, rfl, rfl, rfl⟩
    · intro k hk ih
      refine pw_iload dX5_tasksOfAsset_6 rfl ?_
      refine pw_aload_n dX5_tasksOfAsset_8 rfl rfl ?_
      refine pw_getI dX5_tasksOfAsset_9 fd_RX5_40 (by decide) (pl_k h) rfl ?_
      refine pw_icmp_ge (tgt := 53) dX5_tasksOfAsset_12 (by decide) (fun c_12 => absurd c_12 (k_lt hn hk (by omega))) (fun c_12 => ?_)
      refine pw_aload_n dX5_tasksOfAsset_15 rfl rfl ?_
      refine pw_getR (x := (p + 3)) dX5_tasksOfAsset_16 fd_RX5_25 (by decide) (pl_k h) rfl (pl_rT h) ?_
      refine pw_iload dX5_tasksOfAsset_19 rfl ?_
      refine pw_aaldN (j := k) (x := (p + 18 + k)) dX5_tasksOfAsset_21 (pl_kT h) (by omega) (by decide) (by decide) (pl_eT h (by omega)) ?_
      refine pw_getI dX5_tasksOfAsset_22 fd_RX5_111 (by decide) (pl_oT h (by omega)) rfl ?_
      refine pw_iload_n dX5_tasksOfAsset_25 rfl rfl ?_
      refine pw_icmp_ne (tgt := 47) dX5_tasksOfAsset_26 (by decide) (fun c_26 => ?_) (fun c_26 => ?_)
      · refine pw_iinc (v := nI (k + 1)) dX5_tasksOfAsset_47 rfl (nI_add _ _) rfl ?_
        refine pw_goto (tgt := 6) dX5_tasksOfAsset_50 (by decide) ?_
        have hP : (fun t => decide (I (p + 18 + t) 0 = a) && decide (f ≤ I (p + 18 + t) 7 ∧ I (p + 18 + t) 7 ≤ l)) k = false := by simp [c_26]
        rw [cnt_f hP] at ih
        exact ih
      · refine pw_aload_n dX5_tasksOfAsset_29 rfl rfl ?_
        refine pw_getR (x := (p + 3)) dX5_tasksOfAsset_30 fd_RX5_25 (by decide) (pl_k h) rfl (pl_rT h) ?_
        refine pw_iload dX5_tasksOfAsset_33 rfl ?_
        refine pw_aaldN (j := k) (x := (p + 18 + k)) dX5_tasksOfAsset_35 (pl_kT h) (by omega) (by decide) (by decide) (pl_eT h (by omega)) ?_
        refine pw_iload_n dX5_tasksOfAsset_36 rfl rfl ?_
        refine pw_iload_n dX5_tasksOfAsset_37 rfl rfl ?_
        refine pe_callVi dX5_tasksOfAsset_38 oX_X6_isIn lk_RX5_162 (sp_T_isIn (pl_oT h (by omega))) (pl_oT h (by omega)) rfl rfl (Nat.le_of_ble_eq_true rfl) (by decide) ?_
        refine pw_ifB_eq (tgt := 47) dX5_tasksOfAsset_41 (by decide) (fun c_41 => ?_) (fun c_41 => ?_)
        · refine pw_iinc (v := nI (k + 1)) dX5_tasksOfAsset_47 rfl (nI_add _ _) rfl ?_
          refine pw_goto (tgt := 6) dX5_tasksOfAsset_50 (by decide) ?_
          have hP : (fun t => decide (I (p + 18 + t) 0 = a) && decide (f ≤ I (p + 18 + t) 7 ∧ I (p + 18 + t) 7 ≤ l)) k = false := by simp [c_26, c_41]
          rw [cnt_f hP] at ih
          exact ih
        · refine pw_iinc (v := nI ((cntT (fun t => decide (I (p + 18 + t) 0 = a) && decide (f ≤ I (p + 18 + t) 7 ∧ I (p + 18 + t) 7 ≤ l)) k) + 1)) dX5_tasksOfAsset_44 rfl (nI_add _ _) rfl ?_
          refine pw_iinc (v := nI (k + 1)) dX5_tasksOfAsset_47 rfl (nI_add _ _) rfl ?_
          refine pw_goto (tgt := 6) dX5_tasksOfAsset_50 (by decide) ?_
          have hP : (fun t => decide (I (p + 18 + t) 0 = a) && decide (f ≤ I (p + 18 + t) 7 ∧ I (p + 18 + t) 7 ≤ l)) k = true := by simp [c_26, c_41]
          rw [cnt_t hP] at ih
          exact ih
  refine pw_iconst (v := 0) dX5_tasksOfAsset_0 (by decide) ?_
  refine pw_istore dX5_tasksOfAsset_1 (by decide) rfl ?_
  refine pw_iconst (v := 0) dX5_tasksOfAsset_3 (by decide) ?_
  refine pw_istore dX5_tasksOfAsset_4 (by decide) rfl ?_
  exact L6 0 (Nat.zero_le _)

set_option maxRecDepth 4000 in
theorem sp_tasksOfCrew {σ : pT} {I : pI} {F : pF} {p n : Nat} {a f l : Int32} (h : isPl σ p) (hn : I p 6 = nI n) (hn4 : n ≤ 24)  : PE yX5_tasksOfCrew cX5_tasksOfCrew mX5_tasksOfCrew [.ref p, .int a, .int f, .int l] σ I F (some (.int (nI (cntT (fun t => decide (I (p + 18 + t) 8 = a) && decide (f ≤ I (p + 18 + t) 7 ∧ I (p + 18 + t) 7 ≤ l)) n)))) I F := by
  refine PE.of oP_X5_tasksOfCrew (catOK rfl) (Nat.le_of_ble_eq_true rfl) ?_
  show PW _ _ _ 0 [.ref p, .int a, .int f, .int l, pJ, pJ] [] _ _ _ _
  have L6 : ∀ k, k ≤ n → PW cX5_tasksOfCrew mX5_tasksOfCrew (fM (qE (some (.int (nI (cntT (fun t => decide (I (p + 18 + t) 8 = a) && decide (f ≤ I (p + 18 + t) 7 ∧ I (p + 18 + t) 7 ≤ l)) n)))) σ I F)) 6 [.ref p, .int a, .int f, .int l, .int (nI (cntT (fun t => decide (I (p + 18 + t) 8 = a) && decide (f ≤ I (p + 18 + t) 7 ∧ I (p + 18 + t) 7 ≤ l)) k)), .int (nI k)] [] σ I F (0, 0) := by
    refine dn (fun k => PW cX5_tasksOfCrew mX5_tasksOfCrew (fM (qE (some (.int (nI (cntT (fun t => decide (I (p + 18 + t) 8 = a) && decide (f ≤ I (p + 18 + t) 7 ∧ I (p + 18 + t) 7 ≤ l)) n)))) σ I F)) 6 [.ref p, .int a, .int f, .int l, .int (nI (cntT (fun t => decide (I (p + 18 + t) 8 = a) && decide (f ≤ I (p + 18 + t) 7 ∧ I (p + 18 + t) 7 ≤ l)) k)), .int (nI k)] [] σ I F (0, 0)) n ?_ ?_
    · skip
      refine pw_iload dX5_tasksOfCrew_6 rfl ?_
      refine pw_aload_n dX5_tasksOfCrew_8 rfl rfl ?_
      refine pw_getI dX5_tasksOfCrew_9 fd_RX5_40 (by decide) (pl_k h) rfl ?_
      refine pw_icmp_ge (tgt := 53) dX5_tasksOfCrew_12 (by decide) (fun c_12 => ?_) (fun c_12 => absurd (k_ge hn) c_12)
      refine pw_iload dX5_tasksOfCrew_53 rfl ?_
      exact pw_iret dX5_tasksOfCrew_55 rfl ⟨rfl, rfl, rfl, rfl⟩
    · intro k hk ih
      refine pw_iload dX5_tasksOfCrew_6 rfl ?_
      refine pw_aload_n dX5_tasksOfCrew_8 rfl rfl ?_
      refine pw_getI dX5_tasksOfCrew_9 fd_RX5_40 (by decide) (pl_k h) rfl ?_
      refine pw_icmp_ge (tgt := 53) dX5_tasksOfCrew_12 (by decide) (fun c_12 => absurd c_12 (k_lt hn hk (by omega))) (fun c_12 => ?_)
      refine pw_aload_n dX5_tasksOfCrew_15 rfl rfl ?_
      refine pw_getR (x := (p + 3)) dX5_tasksOfCrew_16 fd_RX5_25 (by decide) (pl_k h) rfl (pl_rT h) ?_
      refine pw_iload dX5_tasksOfCrew_19 rfl ?_
      refine pw_aaldN (j := k) (x := (p + 18 + k)) dX5_tasksOfCrew_21 (pl_kT h) (by omega) (by decide) (by decide) (pl_eT h (by omega)) ?_
      refine pw_getI dX5_tasksOfCrew_22 fd_RX5_124 (by decide) (pl_oT h (by omega)) rfl ?_
      refine pw_iload_n dX5_tasksOfCrew_25 rfl rfl ?_
      refine pw_icmp_ne (tgt := 47) dX5_tasksOfCrew_26 (by decide) (fun c_26 => ?_) (fun c_26 => ?_)
      · refine pw_iinc (v := nI (k + 1)) dX5_tasksOfCrew_47 rfl (nI_add _ _) rfl ?_
        refine pw_goto (tgt := 6) dX5_tasksOfCrew_50 (by decide) ?_
        have hP : (fun t => decide (I (p + 18 + t) 8 = a) && decide (f ≤ I (p + 18 + t) 7 ∧ I (p + 18 + t) 7 ≤ l)) k = false := by simp [c_26]
        rw [cnt_f hP] at ih
        exact ih
      · refine pw_aload_n dX5_tasksOfCrew_29 rfl rfl ?_
        refine pw_getR (x := (p + 3)) dX5_tasksOfCrew_30 fd_RX5_25 (by decide) (pl_k h) rfl (pl_rT h) ?_
        refine pw_iload dX5_tasksOfCrew_33 rfl ?_
        refine pw_aaldN (j := k) (x := (p + 18 + k)) dX5_tasksOfCrew_35 (pl_kT h) (by omega) (by decide) (by decide) (pl_eT h (by omega)) ?_
        refine pw_iload_n dX5_tasksOfCrew_36 rfl rfl ?_
        refine pw_iload_n dX5_tasksOfCrew_37 rfl rfl ?_
        refine pe_callVi dX5_tasksOfCrew_38 oX_X6_isIn lk_RX5_162 (sp_T_isIn (pl_oT h (by omega))) (pl_oT h (by omega)) rfl rfl (Nat.le_of_ble_eq_true rfl) (by decide) ?_
        refine pw_ifB_eq (tgt := 47) dX5_tasksOfCrew_41 (by decide) (fun c_41 => ?_) (fun c_41 => ?_)
        · refine pw_iinc (v := nI (k + 1)) dX5_tasksOfCrew_47 rfl (nI_add _ _) rfl ?_
          refine pw_goto (tgt := 6) dX5_tasksOfCrew_50 (by decide) ?_
          have hP : (fun t => decide (I (p + 18 + t) 8 = a) && decide (f ≤ I (p + 18 + t) 7 ∧ I (p + 18 + t) 7 ≤ l)) k = false := by simp [c_26, c_41]
          rw [cnt_f hP] at ih
          exact ih
        · refine pw_iinc (v := nI ((cntT (fun t => decide (I (p + 18 + t) 8 = a) && decide (f ≤ I (p + 18 + t) 7 ∧ I (p + 18 + t) 7 ≤ l)) k) + 1)) dX5_tasksOfCrew_44 rfl (nI_add _ _) rfl ?_
          refine pw_iinc (v := nI (k + 1)) dX5_tasksOfCrew_47 rfl (nI_add _ _) rfl ?_
          refine pw_goto (tgt := 6) dX5_tasksOfCrew_50 (by decide) ?_
          have hP : (fun t => decide (I (p + 18 + t) 8 = a) && decide (f ≤ I (p + 18 + t) 7 ∧ I (p + 18 + t) 7 ≤ l)) k = true := by simp [c_26, c_41]
          rw [cnt_t hP] at ih
          exact ih
  refine pw_iconst (v := 0) dX5_tasksOfCrew_0 (by decide) ?_
  refine pw_istore dX5_tasksOfCrew_1 (by decide) rfl ?_
  refine pw_iconst (v := 0) dX5_tasksOfCrew_3 (by decide) ?_
  refine pw_istore dX5_tasksOfCrew_4 (by decide) rfl ?_
  exact L6 0 (Nat.zero_le _)

set_option maxRecDepth 4000 in
theorem sp_tasksIn {σ : pT} {I : pI} {F : pF} {p n : Nat} {f l : Int32} (h : isPl σ p) (hn : I p 6 = nI n) (hn4 : n ≤ 24)  : PE yX5_tasksIn cX5_tasksIn mX5_tasksIn [.ref p, .int f, .int l] σ I F (some (.int (nI (cntT (fun t => decide (f ≤ I (p + 18 + t) 7 ∧ I (p + 18 + t) 7 ≤ l)) n)))) I F := by
  refine PE.of oP_X5_tasksIn (catOK rfl) (Nat.le_of_ble_eq_true rfl) ?_
  show PW _ _ _ 0 [.ref p, .int f, .int l, pJ, pJ] [] _ _ _ _
  have L5 : ∀ k, k ≤ n → PW cX5_tasksIn mX5_tasksIn (fM (qE (some (.int (nI (cntT (fun t => decide (f ≤ I (p + 18 + t) 7 ∧ I (p + 18 + t) 7 ≤ l)) n)))) σ I F)) 5 [.ref p, .int f, .int l, .int (nI (cntT (fun t => decide (f ≤ I (p + 18 + t) 7 ∧ I (p + 18 + t) 7 ≤ l)) k)), .int (nI k)] [] σ I F (0, 0) := by
    refine dn (fun k => PW cX5_tasksIn mX5_tasksIn (fM (qE (some (.int (nI (cntT (fun t => decide (f ≤ I (p + 18 + t) 7 ∧ I (p + 18 + t) 7 ≤ l)) n)))) σ I F)) 5 [.ref p, .int f, .int l, .int (nI (cntT (fun t => decide (f ≤ I (p + 18 + t) 7 ∧ I (p + 18 + t) 7 ≤ l)) k)), .int (nI k)] [] σ I F (0, 0)) n ?_ ?_
    · skip
      refine pw_iload dX5_tasksIn_5 rfl ?_
      refine pw_aload_n dX5_tasksIn_7 rfl rfl ?_
      refine pw_getI dX5_tasksIn_8 fd_RX5_40 (by decide) (pl_k h) rfl ?_
      refine pw_icmp_ge (tgt := 38) dX5_tasksIn_11 (by decide) (fun c_11 => ?_) (fun c_11 => absurd (k_ge hn) c_11)
      refine pw_iload_n dX5_tasksIn_38 rfl rfl ?_
      exact pw_iret dX5_tasksIn_39 rfl ⟨rfl, rfl, rfl, rfl⟩
    · intro k hk ih
      refine pw_iload dX5_tasksIn_5 rfl ?_
      refine pw_aload_n dX5_tasksIn_7 rfl rfl ?_
      refine pw_getI dX5_tasksIn_8 fd_RX5_40 (by decide) (pl_k h) rfl ?_
      refine pw_icmp_ge (tgt := 38) dX5_tasksIn_11 (by decide) (fun c_11 => absurd c_11 (k_lt hn hk (by omega))) (fun c_11 => ?_)
      refine pw_aload_n dX5_tasksIn_14 rfl rfl ?_
      refine pw_getR (x := (p + 3)) dX5_tasksIn_15 fd_RX5_25 (by decide) (pl_k h) rfl (pl_rT h) ?_
      refine pw_iload dX5_tasksIn_18 rfl ?_
      refine pw_aaldN (j := k) (x := (p + 18 + k)) dX5_tasksIn_20 (pl_kT h) (by omega) (by decide) (by decide) (pl_eT h (by omega)) ?_
      refine pw_iload_n dX5_tasksIn_21 rfl rfl ?_
      refine pw_iload_n dX5_tasksIn_22 rfl rfl ?_
      refine pe_callVi dX5_tasksIn_23 oX_X6_isIn lk_RX5_162 (sp_T_isIn (pl_oT h (by omega))) (pl_oT h (by omega)) rfl rfl (Nat.le_of_ble_eq_true rfl) (by decide) ?_
      refine pw_ifB_eq (tgt := 32) dX5_tasksIn_26 (by decide) (fun c_26 => ?_) (fun c_26 => ?_)
      · refine pw_iinc (v := nI (k + 1)) dX5_tasksIn_32 rfl (nI_add _ _) rfl ?_
        refine pw_goto (tgt := 5) dX5_tasksIn_35 (by decide) ?_
        have hP : (fun t => decide (f ≤ I (p + 18 + t) 7 ∧ I (p + 18 + t) 7 ≤ l)) k = false := by simp [c_26]
        rw [cnt_f hP] at ih
        exact ih
      · refine pw_iinc (v := nI ((cntT (fun t => decide (f ≤ I (p + 18 + t) 7 ∧ I (p + 18 + t) 7 ≤ l)) k) + 1)) dX5_tasksIn_29 rfl (nI_add _ _) rfl ?_
        refine pw_iinc (v := nI (k + 1)) dX5_tasksIn_32 rfl (nI_add _ _) rfl ?_
        refine pw_goto (tgt := 5) dX5_tasksIn_35 (by decide) ?_
        have hP : (fun t => decide (f ≤ I (p + 18 + t) 7 ∧ I (p + 18 + t) 7 ≤ l)) k = true := by simp [c_26]
        rw [cnt_t hP] at ih
        exact ih
  refine pw_iconst (v := 0) dX5_tasksIn_0 (by decide) ?_
  refine pw_istore_n dX5_tasksIn_1 rfl (by decide) rfl ?_
  refine pw_iconst (v := 0) dX5_tasksIn_2 (by decide) ?_
  refine pw_istore dX5_tasksIn_3 (by decide) rfl ?_
  exact L5 0 (Nat.zero_le _)

set_option maxRecDepth 4000 in
theorem sp_assetsRunning {σ : pT} {I : pI} {F : pF} {p n : Nat} (h : isPl σ p) (hn : I p 4 = nI n) (hn8 : n ≤ 8) : PE yX5_assetsRunning cX5_assetsRunning mX5_assetsRunning [.ref p] σ I F (some (.int (nI (cntT (fun a => decide (¬ I (p + 5 + a) 4 = 0)) n)))) I F := by
  refine PE.of oP_X5_assetsRunning (catOK rfl) (Nat.le_of_ble_eq_true rfl) ?_
  show PW _ _ _ 0 [.ref p, pJ, pJ] [] _ _ _ _
  have L4 : ∀ k, k ≤ n → PW cX5_assetsRunning mX5_assetsRunning (fM (qE (some (.int (nI (cntT (fun a => decide (¬ I (p + 5 + a) 4 = 0)) n)))) σ I F)) 4 [.ref p, .int (nI (cntT (fun a => decide (¬ I (p + 5 + a) 4 = 0)) k)), .int (nI k)] [] σ I F (0, 0) := by
    refine dn (fun k => PW cX5_assetsRunning mX5_assetsRunning (fM (qE (some (.int (nI (cntT (fun a => decide (¬ I (p + 5 + a) 4 = 0)) n)))) σ I F)) 4 [.ref p, .int (nI (cntT (fun a => decide (¬ I (p + 5 + a) 4 = 0)) k)), .int (nI k)] [] σ I F (0, 0)) n ?_ ?_
    · skip
      refine pw_iload_n dX5_assetsRunning_4 rfl rfl ?_
      refine pw_aload_n dX5_assetsRunning_5 rfl rfl ?_
      refine pw_getI dX5_assetsRunning_6 fd_RX5_33 (by decide) (pl_k h) rfl ?_
      refine pw_icmp_ge (tgt := 33) dX5_assetsRunning_9 (by decide) (fun c_9 => ?_) (fun c_9 => absurd (k_ge hn) c_9)
      refine pw_iload_n dX5_assetsRunning_33 rfl rfl ?_
      exact pw_iret dX5_assetsRunning_34 rfl ⟨rfl, rfl, rfl, rfl⟩
    · intro k hk ih
      refine pw_iload_n dX5_assetsRunning_4 rfl rfl ?_
      refine pw_aload_n dX5_assetsRunning_5 rfl rfl ?_
      refine pw_getI dX5_assetsRunning_6 fd_RX5_33 (by decide) (pl_k h) rfl ?_
      refine pw_icmp_ge (tgt := 33) dX5_assetsRunning_9 (by decide) (fun c_9 => absurd c_9 (k_lt hn hk (by omega))) (fun c_9 => ?_)
      refine pw_aload_n dX5_assetsRunning_12 rfl rfl ?_
      refine pw_getR (x := (p + 1)) dX5_assetsRunning_13 fd_RX5_11 (by decide) (pl_k h) rfl (pl_rA h) ?_
      refine pw_iload_n dX5_assetsRunning_16 rfl rfl ?_
      refine pw_aaldN (j := k) (x := (p + 5 + k)) dX5_assetsRunning_17 (pl_kA h) (by omega) (by decide) (by decide) (pl_eA h (by omega)) ?_
      refine pw_getI dX5_assetsRunning_18 fd_RX5_94 (by decide) (pl_oA h (by omega)) rfl ?_
      refine pw_if_eq (tgt := 27) dX5_assetsRunning_21 (by decide) (fun c_21 => ?_) (fun c_21 => ?_)
      · refine pw_iinc (v := nI (k + 1)) dX5_assetsRunning_27 rfl (nI_add _ _) rfl ?_
        refine pw_goto (tgt := 4) dX5_assetsRunning_30 (by decide) ?_
        have hP : (fun a => decide (¬ I (p + 5 + a) 4 = 0)) k = false := by simp [c_21]
        rw [cnt_f hP] at ih
        exact ih
      · refine pw_iinc (v := nI ((cntT (fun a => decide (¬ I (p + 5 + a) 4 = 0)) k) + 1)) dX5_assetsRunning_24 rfl (nI_add _ _) rfl ?_
        refine pw_iinc (v := nI (k + 1)) dX5_assetsRunning_27 rfl (nI_add _ _) rfl ?_
        refine pw_goto (tgt := 4) dX5_assetsRunning_30 (by decide) ?_
        have hP : (fun a => decide (¬ I (p + 5 + a) 4 = 0)) k = true := by simp [c_21]
        rw [cnt_t hP] at ih
        exact ih
  refine pw_iconst (v := 0) dX5_assetsRunning_0 (by decide) ?_
  refine pw_istore_n dX5_assetsRunning_1 rfl (by decide) rfl ?_
  refine pw_iconst (v := 0) dX5_assetsRunning_2 (by decide) ?_
  refine pw_istore_n dX5_assetsRunning_3 rfl (by decide) rfl ?_
  exact L4 0 (Nat.zero_le _)

set_option maxRecDepth 4000 in
theorem sp_busyPeople {σ : pT} {I : pI} {F : pF} {p n : Nat} {a : Int32} (h : isPl σ p) (hn : I p 6 = nI n) (hn4 : n ≤ 24)  : PE yX5_busyPeople cX5_busyPeople mX5_busyPeople [.ref p, .int a] σ I F (some (.int (sumT (fun t => if (decide (I (p + 18 + t) 8 = a) && decide (1 ≤ I (p + 18 + t) 7 ∧ I (p + 18 + t) 7 ≤ 3)) = true then I (p + 18 + t) 2 else 0) n))) I F := by
  refine PE.of oP_X5_busyPeople (catOK rfl) (Nat.le_of_ble_eq_true rfl) ?_
  show PW _ _ _ 0 [.ref p, .int a, pJ, pJ] [] _ _ _ _
  have L4 : ∀ k, k ≤ n → PW cX5_busyPeople mX5_busyPeople (fM (qE (some (.int (sumT (fun t => if (decide (I (p + 18 + t) 8 = a) && decide (1 ≤ I (p + 18 + t) 7 ∧ I (p + 18 + t) 7 ≤ 3)) = true then I (p + 18 + t) 2 else 0) n))) σ I F)) 4 [.ref p, .int a, .int (sumT (fun t => if (decide (I (p + 18 + t) 8 = a) && decide (1 ≤ I (p + 18 + t) 7 ∧ I (p + 18 + t) 7 ≤ 3)) = true then I (p + 18 + t) 2 else 0) k), .int (nI k)] [] σ I F (0, 0) := by
    refine dn (fun k => PW cX5_busyPeople mX5_busyPeople (fM (qE (some (.int (sumT (fun t => if (decide (I (p + 18 + t) 8 = a) && decide (1 ≤ I (p + 18 + t) 7 ∧ I (p + 18 + t) 7 ≤ 3)) = true then I (p + 18 + t) 2 else 0) n))) σ I F)) 4 [.ref p, .int a, .int (sumT (fun t => if (decide (I (p + 18 + t) 8 = a) && decide (1 ≤ I (p + 18 + t) 7 ∧ I (p + 18 + t) 7 ≤ 3)) = true then I (p + 18 + t) 2 else 0) k), .int (nI k)] [] σ I F (0, 0)) n ?_ ?_
    · skip
      refine pw_iload_n dX5_busyPeople_4 rfl rfl ?_
      refine pw_aload_n dX5_busyPeople_5 rfl rfl ?_
      refine pw_getI dX5_busyPeople_6 fd_RX5_40 (by decide) (pl_k h) rfl ?_
      refine pw_icmp_ge (tgt := 55) dX5_busyPeople_9 (by decide) (fun c_9 => ?_) (fun c_9 => absurd (k_ge hn) c_9)
      refine pw_iload_n dX5_busyPeople_55 rfl rfl ?_
      exact pw_iret dX5_busyPeople_56 rfl ⟨rfl, rfl, rfl, rfl⟩
    · intro k hk ih
      refine pw_iload_n dX5_busyPeople_4 rfl rfl ?_
      refine pw_aload_n dX5_busyPeople_5 rfl rfl ?_
      refine pw_getI dX5_busyPeople_6 fd_RX5_40 (by decide) (pl_k h) rfl ?_
      refine pw_icmp_ge (tgt := 55) dX5_busyPeople_9 (by decide) (fun c_9 => absurd c_9 (k_lt hn hk (by omega))) (fun c_9 => ?_)
      refine pw_aload_n dX5_busyPeople_12 rfl rfl ?_
      refine pw_getR (x := (p + 3)) dX5_busyPeople_13 fd_RX5_25 (by decide) (pl_k h) rfl (pl_rT h) ?_
      refine pw_iload_n dX5_busyPeople_16 rfl rfl ?_
      refine pw_aaldN (j := k) (x := (p + 18 + k)) dX5_busyPeople_17 (pl_kT h) (by omega) (by decide) (by decide) (pl_eT h (by omega)) ?_
      refine pw_getI dX5_busyPeople_18 fd_RX5_124 (by decide) (pl_oT h (by omega)) rfl ?_
      refine pw_iload_n dX5_busyPeople_21 rfl rfl ?_
      refine pw_icmp_ne (tgt := 49) dX5_busyPeople_22 (by decide) (fun c_22 => ?_) (fun c_22 => ?_)
      · refine pw_iinc (v := nI (k + 1)) dX5_busyPeople_49 rfl (nI_add _ _) rfl ?_
        refine pw_goto (tgt := 4) dX5_busyPeople_52 (by decide) ?_
        have hP : (fun t => if (decide (I (p + 18 + t) 8 = a) && decide (1 ≤ I (p + 18 + t) 7 ∧ I (p + 18 + t) 7 ≤ 3)) = true then I (p + 18 + t) 2 else 0) k = 0 := by simp [c_22]
        rw [sum_0 hP] at ih
        exact ih
      · refine pw_aload_n dX5_busyPeople_25 rfl rfl ?_
        refine pw_getR (x := (p + 3)) dX5_busyPeople_26 fd_RX5_25 (by decide) (pl_k h) rfl (pl_rT h) ?_
        refine pw_iload_n dX5_busyPeople_29 rfl rfl ?_
        refine pw_aaldN (j := k) (x := (p + 18 + k)) dX5_busyPeople_30 (pl_kT h) (by omega) (by decide) (by decide) (pl_eT h (by omega)) ?_
        refine pe_callVi dX5_busyPeople_31 oX_X6_tagHangs lk_RX5_200 (sp_T_tagHangs (pl_oT h (by omega))) (pl_oT h (by omega)) rfl rfl (Nat.le_of_ble_eq_true rfl) (by decide) ?_
        refine pw_ifB_eq (tgt := 49) dX5_busyPeople_34 (by decide) (fun c_34 => ?_) (fun c_34 => ?_)
        · refine pw_iinc (v := nI (k + 1)) dX5_busyPeople_49 rfl (nI_add _ _) rfl ?_
          refine pw_goto (tgt := 4) dX5_busyPeople_52 (by decide) ?_
          have hP : (fun t => if (decide (I (p + 18 + t) 8 = a) && decide (1 ≤ I (p + 18 + t) 7 ∧ I (p + 18 + t) 7 ≤ 3)) = true then I (p + 18 + t) 2 else 0) k = 0 := by simp [c_22, c_34]
          rw [sum_0 hP] at ih
          exact ih
        · refine pw_iload_n dX5_busyPeople_37 rfl rfl ?_
          refine pw_aload_n dX5_busyPeople_38 rfl rfl ?_
          refine pw_getR (x := (p + 3)) dX5_busyPeople_39 fd_RX5_25 (by decide) (pl_k h) rfl (pl_rT h) ?_
          refine pw_iload_n dX5_busyPeople_42 rfl rfl ?_
          refine pw_aaldN (j := k) (x := (p + 18 + k)) dX5_busyPeople_43 (pl_kT h) (by omega) (by decide) (by decide) (pl_eT h (by omega)) ?_
          refine pw_getI dX5_busyPeople_44 fd_RX5_195 (by decide) (pl_oT h (by omega)) rfl ?_
          refine pw_iadd dX5_busyPeople_47 ?_
          refine pw_istore_n dX5_busyPeople_48 rfl (by decide) rfl ?_
          refine pw_iinc (v := nI (k + 1)) dX5_busyPeople_49 rfl (nI_add _ _) rfl ?_
          refine pw_goto (tgt := 4) dX5_busyPeople_52 (by decide) ?_
          have hP : (fun t => if (decide (I (p + 18 + t) 8 = a) && decide (1 ≤ I (p + 18 + t) 7 ∧ I (p + 18 + t) 7 ≤ 3)) = true then I (p + 18 + t) 2 else 0) k = I (p + 18 + k) 2 := by simp [c_22, c_34]
          rw [sum_t hP] at ih
          exact ih
  refine pw_iconst (v := 0) dX5_busyPeople_0 (by decide) ?_
  refine pw_istore_n dX5_busyPeople_1 rfl (by decide) rfl ?_
  refine pw_iconst (v := 0) dX5_busyPeople_2 (by decide) ?_
  refine pw_istore_n dX5_busyPeople_3 rfl (by decide) rfl ?_
  exact L4 0 (Nat.zero_le _)

set_option maxRecDepth 4000 in
theorem sp_allBusyPeople {σ : pT} {I : pI} {F : pF} {p n : Nat} (h : isPl σ p) (hn : I p 6 = nI n) (hn4 : n ≤ 24)  : PE yX5_allBusyPeople cX5_allBusyPeople mX5_allBusyPeople [.ref p] σ I F (some (.int (sumT (fun t => if decide (1 ≤ I (p + 18 + t) 7 ∧ I (p + 18 + t) 7 ≤ 3) = true then I (p + 18 + t) 2 else 0) n))) I F := by
  refine PE.of oP_X5_allBusyPeople (catOK rfl) (Nat.le_of_ble_eq_true rfl) ?_
  show PW _ _ _ 0 [.ref p, pJ, pJ] [] _ _ _ _
  have L4 : ∀ k, k ≤ n → PW cX5_allBusyPeople mX5_allBusyPeople (fM (qE (some (.int (sumT (fun t => if decide (1 ≤ I (p + 18 + t) 7 ∧ I (p + 18 + t) 7 ≤ 3) = true then I (p + 18 + t) 2 else 0) n))) σ I F)) 4 [.ref p, .int (sumT (fun t => if decide (1 ≤ I (p + 18 + t) 7 ∧ I (p + 18 + t) 7 ≤ 3) = true then I (p + 18 + t) 2 else 0) k), .int (nI k)] [] σ I F (0, 0) := by
    refine dn (fun k => PW cX5_allBusyPeople mX5_allBusyPeople (fM (qE (some (.int (sumT (fun t => if decide (1 ≤ I (p + 18 + t) 7 ∧ I (p + 18 + t) 7 ≤ 3) = true then I (p + 18 + t) 2 else 0) n))) σ I F)) 4 [.ref p, .int (sumT (fun t => if decide (1 ≤ I (p + 18 + t) 7 ∧ I (p + 18 + t) 7 ≤ 3) = true then I (p + 18 + t) 2 else 0) k), .int (nI k)] [] σ I F (0, 0)) n ?_ ?_
    · skip
      refine pw_iload_n dX5_allBusyPeople_4 rfl rfl ?_
      refine pw_aload_n dX5_allBusyPeople_5 rfl rfl ?_
      refine pw_getI dX5_allBusyPeople_6 fd_RX5_40 (by decide) (pl_k h) rfl ?_
      refine pw_icmp_ge (tgt := 42) dX5_allBusyPeople_9 (by decide) (fun c_9 => ?_) (fun c_9 => absurd (k_ge hn) c_9)
      refine pw_iload_n dX5_allBusyPeople_42 rfl rfl ?_
      exact pw_iret dX5_allBusyPeople_43 rfl ⟨rfl, rfl, rfl, rfl⟩
    · intro k hk ih
      refine pw_iload_n dX5_allBusyPeople_4 rfl rfl ?_
      refine pw_aload_n dX5_allBusyPeople_5 rfl rfl ?_
      refine pw_getI dX5_allBusyPeople_6 fd_RX5_40 (by decide) (pl_k h) rfl ?_
      refine pw_icmp_ge (tgt := 42) dX5_allBusyPeople_9 (by decide) (fun c_9 => absurd c_9 (k_lt hn hk (by omega))) (fun c_9 => ?_)
      refine pw_aload_n dX5_allBusyPeople_12 rfl rfl ?_
      refine pw_getR (x := (p + 3)) dX5_allBusyPeople_13 fd_RX5_25 (by decide) (pl_k h) rfl (pl_rT h) ?_
      refine pw_iload_n dX5_allBusyPeople_16 rfl rfl ?_
      refine pw_aaldN (j := k) (x := (p + 18 + k)) dX5_allBusyPeople_17 (pl_kT h) (by omega) (by decide) (by decide) (pl_eT h (by omega)) ?_
      refine pe_callVi dX5_allBusyPeople_18 oX_X6_tagHangs lk_RX5_200 (sp_T_tagHangs (pl_oT h (by omega))) (pl_oT h (by omega)) rfl rfl (Nat.le_of_ble_eq_true rfl) (by decide) ?_
      refine pw_ifB_eq (tgt := 36) dX5_allBusyPeople_21 (by decide) (fun c_21 => ?_) (fun c_21 => ?_)
      · refine pw_iinc (v := nI (k + 1)) dX5_allBusyPeople_36 rfl (nI_add _ _) rfl ?_
        refine pw_goto (tgt := 4) dX5_allBusyPeople_39 (by decide) ?_
        have hP : (fun t => if decide (1 ≤ I (p + 18 + t) 7 ∧ I (p + 18 + t) 7 ≤ 3) = true then I (p + 18 + t) 2 else 0) k = 0 := by simp [c_21]
        rw [sum_0 hP] at ih
        exact ih
      · refine pw_iload_n dX5_allBusyPeople_24 rfl rfl ?_
        refine pw_aload_n dX5_allBusyPeople_25 rfl rfl ?_
        refine pw_getR (x := (p + 3)) dX5_allBusyPeople_26 fd_RX5_25 (by decide) (pl_k h) rfl (pl_rT h) ?_
        refine pw_iload_n dX5_allBusyPeople_29 rfl rfl ?_
        refine pw_aaldN (j := k) (x := (p + 18 + k)) dX5_allBusyPeople_30 (pl_kT h) (by omega) (by decide) (by decide) (pl_eT h (by omega)) ?_
        refine pw_getI dX5_allBusyPeople_31 fd_RX5_195 (by decide) (pl_oT h (by omega)) rfl ?_
        refine pw_iadd dX5_allBusyPeople_34 ?_
        refine pw_istore_n dX5_allBusyPeople_35 rfl (by decide) rfl ?_
        refine pw_iinc (v := nI (k + 1)) dX5_allBusyPeople_36 rfl (nI_add _ _) rfl ?_
        refine pw_goto (tgt := 4) dX5_allBusyPeople_39 (by decide) ?_
        have hP : (fun t => if decide (1 ≤ I (p + 18 + t) 7 ∧ I (p + 18 + t) 7 ≤ 3) = true then I (p + 18 + t) 2 else 0) k = I (p + 18 + k) 2 := by simp [c_21]
        rw [sum_t hP] at ih
        exact ih
  refine pw_iconst (v := 0) dX5_allBusyPeople_0 (by decide) ?_
  refine pw_istore_n dX5_allBusyPeople_1 rfl (by decide) rfl ?_
  refine pw_iconst (v := 0) dX5_allBusyPeople_2 (by decide) ?_
  refine pw_istore_n dX5_allBusyPeople_3 rfl (by decide) rfl ?_
  exact L4 0 (Nat.zero_le _)

set_option maxRecDepth 4000 in
theorem sp_slipsSoFar {σ : pT} {I : pI} {F : pF} {p n : Nat} (h : isPl σ p) (hn : I p 6 = nI n) (hn4 : n ≤ 24)  : PE yX5_slipsSoFar cX5_slipsSoFar mX5_slipsSoFar [.ref p] σ I F (some (.int (sumT (fun t => I (p + 18 + t) 10) n))) I F := by
  refine PE.of oP_X5_slipsSoFar (catOK rfl) (Nat.le_of_ble_eq_true rfl) ?_
  show PW _ _ _ 0 [.ref p, pJ, pJ] [] _ _ _ _
  have L4 : ∀ k, k ≤ n → PW cX5_slipsSoFar mX5_slipsSoFar (fM (qE (some (.int (sumT (fun t => I (p + 18 + t) 10) n))) σ I F)) 4 [.ref p, .int (sumT (fun t => I (p + 18 + t) 10) k), .int (nI k)] [] σ I F (0, 0) := by
    refine dn (fun k => PW cX5_slipsSoFar mX5_slipsSoFar (fM (qE (some (.int (sumT (fun t => I (p + 18 + t) 10) n))) σ I F)) 4 [.ref p, .int (sumT (fun t => I (p + 18 + t) 10) k), .int (nI k)] [] σ I F (0, 0)) n ?_ ?_
    · skip
      refine pw_iload_n dX5_slipsSoFar_4 rfl rfl ?_
      refine pw_aload_n dX5_slipsSoFar_5 rfl rfl ?_
      refine pw_getI dX5_slipsSoFar_6 fd_RX5_40 (by decide) (pl_k h) rfl ?_
      refine pw_icmp_ge (tgt := 30) dX5_slipsSoFar_9 (by decide) (fun c_9 => ?_) (fun c_9 => absurd (k_ge hn) c_9)
      refine pw_iload_n dX5_slipsSoFar_30 rfl rfl ?_
      exact pw_iret dX5_slipsSoFar_31 rfl ⟨rfl, rfl, rfl, rfl⟩
    · intro k hk ih
      refine pw_iload_n dX5_slipsSoFar_4 rfl rfl ?_
      refine pw_aload_n dX5_slipsSoFar_5 rfl rfl ?_
      refine pw_getI dX5_slipsSoFar_6 fd_RX5_40 (by decide) (pl_k h) rfl ?_
      refine pw_icmp_ge (tgt := 30) dX5_slipsSoFar_9 (by decide) (fun c_9 => absurd c_9 (k_lt hn hk (by omega))) (fun c_9 => ?_)
      refine pw_iload_n dX5_slipsSoFar_12 rfl rfl ?_
      refine pw_aload_n dX5_slipsSoFar_13 rfl rfl ?_
      refine pw_getR (x := (p + 3)) dX5_slipsSoFar_14 fd_RX5_25 (by decide) (pl_k h) rfl (pl_rT h) ?_
      refine pw_iload_n dX5_slipsSoFar_17 rfl rfl ?_
      refine pw_aaldN (j := k) (x := (p + 18 + k)) dX5_slipsSoFar_18 (pl_kT h) (by omega) (by decide) (by decide) (pl_eT h (by omega)) ?_
      refine pw_getI dX5_slipsSoFar_19 fd_RX5_140 (by decide) (pl_oT h (by omega)) rfl ?_
      refine pw_iadd dX5_slipsSoFar_22 ?_
      refine pw_istore_n dX5_slipsSoFar_23 rfl (by decide) rfl ?_
      refine pw_iinc (v := nI (k + 1)) dX5_slipsSoFar_24 rfl (nI_add _ _) rfl ?_
      refine pw_goto (tgt := 4) dX5_slipsSoFar_27 (by decide) ?_
      exact ih
  refine pw_iconst (v := 0) dX5_slipsSoFar_0 (by decide) ?_
  refine pw_istore_n dX5_slipsSoFar_1 rfl (by decide) rfl ?_
  refine pw_iconst (v := 0) dX5_slipsSoFar_2 (by decide) ?_
  refine pw_istore_n dX5_slipsSoFar_3 rfl (by decide) rfl ?_
  exact L4 0 (Nat.zero_le _)
end
section
/-! the plant's own questions, told over its cells -/
def tagsC (I : pI) (p n : Nat) (a : Int32) : Nat := cntT (fun t => decide (I (p + 18 + t) 0 = a) && decide (1 ≤ I (p + 18 + t) 7 ∧ I (p + 18 + t) 7 ≤ 3)) n
def busyC (I : pI) (p n : Nat) (a : Int32) : Int32 := sumT (fun t => if (decide (I (p + 18 + t) 8 = a) && decide (1 ≤ I (p + 18 + t) 7 ∧ I (p + 18 + t) 7 ≤ 3)) = true then I (p + 18 + t) 2 else 0) n
def topP (I : pI) (p : Nat) (a hh : Int32) : Nat → Bool := fun t => decide (I (p + 18 + t) 0 = a) && (decide (1 ≤ I (p + 18 + t) 7 ∧ I (p + 18 + t) 7 ≤ 3) && decide (I (p + 18 + t) 11 = hh))
def tagC (I : pI) (p n : Nat) (a x : Int32) : Int32 := fstT (topP I p a (nI (tagsC I p n a) - 1 - x)) n 0
def barB (I : pI) (p k : Nat) (o : Int32) : Bool := decide ((I (p + 4) k >>> (o &&& 31)) &&& 1 = 1)
def nearB (I : pI) (p a : Nat) (o : Int32) : Bool := decide (nI a = o) || decide ((I (p + 5 + a) 5 >>> (o &&& 31)) &&& 1 = 1)
def serveB (I : pI) (p n c t : Nat) : Bool := decide ((I (p + 13 + c) 1 >>> (I (p + 18 + t) 1 &&& 31)) &&& 1 = 1) && decide (I (p + 18 + t) 2 ≤ I (p + 13 + c) 0 - busyC I p n (nI c))
def barP (I : pI) (p k a : Nat) : Nat → Bool := fun i => decide (I (p + 18 + i) 7 = 2) && (barB I p k (I (p + 18 + i) 3) && nearB I p a (I (p + 18 + i) 0))
def barrC (I : pI) (p n t k a : Nat) : Int32 := if I (p + 18 + t) 7 = 2 then -5 else fstT (barP I p k a) n 0
def reasC (I : pI) (p n t k a : Nat) : Int32 := if I (p + 18 + t) 7 = 1 then (if I p 7 < I (p + 18 + t) 5 then 2 else if I (p + 18 + t) 6 < I p 7 + I (p + 18 + t) 4 then 3 else if barrC I p n t k a = -5 then 0 else 4) else 1
def crewC (I : pI) (p nC n t : Nat) : Int32 := if I (p + 18 + t) 7 = 0 then fstT (fun c => serveB I p n c t) nC 0 else -5
theorem has_nat {a x : Int32} {n : Nat} (h : decide (0 ≤ a ∧ a < x) = true) (hx : x = nI n) (hn : n < 2 ^ 31) : ∃ t, t < n ∧ a = nI t := by
  obtain ⟨h1, h2⟩ := of_decide_eq_true h
  rw [hx, Int32.lt_iff_toInt_lt, nI_toInt hn] at h2
  rw [Int32.le_iff_toInt_le] at h1
  have h3 : (0 : Int32).toInt = 0 := by decide
  rw [h3] at h1
  obtain ⟨j, hj, rfl⟩ := nI_of (x := a) (by rw [Int32.lt_iff_toInt_lt, h3]; omega)
  rw [nI_toInt hj] at h2
  exact ⟨j, by omega, rfl⟩
theorem has_t {x : Int32} {t n : Nat} (hx : x = nI n) (ht : t < n) (hn : n < 2 ^ 31) : decide (0 ≤ nI t ∧ nI t < x) = true := by
  rw [hx]
  exact decide_eq_true ⟨nI_pos' (by omega), nI_lt ht hn⟩
theorem has_not {x : Int32} {t n : Nat} (hx : x = nI n) (ht : t < n) (hn : n < 2 ^ 31) (h : decide (0 ≤ nI t ∧ nI t < x) = false) : False := by
  rw [has_t hx ht hn] at h
  cases h
theorem i_nlt' {a b : Int32} (h : b ≤ a) : ¬ a < b := i_nle h
theorem b_t {b : Bool} (h : b = true) : some (Value.int 1) = some (Value.int (bI b)) := by rw [h]; rfl
theorem b_f {b : Bool} (h : b = false) : some (Value.int 0) = some (Value.int (bI b)) := by rw [h]; rfl

set_option maxRecDepth 4000 in
theorem sp_tagsHanging {σ : pT} {I : pI} {F : pF} {p n : Nat} {a : Int32} (h : isPl σ p) (hn : I p 6 = nI n) (hn4 : n ≤ 24)  : PE yX5_tagsHanging cX5_tagsHanging mX5_tagsHanging [.ref p, .int a] σ I F (some (.int (nI (tagsC I p n a)))) I F := by
  refine PE.of oP_X5_tagsHanging (catOK rfl) (Nat.le_of_ble_eq_true rfl) ?_
  show PW _ _ _ 0 [.ref p, .int a] [] _ _ _ _
  refine pw_aload_n dX5_tagsHanging_0 rfl rfl ?_
  refine pw_iload_n dX5_tagsHanging_1 rfl rfl ?_
  refine pw_iconst (v := 1) dX5_tagsHanging_2 (by decide) ?_
  refine pw_iconst (v := 3) dX5_tagsHanging_3 (by decide) ?_
  refine pe_callVi dX5_tagsHanging_4 oX_X5_tasksOfAsset lk_RX5_196 (sp_tasksOfAsset h hn hn4) (pl_k h) rfl rfl (Nat.le_of_ble_eq_true rfl) (by decide) ?_
  exact pw_iret dX5_tagsHanging_7 rfl ⟨rfl, rfl, rfl, rfl⟩

theorem sp_busyC {σ : pT} {I : pI} {F : pF} {p n : Nat} {a : Int32} (h : isPl σ p) (hn : I p 6 = nI n) (hn4 : n ≤ 24) : PE yX5_busyPeople cX5_busyPeople mX5_busyPeople [.ref p, .int a] σ I F (some (.int (busyC I p n a))) I F := sp_busyPeople h hn hn4

set_option maxRecDepth 4000 in
theorem sp_taskOfTag {σ : pT} {I : pI} {F : pF} {p n : Nat} {a x : Int32} (h : isPl σ p) (hn : I p 6 = nI n) (hn4 : n ≤ 24)  : PE yX5_taskOfTag cX5_taskOfTag mX5_taskOfTag [.ref p, .int a, .int x] σ I F (some (.int (tagC I p n a x))) I F := by
  refine PE.of oP_X5_taskOfTag (catOK rfl) (Nat.le_of_ble_eq_true rfl) ?_
  show PW _ _ _ 0 [.ref p, .int a, .int x, pJ, pJ, pJ] [] _ _ _ _
  have L13 : ∀ k, k ≤ n → ∀ w : Value, fstT (topP I p a (nI (tagsC I p n a) - 1 - x)) (n - k) k = tagC I p n a x → PW cX5_taskOfTag mX5_taskOfTag (fM (qE (some (.int (tagC I p n a x))) σ I F)) 13 [.ref p, .int a, .int x, .int (nI (tagsC I p n a) - 1 - x), .int (nI k), w] [] σ I F (0, 0) := by
    refine dn (fun k => ∀ w : Value, fstT (topP I p a (nI (tagsC I p n a) - 1 - x)) (n - k) k = tagC I p n a x → PW cX5_taskOfTag mX5_taskOfTag (fM (qE (some (.int (tagC I p n a x))) σ I F)) 13 [.ref p, .int a, .int x, .int (nI (tagsC I p n a) - 1 - x), .int (nI k), w] [] σ I F (0, 0)) n ?_ ?_
    · intro w hx
      refine pw_iload dX5_taskOfTag_13 rfl ?_
      refine pw_aload_n dX5_taskOfTag_15 rfl rfl ?_
      refine pw_getI dX5_taskOfTag_16 fd_RX5_40 (by decide) (pl_k h) rfl ?_
      refine pw_icmp_ge (tgt := 66) dX5_taskOfTag_19 (by decide) (fun c_19 => ?_) (fun c_19 => absurd (k_ge hn) c_19)
      refine pw_bipush (v := (-5)) dX5_taskOfTag_66 (by decide) ?_
      exact pw_iret dX5_taskOfTag_68 rfl ⟨by rw [fst_0] at hx; rw [← hx], rfl, rfl, rfl⟩
    · intro k hk ih
      intro w hx
      refine pw_iload dX5_taskOfTag_13 rfl ?_
      refine pw_aload_n dX5_taskOfTag_15 rfl rfl ?_
      refine pw_getI dX5_taskOfTag_16 fd_RX5_40 (by decide) (pl_k h) rfl ?_
      refine pw_icmp_ge (tgt := 66) dX5_taskOfTag_19 (by decide) (fun c_19 => absurd c_19 (k_lt hn hk (by omega))) (fun c_19 => ?_)
      refine pw_aload_n dX5_taskOfTag_22 rfl rfl ?_
      refine pw_getR (x := (p + 3)) dX5_taskOfTag_23 fd_RX5_25 (by decide) (pl_k h) rfl (pl_rT h) ?_
      refine pw_iload dX5_taskOfTag_26 rfl ?_
      refine pw_aaldN (j := k) (x := (p + 18 + k)) dX5_taskOfTag_28 (pl_kT h) (by omega) (by decide) (by decide) (pl_eT h (by omega)) ?_
      refine pw_astore dX5_taskOfTag_29 (by decide) rfl ?_
      refine pw_aload dX5_taskOfTag_31 rfl ?_
      refine pw_getI dX5_taskOfTag_33 fd_RX5_111 (by decide) (pl_oT h (by omega)) rfl ?_
      refine pw_iload_n dX5_taskOfTag_36 rfl rfl ?_
      refine pw_icmp_ne (tgt := 60) dX5_taskOfTag_37 (by decide) (fun c_37 => ?_) (fun c_37 => ?_)
      · refine pw_iinc (v := nI (k + 1)) dX5_taskOfTag_60 rfl (nI_add _ _) rfl ?_
        refine pw_goto (tgt := 13) dX5_taskOfTag_63 (by decide) ?_
        have hP : (topP I p a (nI (tagsC I p n a) - 1 - x)) k = false := by simp [topP, c_37]
        rw [fst_f hk hP] at hx
        exact ih _ hx
      · refine pw_aload dX5_taskOfTag_40 rfl ?_
        refine pe_callVi dX5_taskOfTag_42 oX_X6_tagHangs lk_RX5_200 (sp_T_tagHangs (pl_oT h (by omega))) (pl_oT h (by omega)) rfl rfl (Nat.le_of_ble_eq_true rfl) (by decide) ?_
        refine pw_ifB_eq (tgt := 60) dX5_taskOfTag_45 (by decide) (fun c_45 => ?_) (fun c_45 => ?_)
        · refine pw_iinc (v := nI (k + 1)) dX5_taskOfTag_60 rfl (nI_add _ _) rfl ?_
          refine pw_goto (tgt := 13) dX5_taskOfTag_63 (by decide) ?_
          have hP : (topP I p a (nI (tagsC I p n a) - 1 - x)) k = false := by simp [topP, c_37, c_45]
          rw [fst_f hk hP] at hx
          exact ih _ hx
        · refine pw_aload dX5_taskOfTag_48 rfl ?_
          refine pw_getI dX5_taskOfTag_50 fd_RX5_121 (by decide) (pl_oT h (by omega)) rfl ?_
          refine pw_iload_n dX5_taskOfTag_53 rfl rfl ?_
          refine pw_icmp_ne (tgt := 60) dX5_taskOfTag_54 (by decide) (fun c_54 => ?_) (fun c_54 => ?_)
          · refine pw_iinc (v := nI (k + 1)) dX5_taskOfTag_60 rfl (nI_add _ _) rfl ?_
            refine pw_goto (tgt := 13) dX5_taskOfTag_63 (by decide) ?_
            have hP : (topP I p a (nI (tagsC I p n a) - 1 - x)) k = false := by simp [topP, c_37, c_45, c_54]
            rw [fst_f hk hP] at hx
            exact ih _ hx
          · refine pw_iload dX5_taskOfTag_57 rfl ?_
            exact pw_iret dX5_taskOfTag_59 rfl ⟨by rw [fst_t hk (by simp [topP, c_37, c_45, c_54])] at hx; rw [← hx], rfl, rfl, rfl⟩
  refine pw_aload_n dX5_taskOfTag_0 rfl rfl ?_
  refine pw_iload_n dX5_taskOfTag_1 rfl rfl ?_
  refine pe_callVi dX5_taskOfTag_2 oX_X5_tagsHanging lk_RX5_91 (sp_tagsHanging h hn hn4) (pl_k h) rfl rfl (Nat.le_of_ble_eq_true rfl) (by decide) ?_
  refine pw_iconst (v := 1) dX5_taskOfTag_5 (by decide) ?_
  refine pw_isub dX5_taskOfTag_6 ?_
  refine pw_iload_n dX5_taskOfTag_7 rfl rfl ?_
  refine pw_isub dX5_taskOfTag_8 ?_
  refine pw_istore_n dX5_taskOfTag_9 rfl (by decide) rfl ?_
  refine pw_iconst (v := 0) dX5_taskOfTag_10 (by decide) ?_
  refine pw_istore dX5_taskOfTag_11 (by decide) rfl ?_
  exact L13 0 (Nat.zero_le _) _ rfl

set_option maxRecDepth 4000 in
theorem sp_doBar {σ : pT} {I : pI} {F : pF} {p k : Nat} {o : Int32} (h : isPl σ p) (hk5 : k < 5) : PE yX5_doBar cX5_doBar mX5_doBar [.ref p, .int (nI k), .int o] σ I F (some (.int (bI (barB I p k o)))) I F := by
  refine PE.of oP_X5_doBar (catOK rfl) (Nat.le_of_ble_eq_true rfl) ?_
  show PW _ _ _ 0 [.ref p, .int (nI k), .int o] [] _ _ _ _
  refine pw_iload_n dX5_doBar_0 rfl rfl ?_
  refine pw_if_lt (tgt := 31) dX5_doBar_1 (by decide) (fun c_1 => absurd c_1 (nI_pos (by omega))) (fun c_1 => ?_)
  refine pw_iload_n dX5_doBar_4 rfl rfl ?_
  refine pw_aload_n dX5_doBar_5 rfl rfl ?_
  refine pw_getR (x := (p + 4)) dX5_doBar_6 fd_RX5_29 (by decide) (pl_k h) rfl (pl_rB h) ?_
  refine pw_alenI dX5_doBar_9 (pl_kB h) ?_
  refine pw_icmp_ge (tgt := 31) dX5_doBar_10 (by decide) (fun c_10 => absurd c_10 (nI_ge (b := 5) (by omega) (by omega))) (fun c_10 => ?_)
  refine pw_aload_n dX5_doBar_13 rfl rfl ?_
  refine pw_getR (x := (p + 4)) dX5_doBar_14 fd_RX5_29 (by decide) (pl_k h) rfl (pl_rB h) ?_
  refine pw_iload_n dX5_doBar_17 rfl rfl ?_
  refine pw_ialdN (j := k) dX5_doBar_18 (pl_kB h) (by omega) (by decide) ?_
  refine pw_iload_n dX5_doBar_19 rfl rfl ?_
  refine pw_ishr dX5_doBar_20 ?_
  refine pw_iconst (v := 1) dX5_doBar_21 (by decide) ?_
  refine pw_iand dX5_doBar_22 ?_
  refine pw_iconst (v := 1) dX5_doBar_23 (by decide) ?_
  refine pw_icmp_ne (tgt := 31) dX5_doBar_24 (by decide) (fun c_24 => ?_) (fun c_24 => ?_)
  · refine pw_iconst (v := 0) dX5_doBar_31 (by decide) ?_
    exact pw_zret dX5_doBar_32 rfl (by first | rfl | decide) ⟨b_f (by simp [barB, c_24]), rfl, rfl, rfl⟩
  · refine pw_iconst (v := 1) dX5_doBar_27 (by decide) ?_
    refine pw_goto (tgt := 32) dX5_doBar_28 (by decide) ?_
    exact pw_zret dX5_doBar_32 rfl (by first | rfl | decide) ⟨b_t (by simp [barB, c_24]), rfl, rfl, rfl⟩

set_option maxRecDepth 4000 in
theorem sp_areNear {σ : pT} {I : pI} {F : pF} {p nA a : Nat} {o : Int32} (h : isPl σ p) (hA : I p 4 = nI nA) (hA8 : nA ≤ 8) (ha : a < nA) : PE yX5_areNear cX5_areNear mX5_areNear [.ref p, .int (nI a), .int o] σ I F (some (.int (bI (nearB I p a o)))) I F := by
  refine PE.of oP_X5_areNear (catOK rfl) (Nat.le_of_ble_eq_true rfl) ?_
  show PW _ _ _ 0 [.ref p, .int (nI a), .int o] [] _ _ _ _
  refine pw_iload_n dX5_areNear_0 rfl rfl ?_
  refine pw_iload_n dX5_areNear_1 rfl rfl ?_
  refine pw_icmp_eq (tgt := 30) dX5_areNear_2 (by decide) (fun c_2 => ?_) (fun c_2 => ?_)
  · refine pw_iconst (v := 1) dX5_areNear_30 (by decide) ?_
    refine pw_goto (tgt := 35) dX5_areNear_31 (by decide) ?_
    exact pw_zret dX5_areNear_35 rfl (by first | rfl | decide) ⟨b_t (by simp [nearB, c_2]), rfl, rfl, rfl⟩
  · refine pw_iload_n dX5_areNear_5 rfl rfl ?_
    refine pw_if_lt (tgt := 34) dX5_areNear_6 (by decide) (fun c_6 => absurd c_6 (nI_pos (by omega))) (fun c_6 => ?_)
    refine pw_iload_n dX5_areNear_9 rfl rfl ?_
    refine pw_aload_n dX5_areNear_10 rfl rfl ?_
    refine pw_getI dX5_areNear_11 fd_RX5_33 (by decide) (pl_k h) rfl ?_
    refine pw_icmp_ge (tgt := 34) dX5_areNear_14 (by decide) (fun c_14 => absurd c_14 (k_lt hA ha (by omega))) (fun c_14 => ?_)
    refine pw_aload_n dX5_areNear_17 rfl rfl ?_
    refine pw_getR (x := (p + 1)) dX5_areNear_18 fd_RX5_11 (by decide) (pl_k h) rfl (pl_rA h) ?_
    refine pw_iload_n dX5_areNear_21 rfl rfl ?_
    refine pw_aaldN (j := a) (x := (p + 5 + a)) dX5_areNear_22 (pl_kA h) (by omega) (by decide) (by decide) (pl_eA h (by omega)) ?_
    refine pw_iload_n dX5_areNear_23 rfl rfl ?_
    refine pe_callVi dX5_areNear_24 oX_X0_isLinkedTo lk_RX5_71 (sp_isLinkedTo (pl_oA h (by omega))) (pl_oA h (by omega)) rfl rfl (Nat.le_of_ble_eq_true rfl) (by decide) ?_
    refine pw_ifB_eq (tgt := 34) dX5_areNear_27 (by decide) (fun c_27 => ?_) (fun c_27 => ?_)
    · refine pw_iconst (v := 0) dX5_areNear_34 (by decide) ?_
      exact pw_zret dX5_areNear_35 rfl (by first | rfl | decide) ⟨b_f (by simp [nearB, c_2, c_27]), rfl, rfl, rfl⟩
    · refine pw_iconst (v := 1) dX5_areNear_30 (by decide) ?_
      refine pw_goto (tgt := 35) dX5_areNear_31 (by decide) ?_
      exact pw_zret dX5_areNear_35 rfl (by first | rfl | decide) ⟨b_t (by simp [nearB, c_2, c_27]), rfl, rfl, rfl⟩

set_option maxRecDepth 4000 in
theorem sp_isRunning {σ : pT} {I : pI} {F : pF} {p nA a : Nat} (h : isPl σ p) (hA : I p 4 = nI nA) (hA8 : nA ≤ 8) (ha : a < nA) : PE yX5_isRunning cX5_isRunning mX5_isRunning [.ref p, .int (nI a)] σ I F (some (.int (bI (decide (¬ I (p + 5 + a) 4 = 0))))) I F := by
  refine PE.of oP_X5_isRunning (catOK rfl) (Nat.le_of_ble_eq_true rfl) ?_
  show PW _ _ _ 0 [.ref p, .int (nI a)] [] _ _ _ _
  refine pw_aload_n dX5_isRunning_0 rfl rfl ?_
  refine pw_iload_n dX5_isRunning_1 rfl rfl ?_
  refine pe_callVi dX5_isRunning_2 oX_X5_hasAsset lk_RX5_67 (sp_hasAsset h) (pl_k h) rfl rfl (Nat.le_of_ble_eq_true rfl) (by decide) ?_
  refine pw_ifB_eq (tgt := 24) dX5_isRunning_5 (by decide) (fun c_5 => (has_not hA ha (by omega) c_5).elim) (fun c_5 => ?_)
  refine pw_aload_n dX5_isRunning_8 rfl rfl ?_
  refine pw_getR (x := (p + 1)) dX5_isRunning_9 fd_RX5_11 (by decide) (pl_k h) rfl (pl_rA h) ?_
  refine pw_iload_n dX5_isRunning_12 rfl rfl ?_
  refine pw_aaldN (j := a) (x := (p + 5 + a)) dX5_isRunning_13 (pl_kA h) (by omega) (by decide) (by decide) (pl_eA h (by omega)) ?_
  refine pw_getI dX5_isRunning_14 fd_RX5_94 (by decide) (pl_oA h (by omega)) rfl ?_
  refine pw_if_eq (tgt := 24) dX5_isRunning_17 (by decide) (fun c_17 => ?_) (fun c_17 => ?_)
  · refine pw_iconst (v := 0) dX5_isRunning_24 (by decide) ?_
    exact pw_zret dX5_isRunning_25 rfl (by first | rfl | decide) ⟨b_f (by simp [not_true, c_17]), rfl, rfl, rfl⟩
  · refine pw_iconst (v := 1) dX5_isRunning_20 (by decide) ?_
    refine pw_goto (tgt := 25) dX5_isRunning_21 (by decide) ?_
    exact pw_zret dX5_isRunning_25 rfl (by first | rfl | decide) ⟨b_t (by simp [not_true, c_17]), rfl, rfl, rfl⟩

set_option maxRecDepth 4000 in
theorem sp_canServe {σ : pT} {I : pI} {F : pF} {p nC n c t : Nat} (h : isPl σ p) (hn : I p 6 = nI n) (hn4 : n ≤ 24) (hc5 : c < 5) (ht : t < n) : PE yX5_canServe cX5_canServe mX5_canServe [.ref p, .int (nI c), .ref (p + 18 + t)] σ I F (some (.int (bI (serveB I p n c t)))) I F := by
  refine PE.of oP_X5_canServe (catOK rfl) (Nat.le_of_ble_eq_true rfl) ?_
  show PW _ _ _ 0 [.ref p, .int (nI c), .ref (p + 18 + t)] [] _ _ _ _
  refine pw_aload_n dX5_canServe_0 rfl rfl ?_
  refine pw_getR (x := (p + 2)) dX5_canServe_1 fd_RX5_19 (by decide) (pl_k h) rfl (pl_rC h) ?_
  refine pw_iload_n dX5_canServe_4 rfl rfl ?_
  refine pw_aaldN (j := c) (x := (p + 13 + c)) dX5_canServe_5 (pl_kC h) (by omega) (by decide) (by decide) (pl_eC h (by omega)) ?_
  refine pw_aload_n dX5_canServe_6 rfl rfl ?_
  refine pw_getI dX5_canServe_7 fd_RX5_183 (by decide) (pl_oT h (by omega)) rfl ?_
  refine pe_callVi dX5_canServe_10 oX_X1_has lk_RX5_186 (sp_C_has (pl_oC h (by omega))) (pl_oC h (by omega)) rfl rfl (Nat.le_of_ble_eq_true rfl) (by decide) ?_
  refine pw_ifB_eq (tgt := 42) dX5_canServe_13 (by decide) (fun c_13 => ?_) (fun c_13 => ?_)
  · refine pw_iconst (v := 0) dX5_canServe_42 (by decide) ?_
    exact pw_zret dX5_canServe_43 rfl (by first | rfl | decide) ⟨b_f (by simp [serveB, i_nle, i_lt, i_le, i_nlt, c_13]), rfl, rfl, rfl⟩
  · refine pw_aload_n dX5_canServe_16 rfl rfl ?_
    refine pw_getR (x := (p + 2)) dX5_canServe_17 fd_RX5_19 (by decide) (pl_k h) rfl (pl_rC h) ?_
    refine pw_iload_n dX5_canServe_20 rfl rfl ?_
    refine pw_aaldN (j := c) (x := (p + 13 + c)) dX5_canServe_21 (pl_kC h) (by omega) (by decide) (by decide) (pl_eC h (by omega)) ?_
    refine pw_getI dX5_canServe_22 fd_RX5_189 (by decide) (pl_oC h (by omega)) rfl ?_
    refine pw_aload_n dX5_canServe_25 rfl rfl ?_
    refine pw_iload_n dX5_canServe_26 rfl rfl ?_
    refine pe_callVi dX5_canServe_27 oX_X5_busyPeople lk_RX5_192 (sp_busyC h hn hn4) (pl_k h) rfl rfl (Nat.le_of_ble_eq_true rfl) (by decide) ?_
    refine pw_isub dX5_canServe_30 ?_
    refine pw_aload_n dX5_canServe_31 rfl rfl ?_
    refine pw_getI dX5_canServe_32 fd_RX5_195 (by decide) (pl_oT h (by omega)) rfl ?_
    refine pw_icmp_lt (tgt := 42) dX5_canServe_35 (by decide) (fun c_35 => ?_) (fun c_35 => ?_)
    · refine pw_iconst (v := 0) dX5_canServe_42 (by decide) ?_
      exact pw_zret dX5_canServe_43 rfl (by first | rfl | decide) ⟨b_f (by simp [serveB, i_nle, i_lt, i_le, i_nlt, c_13, c_35]), rfl, rfl, rfl⟩
    · refine pw_iconst (v := 1) dX5_canServe_38 (by decide) ?_
      refine pw_goto (tgt := 43) dX5_canServe_39 (by decide) ?_
      exact pw_zret dX5_canServe_43 rfl (by first | rfl | decide) ⟨b_t (by simp [serveB, i_nle, i_lt, i_le, i_nlt, c_13, c_35]), rfl, rfl, rfl⟩

set_option maxRecDepth 4000 in
theorem sp_firstCrewFor {σ : pT} {I : pI} {F : pF} {p nC n t : Nat} (h : isPl σ p) (hn : I p 6 = nI n) (hn4 : n ≤ 24) (hC : I p 5 = nI nC) (hC5 : nC ≤ 5) (ht : t < n) : PE yX5_firstCrewFor cX5_firstCrewFor mX5_firstCrewFor [.ref p, .int (nI t)] σ I F (some (.int (crewC I p nC n t))) I F := by
  refine PE.of oP_X5_firstCrewFor (catOK rfl) (Nat.le_of_ble_eq_true rfl) ?_
  show PW _ _ _ 0 [.ref p, .int (nI t), pJ] [] _ _ _ _
  have L25 : ∀ k, k ≤ nC → fstT (fun c => serveB I p n c t) (nC - k) k = crewC I p nC n t → PW cX5_firstCrewFor mX5_firstCrewFor (fM (qE (some (.int (crewC I p nC n t))) σ I F)) 25 [.ref p, .int (nI t), .int (nI k)] [] σ I F (0, 0) := by
    refine dn (fun k => fstT (fun c => serveB I p n c t) (nC - k) k = crewC I p nC n t → PW cX5_firstCrewFor mX5_firstCrewFor (fM (qE (some (.int (crewC I p nC n t))) σ I F)) 25 [.ref p, .int (nI t), .int (nI k)] [] σ I F (0, 0)) nC ?_ ?_
    · intro hx
      refine pw_iload_n dX5_firstCrewFor_25 rfl rfl ?_
      refine pw_aload_n dX5_firstCrewFor_26 rfl rfl ?_
      refine pw_getI dX5_firstCrewFor_27 fd_RX5_37 (by decide) (pl_k h) rfl ?_
      refine pw_icmp_ge (tgt := 55) dX5_firstCrewFor_30 (by decide) (fun c_30 => ?_) (fun c_30 => absurd (k_ge hC) c_30)
      refine pw_bipush (v := (-5)) dX5_firstCrewFor_55 (by decide) ?_
      exact pw_iret dX5_firstCrewFor_57 rfl ⟨by rw [fst_0] at hx; rw [← hx], rfl, rfl, rfl⟩
    · intro k hk ih
      intro hx
      refine pw_iload_n dX5_firstCrewFor_25 rfl rfl ?_
      refine pw_aload_n dX5_firstCrewFor_26 rfl rfl ?_
      refine pw_getI dX5_firstCrewFor_27 fd_RX5_37 (by decide) (pl_k h) rfl ?_
      refine pw_icmp_ge (tgt := 55) dX5_firstCrewFor_30 (by decide) (fun c_30 => absurd c_30 (k_lt hC hk (by omega))) (fun c_30 => ?_)
      refine pw_aload_n dX5_firstCrewFor_33 rfl rfl ?_
      refine pw_iload_n dX5_firstCrewFor_34 rfl rfl ?_
      refine pw_aload_n dX5_firstCrewFor_35 rfl rfl ?_
      refine pw_getR (x := (p + 3)) dX5_firstCrewFor_36 fd_RX5_25 (by decide) (pl_k h) rfl (pl_rT h) ?_
      refine pw_iload_n dX5_firstCrewFor_39 rfl rfl ?_
      refine pw_aaldN (j := t) (x := (p + 18 + t)) dX5_firstCrewFor_40 (pl_kT h) (by omega) (by decide) (by decide) (pl_eT h (by omega)) ?_
      refine pe_callVi dX5_firstCrewFor_41 oX_X5_canServe lk_RX5_117 (sp_canServe (nC := nC) h hn hn4 (by omega) ht) (pl_k h) rfl rfl (Nat.le_of_ble_eq_true rfl) (by decide) ?_
      refine pw_ifB_eq (tgt := 49) dX5_firstCrewFor_44 (by decide) (fun c_44 => ?_) (fun c_44 => ?_)
      · refine pw_iinc (v := nI (k + 1)) dX5_firstCrewFor_49 rfl (nI_add _ _) rfl ?_
        refine pw_goto (tgt := 25) dX5_firstCrewFor_52 (by decide) ?_
        rw [fst_f hk c_44] at hx
        exact ih hx
      · refine pw_iload_n dX5_firstCrewFor_47 rfl rfl ?_
        exact pw_iret dX5_firstCrewFor_48 rfl ⟨by rw [fst_t hk c_44] at hx; rw [← hx], rfl, rfl, rfl⟩
  refine pw_aload_n dX5_firstCrewFor_0 rfl rfl ?_
  refine pw_iload_n dX5_firstCrewFor_1 rfl rfl ?_
  refine pe_callVi dX5_firstCrewFor_2 oX_X5_hasTask lk_RX5_102 (sp_hasTask h) (pl_k h) rfl rfl (Nat.le_of_ble_eq_true rfl) (by decide) ?_
  refine pw_ifB_eq (tgt := 20) dX5_firstCrewFor_5 (by decide) (fun c_5 => (has_not hn ht (by omega) c_5).elim) (fun c_5 => ?_)
  refine pw_aload_n dX5_firstCrewFor_8 rfl rfl ?_
  refine pw_getR (x := (p + 3)) dX5_firstCrewFor_9 fd_RX5_25 (by decide) (pl_k h) rfl (pl_rT h) ?_
  refine pw_iload_n dX5_firstCrewFor_12 rfl rfl ?_
  refine pw_aaldN (j := t) (x := (p + 18 + t)) dX5_firstCrewFor_13 (pl_kT h) (by omega) (by decide) (by decide) (pl_eT h (by omega)) ?_
  refine pw_getI dX5_firstCrewFor_14 fd_RX5_108 (by decide) (pl_oT h (by omega)) rfl ?_
  refine pw_if_eq (tgt := 23) dX5_firstCrewFor_17 (by decide) (fun c_17 => ?_) (fun c_17 => ?_)
  · refine pw_iconst (v := 0) dX5_firstCrewFor_23 (by decide) ?_
    refine pw_istore_n dX5_firstCrewFor_24 rfl (by decide) rfl ?_
    exact L25 0 (Nat.zero_le _) (by rw [crewC, if_pos c_17]; rfl)
  · refine pw_bipush (v := (-5)) dX5_firstCrewFor_20 (by decide) ?_
    exact pw_iret dX5_firstCrewFor_22 rfl ⟨by rw [crewC, if_neg c_17], rfl, rfl, rfl⟩

set_option maxRecDepth 4000 in
theorem sp_barrierOf {σ : pT} {I : pI} {F : pF} {p nA n t kt at_ : Nat} (h : isPl σ p) (hn : I p 6 = nI n) (hn4 : n ≤ 24) (hA : I p 4 = nI nA) (hA8 : nA ≤ 8) (hkd : I (p + 18 + t) 3 = nI kt) (hk5 : kt < 5) (hat : I (p + 18 + t) 0 = nI at_) (haA : at_ < nA) (ht : t < n) : PE yX5_barrierOf cX5_barrierOf mX5_barrierOf [.ref p, .int (nI t)] σ I F (some (.int (barrC I p n t kt at_))) I F := by
  refine PE.of oP_X5_barrierOf (catOK rfl) (Nat.le_of_ble_eq_true rfl) ?_
  show PW _ _ _ 0 [.ref p, .int (nI t), pJ, pJ, pJ] [] _ _ _ _
  have L33 : ∀ k, k ≤ n → ∀ w : Value, fstT (barP I p kt at_) (n - k) k = barrC I p n t kt at_ → PW cX5_barrierOf mX5_barrierOf (fM (qE (some (.int (barrC I p n t kt at_))) σ I F)) 33 [.ref p, .int (nI t), .ref (p + 18 + t), .int (nI k), w] [] σ I F (0, 0) := by
    refine dn (fun k => ∀ w : Value, fstT (barP I p kt at_) (n - k) k = barrC I p n t kt at_ → PW cX5_barrierOf mX5_barrierOf (fM (qE (some (.int (barrC I p n t kt at_))) σ I F)) 33 [.ref p, .int (nI t), .ref (p + 18 + t), .int (nI k), w] [] σ I F (0, 0)) n ?_ ?_
    · intro w hx
      refine pw_iload_n dX5_barrierOf_33 rfl rfl ?_
      refine pw_aload_n dX5_barrierOf_34 rfl rfl ?_
      refine pw_getI dX5_barrierOf_35 fd_RX5_40 (by decide) (pl_k h) rfl ?_
      refine pw_icmp_ge (tgt := 98) dX5_barrierOf_38 (by decide) (fun c_38 => ?_) (fun c_38 => absurd (k_ge hn) c_38)
      refine pw_bipush (v := (-5)) dX5_barrierOf_98 (by decide) ?_
      exact pw_iret dX5_barrierOf_100 rfl ⟨by rw [fst_0] at hx; rw [← hx], rfl, rfl, rfl⟩
    · intro k hk ih
      intro w hx
      refine pw_iload_n dX5_barrierOf_33 rfl rfl ?_
      refine pw_aload_n dX5_barrierOf_34 rfl rfl ?_
      refine pw_getI dX5_barrierOf_35 fd_RX5_40 (by decide) (pl_k h) rfl ?_
      refine pw_icmp_ge (tgt := 98) dX5_barrierOf_38 (by decide) (fun c_38 => absurd c_38 (k_lt hn hk (by omega))) (fun c_38 => ?_)
      refine pw_aload_n dX5_barrierOf_41 rfl rfl ?_
      refine pw_getR (x := (p + 3)) dX5_barrierOf_42 fd_RX5_25 (by decide) (pl_k h) rfl (pl_rT h) ?_
      refine pw_iload_n dX5_barrierOf_45 rfl rfl ?_
      refine pw_aaldN (j := k) (x := (p + 18 + k)) dX5_barrierOf_46 (pl_kT h) (by omega) (by decide) (by decide) (pl_eT h (by omega)) ?_
      refine pw_astore dX5_barrierOf_47 (by decide) rfl ?_
      refine pw_aload dX5_barrierOf_49 rfl ?_
      refine pw_getI dX5_barrierOf_51 fd_RX5_108 (by decide) (pl_oT h (by omega)) rfl ?_
      refine pw_iconst (v := 2) dX5_barrierOf_54 (by decide) ?_
      refine pw_icmp_ne (tgt := 92) dX5_barrierOf_55 (by decide) (fun c_55 => ?_) (fun c_55 => ?_)
      · refine pw_iinc (v := nI (k + 1)) dX5_barrierOf_92 rfl (nI_add _ _) rfl ?_
        refine pw_goto (tgt := 33) dX5_barrierOf_95 (by decide) ?_
        have hP : (barP I p kt at_) k = false := by simp [barP, c_55]
        rw [fst_f hk hP] at hx
        exact ih _ hx
      · refine pw_aload_n dX5_barrierOf_58 rfl rfl ?_
        refine pw_aload_n dX5_barrierOf_59 rfl rfl ?_
        refine pw_getI dX5_barrierOf_60 fd_RX5_177 (by decide) (pl_oT h (by omega)) rfl ?_
        rw [hkd]
        refine pw_aload dX5_barrierOf_63 rfl ?_
        refine pw_getI dX5_barrierOf_65 fd_RX5_177 (by decide) (pl_oT h (by omega)) rfl ?_
        refine pe_callVi dX5_barrierOf_68 oX_X5_doBar lk_RX5_83 (sp_doBar h (by omega)) (pl_k h) rfl rfl (Nat.le_of_ble_eq_true rfl) (by decide) ?_
        refine pw_ifB_eq (tgt := 92) dX5_barrierOf_71 (by decide) (fun c_71 => ?_) (fun c_71 => ?_)
        · refine pw_iinc (v := nI (k + 1)) dX5_barrierOf_92 rfl (nI_add _ _) rfl ?_
          refine pw_goto (tgt := 33) dX5_barrierOf_95 (by decide) ?_
          have hP : (barP I p kt at_) k = false := by simp [barP, c_55, c_71]
          rw [fst_f hk hP] at hx
          exact ih _ hx
        · refine pw_aload_n dX5_barrierOf_74 rfl rfl ?_
          refine pw_aload_n dX5_barrierOf_75 rfl rfl ?_
          refine pw_getI dX5_barrierOf_76 fd_RX5_111 (by decide) (pl_oT h (by omega)) rfl ?_
          rw [hat]
          refine pw_aload dX5_barrierOf_79 rfl ?_
          refine pw_getI dX5_barrierOf_81 fd_RX5_111 (by decide) (pl_oT h (by omega)) rfl ?_
          refine pe_callVi dX5_barrierOf_84 oX_X5_areNear lk_RX5_180 (sp_areNear h hA hA8 (by omega)) (pl_k h) rfl rfl (Nat.le_of_ble_eq_true rfl) (by decide) ?_
          refine pw_ifB_eq (tgt := 92) dX5_barrierOf_87 (by decide) (fun c_87 => ?_) (fun c_87 => ?_)
          · refine pw_iinc (v := nI (k + 1)) dX5_barrierOf_92 rfl (nI_add _ _) rfl ?_
            refine pw_goto (tgt := 33) dX5_barrierOf_95 (by decide) ?_
            have hP : (barP I p kt at_) k = false := by simp [barP, c_55, c_71, c_87]
            rw [fst_f hk hP] at hx
            exact ih _ hx
          · refine pw_iload_n dX5_barrierOf_90 rfl rfl ?_
            exact pw_iret dX5_barrierOf_91 rfl ⟨by rw [fst_t hk (by simp [barP, c_55, c_71, c_87])] at hx; rw [← hx], rfl, rfl, rfl⟩
  refine pw_aload_n dX5_barrierOf_0 rfl rfl ?_
  refine pw_iload_n dX5_barrierOf_1 rfl rfl ?_
  refine pe_callVi dX5_barrierOf_2 oX_X5_hasTask lk_RX5_102 (sp_hasTask h) (pl_k h) rfl rfl (Nat.le_of_ble_eq_true rfl) (by decide) ?_
  refine pw_ifB_eq (tgt := 21) dX5_barrierOf_5 (by decide) (fun c_5 => (has_not hn ht (by omega) c_5).elim) (fun c_5 => ?_)
  refine pw_aload_n dX5_barrierOf_8 rfl rfl ?_
  refine pw_getR (x := (p + 3)) dX5_barrierOf_9 fd_RX5_25 (by decide) (pl_k h) rfl (pl_rT h) ?_
  refine pw_iload_n dX5_barrierOf_12 rfl rfl ?_
  refine pw_aaldN (j := t) (x := (p + 18 + t)) dX5_barrierOf_13 (pl_kT h) (by omega) (by decide) (by decide) (pl_eT h (by omega)) ?_
  refine pw_getI dX5_barrierOf_14 fd_RX5_108 (by decide) (pl_oT h (by omega)) rfl ?_
  refine pw_iconst (v := 2) dX5_barrierOf_17 (by decide) ?_
  refine pw_icmp_ne (tgt := 24) dX5_barrierOf_18 (by decide) (fun c_18 => ?_) (fun c_18 => ?_)
  · refine pw_aload_n dX5_barrierOf_24 rfl rfl ?_
    refine pw_getR (x := (p + 3)) dX5_barrierOf_25 fd_RX5_25 (by decide) (pl_k h) rfl (pl_rT h) ?_
    refine pw_iload_n dX5_barrierOf_28 rfl rfl ?_
    refine pw_aaldN (j := t) (x := (p + 18 + t)) dX5_barrierOf_29 (pl_kT h) (by omega) (by decide) (by decide) (pl_eT h (by omega)) ?_
    refine pw_astore_n dX5_barrierOf_30 rfl (by decide) rfl ?_
    refine pw_iconst (v := 0) dX5_barrierOf_31 (by decide) ?_
    refine pw_istore_n dX5_barrierOf_32 rfl (by decide) rfl ?_
    exact L33 0 (Nat.zero_le _) _ (by rw [barrC, if_neg c_18]; rfl)
  · refine pw_bipush (v := (-5)) dX5_barrierOf_21 (by decide) ?_
    exact pw_iret dX5_barrierOf_23 rfl ⟨by rw [barrC, if_pos c_18], rfl, rfl, rfl⟩

set_option maxRecDepth 4000 in
theorem sp_reasonAgainst {σ : pT} {I : pI} {F : pF} {p nA n t kt at_ : Nat} (h : isPl σ p) (hn : I p 6 = nI n) (hn4 : n ≤ 24) (hA : I p 4 = nI nA) (hA8 : nA ≤ 8) (hkd : I (p + 18 + t) 3 = nI kt) (hk5 : kt < 5) (hat : I (p + 18 + t) 0 = nI at_) (haA : at_ < nA) (ht : t < n) : PE yX5_reasonAgainst cX5_reasonAgainst mX5_reasonAgainst [.ref p, .int (nI t)] σ I F (some (.int (reasC I p n t kt at_))) I F := by
  refine PE.of oP_X5_reasonAgainst (catOK rfl) (Nat.le_of_ble_eq_true rfl) ?_
  show PW _ _ _ 0 [.ref p, .int (nI t), pJ] [] _ _ _ _
  refine pw_aload_n dX5_reasonAgainst_0 rfl rfl ?_
  refine pw_iload_n dX5_reasonAgainst_1 rfl rfl ?_
  refine pe_callVi dX5_reasonAgainst_2 oX_X5_hasTask lk_RX5_102 (sp_hasTask h) (pl_k h) rfl rfl (Nat.le_of_ble_eq_true rfl) (by decide) ?_
  refine pw_ifB_ne (tgt := 10) dX5_reasonAgainst_5 (by decide) (fun c_5 => ?_) (fun c_5 => (has_not hn ht (by omega) c_5).elim)
  refine pw_aload_n dX5_reasonAgainst_10 rfl rfl ?_
  refine pw_getR (x := (p + 3)) dX5_reasonAgainst_11 fd_RX5_25 (by decide) (pl_k h) rfl (pl_rT h) ?_
  refine pw_iload_n dX5_reasonAgainst_14 rfl rfl ?_
  refine pw_aaldN (j := t) (x := (p + 18 + t)) dX5_reasonAgainst_15 (pl_kT h) (by omega) (by decide) (by decide) (pl_eT h (by omega)) ?_
  refine pw_astore_n dX5_reasonAgainst_16 rfl (by decide) rfl ?_
  refine pw_aload_n dX5_reasonAgainst_17 rfl rfl ?_
  refine pw_getI dX5_reasonAgainst_18 fd_RX5_108 (by decide) (pl_oT h (by omega)) rfl ?_
  refine pw_iconst (v := 1) dX5_reasonAgainst_21 (by decide) ?_
  refine pw_icmp_eq (tgt := 27) dX5_reasonAgainst_22 (by decide) (fun c_22 => ?_) (fun c_22 => ?_)
  · refine pw_aload_n dX5_reasonAgainst_27 rfl rfl ?_
    refine pw_getI dX5_reasonAgainst_28 fd_RX5_43 (by decide) (pl_k h) rfl ?_
    refine pw_aload_n dX5_reasonAgainst_31 rfl rfl ?_
    refine pw_getI dX5_reasonAgainst_32 fd_RX5_171 (by decide) (pl_oT h (by omega)) rfl ?_
    refine pw_icmp_ge (tgt := 40) dX5_reasonAgainst_35 (by decide) (fun c_35 => ?_) (fun c_35 => ?_)
    · refine pw_aload_n dX5_reasonAgainst_40 rfl rfl ?_
      refine pw_aload_n dX5_reasonAgainst_41 rfl rfl ?_
      refine pw_getI dX5_reasonAgainst_42 fd_RX5_43 (by decide) (pl_k h) rfl ?_
      refine pe_callVi dX5_reasonAgainst_45 oX_X6_isTooLateAt lk_RX5_165 (sp_T_isTooLateAt (pl_oT h (by omega))) (pl_oT h (by omega)) rfl rfl (Nat.le_of_ble_eq_true rfl) (by decide) ?_
      refine pw_ifB_eq (tgt := 53) dX5_reasonAgainst_48 (by decide) (fun c_48 => ?_) (fun c_48 => ?_)
      · refine pw_aload_n dX5_reasonAgainst_53 rfl rfl ?_
        refine pw_iload_n dX5_reasonAgainst_54 rfl rfl ?_
        refine pe_callVi dX5_reasonAgainst_55 oX_X5_barrierOf lk_RX5_174 (sp_barrierOf h hn hn4 hA hA8 hkd hk5 hat haA ht) (pl_k h) rfl rfl (Nat.le_of_ble_eq_true rfl) (by decide) ?_
        refine pw_bipush (v := (-5)) dX5_reasonAgainst_58 (by decide) ?_
        refine pw_icmp_eq (tgt := 67) dX5_reasonAgainst_60 (by decide) (fun c_60 => ?_) (fun c_60 => ?_)
        · refine pw_iconst (v := 0) dX5_reasonAgainst_67 (by decide) ?_
          exact pw_iret dX5_reasonAgainst_68 rfl ⟨by rw [reasC, if_pos c_22, if_neg (i_nlt' c_35), if_neg (of_decide_eq_false c_48), if_pos c_60], rfl, rfl, rfl⟩
        · refine pw_iconst (v := 4) dX5_reasonAgainst_63 (by decide) ?_
          refine pw_goto (tgt := 68) dX5_reasonAgainst_64 (by decide) ?_
          exact pw_iret dX5_reasonAgainst_68 rfl ⟨by rw [reasC, if_pos c_22, if_neg (i_nlt' c_35), if_neg (of_decide_eq_false c_48), if_neg c_60], rfl, rfl, rfl⟩
      · refine pw_iconst (v := 3) dX5_reasonAgainst_51 (by decide) ?_
        exact pw_iret dX5_reasonAgainst_52 rfl ⟨by rw [reasC, if_pos c_22, if_neg (i_nlt' c_35), if_pos (of_decide_eq_true c_48)], rfl, rfl, rfl⟩
    · refine pw_iconst (v := 2) dX5_reasonAgainst_38 (by decide) ?_
      exact pw_iret dX5_reasonAgainst_39 rfl ⟨by rw [reasC, if_pos c_22, if_pos (i_lt c_35)], rfl, rfl, rfl⟩
  · refine pw_iconst (v := 1) dX5_reasonAgainst_25 (by decide) ?_
    exact pw_iret dX5_reasonAgainst_26 rfl ⟨by rw [reasC, if_neg c_22], rfl, rfl, rfl⟩
end
section
/-! hours: what happens to the plant's cells -/
theorem up2_nj {α : Type} {f : Nat → Nat → α} {q k j : Nat} {x : α} (h : j ≠ k) : up2 f q k x q j = f q j := up2_n (fun z => h z.2)
theorem up2_ni {α : Type} {f : Nat → Nat → α} {q k i j : Nat} {x : α} (h : i ≠ q) : up2 f q k x i j = f i j := up2_n (fun z => h z.1)
def mendF (F : pF) (q : Nat) : pF := up2 F q 2 (FP.fadd (F q 2) (FP.fmul (FP.fsub 1065353216 (F q 2)) 1061158912))
def runOne (I : pI) (q : Nat) (F : pF) : pF := up2 (up2 F q 3 (FP.fadd (F q 3) (FP.fmul (FP.i2f (I q 0)) (F q 2)))) q 2 (wornF (F q 1) (F q 2))
def runAF (I : pI) (p : Nat) : Nat → pF → pF
  | 0, F => F
  | k + 1, F => if I (p + 5 + k) 4 = 0 then runAF I p k F else runOne I (p + 5 + k) (runAF I p k F)
theorem runAF_t {I : pI} {p k : Nat} {F : pF} (h : ¬ I (p + 5 + k) 4 = 0) : runAF I p (k + 1) F = runOne I (p + 5 + k) (runAF I p k F) := by rw [runAF, if_neg h]
theorem runAF_f {I : pI} {p k : Nat} {F : pF} (h : I (p + 5 + k) 4 = 0) : runAF I p (k + 1) F = runAF I p k F := by rw [runAF, if_pos h]
def wk1 (p k : Nat) (W : pI × pF × Nat) : pI × pF × Nat :=
  if W.1 (p + 18 + k) 7 = 2 then
    if 0 < W.1 (p + 18 + k) 9 - 1 then (up2 W.1 (p + 18 + k) 9 (W.1 (p + 18 + k) 9 - 1), W.2.1, W.2.2)
    else (up2 (up2 W.1 (p + 18 + k) 9 (W.1 (p + 18 + k) 9 - 1)) (p + 18 + k) 7 3, mendF W.2.1 (p + 5 + (W.1 (p + 18 + k) 0).toNatClampNeg), W.2.2 + 1)
  else W
def wkN (p : Nat) : Nat → pI → pF → pI × pF × Nat
  | 0, I, F => (I, F, 0)
  | k + 1, I, F => wk1 p k (wkN p k I F)
theorem wk1_n {p k : Nat} {W : pI × pF × Nat} (h : ¬ W.1 (p + 18 + k) 7 = 2) : wk1 p k W = W := by rw [wk1, if_neg h]
theorem wk1_a {p k : Nat} {I : pI} {F : pF} {c : Nat} (h : I (p + 18 + k) 7 = 2) (h2 : 0 < I (p + 18 + k) 9 - 1) : wk1 p k (I, F, c) = (up2 I (p + 18 + k) 9 (I (p + 18 + k) 9 - 1), F, c) := by
  have h : ((I, F, c) : pI × pF × Nat).1 (p + 18 + k) 7 = 2 := h
  rw [wk1, if_pos h, if_pos h2]
theorem wk1_b {p k a : Nat} {I : pI} {F : pF} {c : Nat} (h : I (p + 18 + k) 7 = 2) (h2 : ¬ 0 < I (p + 18 + k) 9 - 1) (ha : I (p + 18 + k) 0 = nI a) (ha3 : a < 8) : wk1 p k (I, F, c) = (up2 (up2 I (p + 18 + k) 9 (I (p + 18 + k) 9 - 1)) (p + 18 + k) 7 3, mendF F (p + 5 + a), c + 1) := by
  have h : ((I, F, c) : pI × pF × Nat).1 (p + 18 + k) 7 = 2 := h
  rw [wk1, if_pos h, if_neg h2]
  simp only [ha, nI_clamp (show a < 2 ^ 31 by omega)]
theorem wk1_fr {p k : Nat} {W : pI × pF × Nat} {i j : Nat} (h : i ≠ p + 18 + k ∨ (j ≠ 7 ∧ j ≠ 9)) : (wk1 p k W).1 i j = W.1 i j := by
  unfold wk1
  split
  · split
    · exact up2_n (fun z => by rcases h with h | h; exact h z.1; exact h.2 z.2)
    · show up2 (up2 W.1 _ _ _) _ _ _ i j = _
      rw [up2_n (fun z => by rcases h with h | h; exact h z.1; exact h.1 z.2), up2_n (fun z => by rcases h with h | h; exact h z.1; exact h.2 z.2)]
  · rfl
theorem wkN_fr {p : Nat} {I : pI} {F : pF} {i j : Nat} : ∀ (n : Nat), (i < p + 18 ∨ p + 18 + n ≤ i ∨ (j ≠ 7 ∧ j ≠ 9)) → (wkN p n I F).1 i j = I i j
  | 0, _ => rfl
  | k + 1, h => by
    show (wk1 p k (wkN p k I F)).1 i j = I i j
    rw [wk1_fr (by omega)]
    exact wkN_fr k (by omega)
def sl1 (p k : Nat) (I : pI) : pI := if (0 ≤ I (p + 18 + k) 7 ∧ I (p + 18 + k) 7 ≤ 1) ∧ I (p + 18 + k) 6 < I p 7 + I (p + 18 + k) 4 then slipI I (p + 18 + k) else I
def slN (p : Nat) : Nat → pI → pI
  | 0, I => I
  | k + 1, I => sl1 p k (slN p k I)
theorem slipI_fr {I : pI} {q i j : Nat} (h : i ≠ q ∨ (j ≠ 5 ∧ j ≠ 6 ∧ j ≠ 7 ∧ j ≠ 10)) : slipI I q i j = I i j := by
  unfold slipI
  split
  · exact up2_n (fun z => by rcases h with h | h; exact h z.1; exact h.2.2.1 z.2)
  · rw [up2_n (fun z => by rcases h with h | h; exact h z.1; exact h.2.2.2 z.2), up2_n (fun z => by rcases h with h | h; exact h z.1; exact h.2.1 z.2), up2_n (fun z => by rcases h with h | h; exact h z.1; exact h.1 z.2)]
theorem sl1_fr {p k i j : Nat} {I : pI} (h : i ≠ p + 18 + k ∨ (j ≠ 5 ∧ j ≠ 6 ∧ j ≠ 7 ∧ j ≠ 10)) : sl1 p k I i j = I i j := by
  unfold sl1
  split
  · exact slipI_fr h
  · rfl
theorem slN_fr {p : Nat} {I : pI} {i j : Nat} : ∀ (n : Nat), (i < p + 18 ∨ p + 18 + n ≤ i ∨ (j ≠ 5 ∧ j ≠ 6 ∧ j ≠ 7 ∧ j ≠ 10)) → slN p n I i j = I i j
  | 0, _ => rfl
  | k + 1, h => by
    show sl1 p k (slN p k I) i j = I i j
    rw [sl1_fr (by omega)]
    exact slN_fr k (by omega)
/-- one hour: how many tasks are finished in it -/
def hrS (p nA n : Nat) (W : pI × pF × Nat) : pI × pF × Nat :=
  (slN p n (up2 (wkN p n W.1 (runAF W.1 p nA W.2.1)).1 p 7 ((wkN p n W.1 (runAF W.1 p nA W.2.1)).1 p 7 + 1)), (wkN p n W.1 (runAF W.1 p nA W.2.1)).2.1, W.2.2 + (wkN p n W.1 (runAF W.1 p nA W.2.1)).2.2)
def psN (p nA n : Nat) : Nat → pI → pF → pI × pF × Nat
  | 0, I, F => (I, F, 0)
  | k + 1, I, F => hrS p nA n (psN p nA n k I F)
theorem hrS_fr {p nA n i j : Nat} {W : pI × pF × Nat} (h : j ≠ 5 ∧ j ≠ 6 ∧ j ≠ 7 ∧ j ≠ 9 ∧ j ≠ 10 ∨ (i ≠ p ∧ (i < p + 18 ∨ p + 18 + n ≤ i)) ∨ (i = p ∧ j ≠ 7)) : (hrS p nA n W).1 i j = W.1 i j := by
  show slN p n (up2 _ p 7 _) i j = _
  rw [slN_fr n (by omega), up2_n (by omega), wkN_fr n (by omega)]
theorem psN_fr {p nA n i j : Nat} {I : pI} {F : pF} (h : j ≠ 5 ∧ j ≠ 6 ∧ j ≠ 7 ∧ j ≠ 9 ∧ j ≠ 10 ∨ (i ≠ p ∧ (i < p + 18 ∨ p + 18 + n ≤ i)) ∨ (i = p ∧ j ≠ 7)) : ∀ k, (psN p nA n k I F).1 i j = I i j
  | 0 => rfl
  | k + 1 => (hrS_fr h).trans (psN_fr h k)

set_option maxRecDepth 4000 in
theorem sp_mendAsset {σ : pT} {I : pI} {F : pF} {p nA a : Nat} (h : isPl σ p) (hA : I p 4 = nI nA) (hA8 : nA ≤ 8) (ha : a < nA) : PE yX5_mendAsset cX5_mendAsset mX5_mendAsset [.ref p, .int (nI a)] σ I F none I (mendF F (p + 5 + a)) := by
  refine PE.of oP_X5_mendAsset (catOK rfl) (Nat.le_of_ble_eq_true rfl) ?_
  show PW _ _ _ 0 [.ref p, .int (nI a)] [] _ _ _ _
  refine pw_aload_n dX5_mendAsset_0 rfl rfl ?_
  refine pw_iload_n dX5_mendAsset_1 rfl rfl ?_
  refine pe_callVi dX5_mendAsset_2 oX_X5_hasAsset lk_RX5_67 (sp_hasAsset h) (pl_k h) rfl rfl (Nat.le_of_ble_eq_true rfl) (by decide) ?_
  refine pw_ifB_eq (tgt := 17) dX5_mendAsset_5 (by decide) (fun c_5 => (has_not hA ha (by omega) c_5).elim) (fun c_5 => ?_)
  refine pw_aload_n dX5_mendAsset_8 rfl rfl ?_
  refine pw_getR (x := (p + 1)) dX5_mendAsset_9 fd_RX5_11 (by decide) (pl_k h) rfl (pl_rA h) ?_
  refine pw_iload_n dX5_mendAsset_12 rfl rfl ?_
  refine pw_aaldN (j := a) (x := (p + 5 + a)) dX5_mendAsset_13 (pl_kA h) (by omega) (by decide) (by decide) (pl_eA h (by omega)) ?_
  refine pe_callVv dX5_mendAsset_14 oX_X0_mend lk_RX5_159 (sp_mend (pl_oA h (by omega))) (pl_oA h (by omega)) rfl rfl (Nat.le_of_ble_eq_true rfl) (by decide) ?_
  exact pw_vret dX5_mendAsset_17 rfl ⟨rfl, rfl, rfl, rfl⟩

set_option maxRecDepth 4000 in
theorem sp_runAssets {σ : pT} {I : pI} {F : pF} {p nA : Nat} (h : isPl σ p) (hA : I p 4 = nI nA) (hA8 : nA ≤ 8)  : PE yX5_runAssets cX5_runAssets mX5_runAssets [.ref p] σ I F none I (runAF I p nA F) := by
  refine PE.of oP_X5_runAssets (catOK rfl) (Nat.le_of_ble_eq_true rfl) ?_
  show PW _ _ _ 0 [.ref p, pJ] [] _ _ _ _
  have L2 : ∀ k, k ≤ nA → PW cX5_runAssets mX5_runAssets (fM (qE none σ I (runAF I p nA F))) 2 [.ref p, .int (nI k)] [] σ I (runAF I p k F) (0, 0) := by
    refine dn (fun k => PW cX5_runAssets mX5_runAssets (fM (qE none σ I (runAF I p nA F))) 2 [.ref p, .int (nI k)] [] σ I (runAF I p k F) (0, 0)) nA ?_ ?_
    · skip
      refine pw_iload_n dX5_runAssets_2 rfl rfl ?_
      refine pw_aload_n dX5_runAssets_3 rfl rfl ?_
      refine pw_getI dX5_runAssets_4 fd_RX5_33 (by decide) (pl_k h) rfl ?_
      refine pw_icmp_ge (tgt := 37) dX5_runAssets_7 (by decide) (fun c_7 => ?_) (fun c_7 => absurd (k_ge hA) c_7)
      exact pw_vret dX5_runAssets_37 rfl ⟨rfl, rfl, rfl, rfl⟩
    · intro k hk ih
      refine pw_iload_n dX5_runAssets_2 rfl rfl ?_
      refine pw_aload_n dX5_runAssets_3 rfl rfl ?_
      refine pw_getI dX5_runAssets_4 fd_RX5_33 (by decide) (pl_k h) rfl ?_
      refine pw_icmp_ge (tgt := 37) dX5_runAssets_7 (by decide) (fun c_7 => absurd c_7 (k_lt hA hk (by omega))) (fun c_7 => ?_)
      refine pw_aload_n dX5_runAssets_10 rfl rfl ?_
      refine pw_getR (x := (p + 1)) dX5_runAssets_11 fd_RX5_11 (by decide) (pl_k h) rfl (pl_rA h) ?_
      refine pw_iload_n dX5_runAssets_14 rfl rfl ?_
      refine pw_aaldN (j := k) (x := (p + 5 + k)) dX5_runAssets_15 (pl_kA h) (by omega) (by decide) (by decide) (pl_eA h (by omega)) ?_
      refine pw_getI dX5_runAssets_16 fd_RX5_94 (by decide) (pl_oA h (by omega)) rfl ?_
      refine pw_if_eq (tgt := 31) dX5_runAssets_19 (by decide) (fun c_19 => ?_) (fun c_19 => ?_)
      · refine pw_iinc (v := nI (k + 1)) dX5_runAssets_31 rfl (nI_add _ _) rfl ?_
        refine pw_goto (tgt := 2) dX5_runAssets_34 (by decide) ?_
        rw [runAF_f c_19] at ih
        exact ih
      · refine pw_aload_n dX5_runAssets_22 rfl rfl ?_
        refine pw_getR (x := (p + 1)) dX5_runAssets_23 fd_RX5_11 (by decide) (pl_k h) rfl (pl_rA h) ?_
        refine pw_iload_n dX5_runAssets_26 rfl rfl ?_
        refine pw_aaldN (j := k) (x := (p + 5 + k)) dX5_runAssets_27 (pl_kA h) (by omega) (by decide) (by decide) (pl_eA h (by omega)) ?_
        refine pe_callVv dX5_runAssets_28 oX_X0_runForAnHour lk_RX5_152 (sp_runForAnHour (pl_oA h (by omega))) (pl_oA h (by omega)) rfl rfl (Nat.le_of_ble_eq_true rfl) (by decide) ?_
        refine pw_iinc (v := nI (k + 1)) dX5_runAssets_31 rfl (nI_add _ _) rfl ?_
        refine pw_goto (tgt := 2) dX5_runAssets_34 (by decide) ?_
        rw [runAF_t c_19] at ih
        exact ih
  refine pw_iconst (v := 0) dX5_runAssets_0 (by decide) ?_
  refine pw_istore_n dX5_runAssets_1 rfl (by decide) rfl ?_
  exact L2 0 (Nat.zero_le _)

set_option maxRecDepth 4000 in
theorem sp_workOnTasks {σ : pT} {I : pI} {F : pF} {p nA n : Nat} (h : isPl σ p) (hn : I p 6 = nI n) (hn4 : n ≤ 24) (hA : I p 4 = nI nA) (hA8 : nA ≤ 8) (hW : ∀ t, t < n → ∃ a, a < nA ∧ I (p + 18 + t) 0 = nI a)  : PE yX5_workOnTasks cX5_workOnTasks mX5_workOnTasks [.ref p] σ I F (some (.int (nI (wkN p n I F).2.2))) (wkN p n I F).1 (wkN p n I F).2.1 := by
  refine PE.of oP_X5_workOnTasks (catOK rfl) (Nat.le_of_ble_eq_true rfl) ?_
  show PW _ _ _ 0 [.ref p, pJ, pJ, pJ] [] _ _ _ _
  have L4 : ∀ k, k ≤ n → ∀ w : Value, PW cX5_workOnTasks mX5_workOnTasks (fM (qE (some (.int (nI (wkN p n I F).2.2))) σ (wkN p n I F).1 (wkN p n I F).2.1)) 4 [.ref p, .int (nI (wkN p k I F).2.2), .int (nI k), w] [] σ (wkN p k I F).1 (wkN p k I F).2.1 (0, 0) := by
    refine dn (fun k => ∀ w : Value, PW cX5_workOnTasks mX5_workOnTasks (fM (qE (some (.int (nI (wkN p n I F).2.2))) σ (wkN p n I F).1 (wkN p n I F).2.1)) 4 [.ref p, .int (nI (wkN p k I F).2.2), .int (nI k), w] [] σ (wkN p k I F).1 (wkN p k I F).2.1 (0, 0)) n ?_ ?_
    · intro w
      refine pw_iload_n dX5_workOnTasks_4 rfl rfl ?_
      refine pw_aload_n dX5_workOnTasks_5 rfl rfl ?_
      refine pw_getI dX5_workOnTasks_6 fd_RX5_40 (by decide) (pl_k h) rfl ?_
      refine pw_icmp_ge (tgt := 66) dX5_workOnTasks_9 (by decide) (fun c_9 => ?_) (fun c_9 => absurd (k_ge ((wkN_fr n (by omega)).trans hn)) c_9)
      refine pw_iload_n dX5_workOnTasks_66 rfl rfl ?_
      exact pw_iret dX5_workOnTasks_67 rfl ⟨rfl, rfl, rfl, rfl⟩
    · intro k hk ih
      intro w
      have hn1 : (wkN p k I F).1 p 6 = nI n := (wkN_fr k (by omega)).trans hn
      have hA1 : (wkN p k I F).1 p 4 = nI nA := (wkN_fr k (by omega)).trans hA
      obtain ⟨a1, ha1, hat0⟩ := hW k hk
      have hat1 : (wkN p k I F).1 (p + 18 + k) 0 = nI a1 := (wkN_fr k (by omega)).trans hat0
      rw [show wkN p (k + 1) I F = wk1 p k (wkN p k I F) from rfl] at ih
      revert ih hn1 hA1 hat1
      generalize wkN p k I F = W
      obtain ⟨I1, F1, c1⟩ := W
      intro ih hn1 hA1 hat1
      dsimp only at ih hn1 hA1 hat1 ⊢
      refine pw_iload_n dX5_workOnTasks_4 rfl rfl ?_
      refine pw_aload_n dX5_workOnTasks_5 rfl rfl ?_
      refine pw_getI dX5_workOnTasks_6 fd_RX5_40 (by decide) (pl_k h) rfl ?_
      refine pw_icmp_ge (tgt := 66) dX5_workOnTasks_9 (by decide) (fun c_9 => absurd c_9 (k_lt hn1 hk (by omega))) (fun c_9 => ?_)
      refine pw_aload_n dX5_workOnTasks_12 rfl rfl ?_
      refine pw_getR (x := (p + 3)) dX5_workOnTasks_13 fd_RX5_25 (by decide) (pl_k h) rfl (pl_rT h) ?_
      refine pw_iload_n dX5_workOnTasks_16 rfl rfl ?_
      refine pw_aaldN (j := k) (x := (p + 18 + k)) dX5_workOnTasks_17 (pl_kT h) (by omega) (by decide) (by decide) (pl_eT h (by omega)) ?_
      refine pw_astore_n dX5_workOnTasks_18 rfl (by decide) rfl ?_
      refine pw_aload_n dX5_workOnTasks_19 rfl rfl ?_
      refine pw_getI dX5_workOnTasks_20 fd_RX5_108 (by decide) (pl_oT h (by omega)) rfl ?_
      refine pw_iconst (v := 2) dX5_workOnTasks_23 (by decide) ?_
      refine pw_icmp_ne (tgt := 60) dX5_workOnTasks_24 (by decide) (fun c_24 => ?_) (fun c_24 => ?_)
      · refine pw_iinc (v := nI (k + 1)) dX5_workOnTasks_60 rfl (nI_add _ _) rfl ?_
        refine pw_goto (tgt := 4) dX5_workOnTasks_63 (by decide) ?_
        rw [wk1_n c_24] at ih
        exact ih _
      · refine pw_aload_n dX5_workOnTasks_27 rfl rfl ?_
        refine pw_dup dX5_workOnTasks_28 rfl ?_
        refine pw_getI dX5_workOnTasks_29 fd_RX5_133 (by decide) (pl_oT h (by omega)) rfl ?_
        refine pw_iconst (v := 1) dX5_workOnTasks_32 (by decide) ?_
        refine pw_isub dX5_workOnTasks_33 ?_
        refine pw_putI dX5_workOnTasks_34 fd_RX5_133 (by decide) rfl ⟨rfl, rfl, rfl⟩ (pl_oT h (by omega)) ?_
        refine pw_aload_n dX5_workOnTasks_37 rfl rfl ?_
        refine pw_getI dX5_workOnTasks_38 fd_RX5_133 (by decide) (pl_oT h (by omega)) rfl ?_
        refine pw_if_gt (tgt := 60) dX5_workOnTasks_41 (by decide) (fun c_41 => ?_) (fun c_41 => ?_)
        · rw [up2_s] at c_41
          refine pw_iinc (v := nI (k + 1)) dX5_workOnTasks_60 rfl (nI_add _ _) rfl ?_
          refine pw_goto (tgt := 4) dX5_workOnTasks_63 (by decide) ?_
          rw [wk1_a c_24 c_41] at ih
          exact ih _
        · rw [up2_s] at c_41
          refine pw_aload_n dX5_workOnTasks_44 rfl rfl ?_
          refine pw_iconst (v := 3) dX5_workOnTasks_45 (by decide) ?_
          refine pw_putI dX5_workOnTasks_46 fd_RX5_108 (by decide) rfl ⟨rfl, rfl, rfl⟩ (pl_oT h (by omega)) ?_
          refine pw_iinc (v := nI (c1 + 1)) dX5_workOnTasks_49 rfl (nI_add _ _) rfl ?_
          refine pw_aload_n dX5_workOnTasks_52 rfl rfl ?_
          refine pw_aload_n dX5_workOnTasks_53 rfl rfl ?_
          refine pw_getI dX5_workOnTasks_54 fd_RX5_111 (by decide) (pl_oT h (by omega)) rfl ?_
          rw [up2_nj (by decide), up2_nj (by decide), hat1]
          refine pe_callVv dX5_workOnTasks_57 oX_X5_mendAsset lk_RX5_155 (sp_mendAsset (a := a1) h (nA := nA) ((up2_ni (by omega)).trans ((up2_ni (by omega)).trans hA1)) hA8 ha1) (pl_k h) rfl rfl (Nat.le_of_ble_eq_true rfl) (by decide) ?_
          refine pw_iinc (v := nI (k + 1)) dX5_workOnTasks_60 rfl (nI_add _ _) rfl ?_
          refine pw_goto (tgt := 4) dX5_workOnTasks_63 (by decide) ?_
          rw [wk1_b c_24 c_41 hat1 (by omega)] at ih
          exact ih _
  refine pw_iconst (v := 0) dX5_workOnTasks_0 (by decide) ?_
  refine pw_istore_n dX5_workOnTasks_1 rfl (by decide) rfl ?_
  refine pw_iconst (v := 0) dX5_workOnTasks_2 (by decide) ?_
  refine pw_istore_n dX5_workOnTasks_3 rfl (by decide) rfl ?_
  exact L4 0 (Nat.zero_le _) _

set_option maxRecDepth 4000 in
theorem sp_slipTasks {σ : pT} {I : pI} {F : pF} {p n : Nat} (h : isPl σ p) (hn : I p 6 = nI n) (hn4 : n ≤ 24)  : PE yX5_slipTasks cX5_slipTasks mX5_slipTasks [.ref p] σ I F none (slN p n I) F := by
  refine PE.of oP_X5_slipTasks (catOK rfl) (Nat.le_of_ble_eq_true rfl) ?_
  show PW _ _ _ 0 [.ref p, pJ, pJ] [] _ _ _ _
  have L2 : ∀ k, k ≤ n → ∀ w : Value, PW cX5_slipTasks mX5_slipTasks (fM (qE none σ (slN p n I) F)) 2 [.ref p, .int (nI k), w] [] σ (slN p k I) F (0, 0) := by
    refine dn (fun k => ∀ w : Value, PW cX5_slipTasks mX5_slipTasks (fM (qE none σ (slN p n I) F)) 2 [.ref p, .int (nI k), w] [] σ (slN p k I) F (0, 0)) n ?_ ?_
    · intro w
      refine pw_iload_n dX5_slipTasks_2 rfl rfl ?_
      refine pw_aload_n dX5_slipTasks_3 rfl rfl ?_
      refine pw_getI dX5_slipTasks_4 fd_RX5_40 (by decide) (pl_k h) rfl ?_
      refine pw_icmp_ge (tgt := 47) dX5_slipTasks_7 (by decide) (fun c_7 => ?_) (fun c_7 => absurd (k_ge ((slN_fr n (by omega)).trans hn)) c_7)
      exact pw_vret dX5_slipTasks_47 rfl ⟨rfl, rfl, rfl, rfl⟩
    · intro k hk ih
      intro w
      have hn1 : slN p k I p 6 = nI n := (slN_fr k (by omega)).trans hn
      rw [show slN p (k + 1) I = sl1 p k (slN p k I) from rfl] at ih
      revert ih hn1
      generalize slN p k I = I1
      intro ih hn1
      refine pw_iload_n dX5_slipTasks_2 rfl rfl ?_
      refine pw_aload_n dX5_slipTasks_3 rfl rfl ?_
      refine pw_getI dX5_slipTasks_4 fd_RX5_40 (by decide) (pl_k h) rfl ?_
      refine pw_icmp_ge (tgt := 47) dX5_slipTasks_7 (by decide) (fun c_7 => absurd c_7 (k_lt hn1 hk (by omega))) (fun c_7 => ?_)
      refine pw_aload_n dX5_slipTasks_10 rfl rfl ?_
      refine pw_getR (x := (p + 3)) dX5_slipTasks_11 fd_RX5_25 (by decide) (pl_k h) rfl (pl_rT h) ?_
      refine pw_iload_n dX5_slipTasks_14 rfl rfl ?_
      refine pw_aaldN (j := k) (x := (p + 18 + k)) dX5_slipTasks_15 (pl_kT h) (by omega) (by decide) (by decide) (pl_eT h (by omega)) ?_
      refine pw_astore_n dX5_slipTasks_16 rfl (by decide) rfl ?_
      refine pw_aload_n dX5_slipTasks_17 rfl rfl ?_
      refine pw_iconst (v := 0) dX5_slipTasks_18 (by decide) ?_
      refine pw_iconst (v := 1) dX5_slipTasks_19 (by decide) ?_
      refine pe_callVi dX5_slipTasks_20 oX_X6_isIn lk_RX5_162 (sp_T_isIn (pl_oT h (by omega))) (pl_oT h (by omega)) rfl rfl (Nat.le_of_ble_eq_true rfl) (by decide) ?_
      refine pw_ifB_eq (tgt := 41) dX5_slipTasks_23 (by decide) (fun c_23 => ?_) (fun c_23 => ?_)
      · refine pw_iinc (v := nI (k + 1)) dX5_slipTasks_41 rfl (nI_add _ _) rfl ?_
        refine pw_goto (tgt := 2) dX5_slipTasks_44 (by decide) ?_
        rw [sl1, if_neg (fun z => of_decide_eq_false c_23 z.1)] at ih
        exact ih _
      · refine pw_aload_n dX5_slipTasks_26 rfl rfl ?_
        refine pw_aload_n dX5_slipTasks_27 rfl rfl ?_
        refine pw_getI dX5_slipTasks_28 fd_RX5_43 (by decide) (pl_k h) rfl ?_
        refine pe_callVi dX5_slipTasks_31 oX_X6_isTooLateAt lk_RX5_165 (sp_T_isTooLateAt (pl_oT h (by omega))) (pl_oT h (by omega)) rfl rfl (Nat.le_of_ble_eq_true rfl) (by decide) ?_
        refine pw_ifB_eq (tgt := 41) dX5_slipTasks_34 (by decide) (fun c_34 => ?_) (fun c_34 => ?_)
        · refine pw_iinc (v := nI (k + 1)) dX5_slipTasks_41 rfl (nI_add _ _) rfl ?_
          refine pw_goto (tgt := 2) dX5_slipTasks_44 (by decide) ?_
          rw [sl1, if_neg (fun z => of_decide_eq_false c_34 z.2)] at ih
          exact ih _
        · refine pw_aload_n dX5_slipTasks_37 rfl rfl ?_
          refine pe_callVv dX5_slipTasks_38 oX_X6_slip lk_RX5_168 (sp_T_slip (pl_oT h (by omega))) (pl_oT h (by omega)) rfl rfl (Nat.le_of_ble_eq_true rfl) (by decide) ?_
          refine pw_iinc (v := nI (k + 1)) dX5_slipTasks_41 rfl (nI_add _ _) rfl ?_
          refine pw_goto (tgt := 2) dX5_slipTasks_44 (by decide) ?_
          rw [sl1, if_pos ⟨of_decide_eq_true c_23, of_decide_eq_true c_34⟩] at ih
          exact ih _
  refine pw_iconst (v := 0) dX5_slipTasks_0 (by decide) ?_
  refine pw_istore_n dX5_slipTasks_1 rfl (by decide) rfl ?_
  exact L2 0 (Nat.zero_le _) _
end
section
/-! what changes a plant: the answer, and the cells behind it -/
theorem rL {v : Int32} {σ : pT} {I1 : pI} {F1 : pF} {R : Int32 × pI × pF} (h : R = (v, I1, F1)) : some (Value.int v) = some (Value.int R.1) ∧ σ = σ ∧ I1 = R.2.1 ∧ F1 = R.2.2 := by
  subst h
  exact ⟨rfl, rfl, rfl, rfl⟩
theorem win_nat {x : Int32} {lo hi : Nat} (h : decide (nI lo ≤ x ∧ x ≤ nI hi) = true) (hb : hi < 2 ^ 31) (hl : lo < 2 ^ 31) : ∃ d, lo ≤ d ∧ d ≤ hi ∧ x = nI d := by
  obtain ⟨h1, h2⟩ := of_decide_eq_true h
  rw [Int32.le_iff_toInt_le, nI_toInt hl] at h1
  rw [Int32.le_iff_toInt_le, nI_toInt hb] at h2
  have h3 : (0 : Int32).toInt = 0 := by decide
  obtain ⟨j, hj, rfl⟩ := nI_of (x := x) (by rw [Int32.lt_iff_toInt_lt, h3]; omega)
  rw [nI_toInt hj] at h1 h2
  exact ⟨j, by omega, by omega, rfl⟩
def us (x k : Int32) : Int32 := (x.toUInt32 >>> (k.toUInt32 &&& Int32.toUInt32 31)).toInt32
def bc1 (x : Int32) : Int32 := x - (us x 1 &&& 1431655765)
def bc2 (x : Int32) : Int32 := (x &&& 858993459) + (us x 2 &&& 858993459)
def bc3 (x : Int32) : Int32 := (x + us x 4) &&& 252645135
def bc4 (x : Int32) : Int32 := x + us x 8
def bc5 (x : Int32) : Int32 := x + us x 16
def bitC (x : Int32) : Int32 := bc5 (bc4 (bc3 (bc2 (bc1 x)))) &&& 63
def passR (I : pI) (F : pF) (p nA n : Nat) (x : Int32) : Int32 × pI × pF :=
  if 1 ≤ x ∧ x ≤ 48 then
    if I p 7 + x ≤ 2000 then (nI (psN p nA n x.toNatClampNeg I F).2.2, (psN p nA n x.toNatClampNeg I F).1, (psN p nA n x.toNatClampNeg I F).2.1)
    else (-4, I, F)
  else (-2, I, F)
def newAssetR (I : pI) (F : pF) (p nA : Nat) (r w : Int32) : Int32 × pI × pF :=
  if (1 ≤ r ∧ r ≤ 100) ∧ (1 ≤ w ∧ w ≤ 200) then
    if nA < 8 then (nI nA, up2 (up2 (up2 (up2 I (p + 5 + nA) 0 r) (p + 5 + nA) 4 0) (p + 5 + nA) 5 0) p 4 (nI (nA + 1)), up2 (up2 (up2 F (p + 5 + nA) 1 (FP.fdiv (FP.i2f w) 1148846080)) (p + 5 + nA) 2 1065353216) (p + 5 + nA) 3 0)
    else (-3, I, F)
  else (-2, I, F)
def newCrewR (I : pI) (F : pF) (p nC : Nat) (r w : Int32) : Int32 × pI × pF :=
  if (1 ≤ r ∧ r ≤ 6) ∧ (0 ≤ w ∧ w ≤ 15) then
    if nC < 5 then (nI nC, up2 (up2 (up2 I (p + 13 + nC) 0 r) (p + 13 + nC) 1 w) p 5 (nI (nC + 1)), F)
    else (-3, I, F)
  else (-2, I, F)
def linkB (I : pI) (p a : Nat) (o : Int32) : Bool := decide ((I (p + 5 + a) 5 >>> (o &&& 31)) &&& 1 = 1)
def setLinkR (I : pI) (F : pF) (p : Nat) (a o z : Int32) : Int32 × pI × pF :=
  if (0 ≤ a ∧ a < I p 4) ∧ (0 ≤ o ∧ o < I p 4) then
    if a = o then (-2, I, F)
    else if bI (linkB I p a.toNatClampNeg o) = z then (-5, I, F)
    else
      (bitC (up2 (up2 I (p + 5 + a.toNatClampNeg) 5 (I (p + 5 + a.toNatClampNeg) 5 ^^^ (1 <<< (o &&& 31)))) (p + 5 + o.toNatClampNeg) 5 (up2 I (p + 5 + a.toNatClampNeg) 5 (I (p + 5 + a.toNatClampNeg) 5 ^^^ (1 <<< (o &&& 31))) (p + 5 + o.toNatClampNeg) 5 ^^^ (1 <<< (a &&& 31))) (p + 5 + a.toNatClampNeg) 5),
       up2 (up2 I (p + 5 + a.toNatClampNeg) 5 (I (p + 5 + a.toNatClampNeg) 5 ^^^ (1 <<< (o &&& 31)))) (p + 5 + o.toNatClampNeg) 5 (up2 I (p + 5 + a.toNatClampNeg) 5 (I (p + 5 + a.toNatClampNeg) 5 ^^^ (1 <<< (o &&& 31))) (p + 5 + o.toNatClampNeg) 5 ^^^ (1 <<< (a &&& 31))), F)
  else (-1, I, F)
def barI1 (I : pI) (p k : Nat) (o : Int32) : pI := up2 I (p + 4) k (I (p + 4) k ^^^ (1 <<< (o &&& 31)))
def barI2 (I : pI) (p k j : Nat) : pI := if nI k = nI j then barI1 I p k (nI j) else barI1 (barI1 I p k (nI j)) p j (nI k)
def setBarR (I : pI) (F : pF) (p : Nat) (a o z : Int32) : Int32 × pI × pF :=
  if (0 ≤ a ∧ a ≤ 4) ∧ (0 ≤ o ∧ o ≤ 4) then
    if bI (barB I p a.toNatClampNeg o) = z then (-5, I, F)
    else (bitC (barI2 I p a.toNatClampNeg o.toNatClampNeg (p + 4) a.toNatClampNeg), barI2 I p a.toNatClampNeg o.toNatClampNeg, F)
  else (-2, I, F)
def taskI (I : pI) (q : Nat) (a b c d e f : Int32) : pI := up2 (up2 (up2 (up2 (up2 (up2 (up2 (up2 (up2 (up2 (up2 (up2 I q 0 a) q 1 b) q 2 c) q 3 d) q 4 e) q 5 f) q 6 (f + 2 * e + 6)) q 7 0) q 8 (-5)) q 9 0) q 10 0) q 11 0
def newTaskR (I : pI) (F : pF) (p n : Nat) (a s c d e f : Int32) : Int32 × pI × pF :=
  if 0 ≤ a ∧ a < I p 4 then
    if (0 ≤ s ∧ s ≤ 3) ∧ (1 ≤ c ∧ c ≤ 6) ∧ (0 ≤ d ∧ d ≤ 4) ∧ (1 ≤ e ∧ e ≤ 48) ∧ (I p 7 ≤ f ∧ f ≤ 2000) then
      if n < 24 then (nI n, up2 (taskI I (p + 18 + n) a s c d e f) p 6 (nI (n + 1)), F) else (-3, I, F)
    else (-2, I, F)
  else (-1, I, F)
def runsC (I : pI) (p nA : Nat) : Nat := cntT (fun a => decide (¬ I (p + 5 + a) 4 = 0)) nA
def startR (I : pI) (F : pF) (p nA n : Nat) (a : Int32) : Int32 × pI × pF :=
  if 0 ≤ a ∧ a < I p 4 then
    if nI (tagsC I p n a) ≤ 0 then
      if I (p + 5 + a.toNatClampNeg) 4 = 0 then (nI (runsC (up2 I (p + 5 + a.toNatClampNeg) 4 1) p nA), up2 I (p + 5 + a.toNatClampNeg) 4 1, F) else (-5, I, F)
    else (-4, I, F)
  else (-1, I, F)
def stopR (I : pI) (F : pF) (p nA : Nat) (a : Int32) : Int32 × pI × pF :=
  if 0 ≤ a ∧ a < I p 4 then
    if I (p + 5 + a.toNatClampNeg) 4 = 0 then (-5, I, F) else (nI (runsC (up2 I (p + 5 + a.toNatClampNeg) 4 0) p nA), up2 I (p + 5 + a.toNatClampNeg) 4 0, F)
  else (-1, I, F)
def hangI (I : pI) (p n t : Nat) (c : Int32) : pI := up2 (up2 (up2 I (p + 18 + t) 11 (nI (tagsC I p n (I (p + 18 + t) 0)))) (p + 18 + t) 7 1) (p + 18 + t) 8 c
def hangR (I : pI) (F : pF) (p n : Nat) (a c : Int32) : Int32 × pI × pF :=
  if (0 ≤ a ∧ a < I p 6) ∧ (0 ≤ c ∧ c < I p 5) then
    if I (p + 18 + a.toNatClampNeg) 7 = 0 ∧ I (p + 5 + (I (p + 18 + a.toNatClampNeg) 0).toNatClampNeg) 4 = 0 ∧ serveB I p n c.toNatClampNeg a.toNatClampNeg = true then (nI (tagsC I p n (I (p + 18 + a.toNatClampNeg) 0) + 1), hangI I p n a.toNatClampNeg c, F)
    else (-4, I, F)
  else (-1, I, F)
def beginR (I : pI) (F : pF) (p n : Nat) (a : Int32) : Int32 × pI × pF :=
  if 0 ≤ a ∧ a < I p 6 then
    if reasC I p n a.toNatClampNeg (I (p + 18 + a.toNatClampNeg) 3).toNatClampNeg (I (p + 18 + a.toNatClampNeg) 0).toNatClampNeg = 0 then (I p 7 + I (p + 18 + a.toNatClampNeg) 4, up2 (up2 I (p + 18 + a.toNatClampNeg) 7 2) (p + 18 + a.toNatClampNeg) 9 (I (p + 18 + a.toNatClampNeg) 4), F)
    else (-4, I, F)
  else (-1, I, F)
def liftI (I : pI) (p t : Nat) : pI := if I (p + 18 + t) 7 = 3 then up2 I (p + 18 + t) 7 4 else up2 (up2 I (p + 18 + t) 7 0) (p + 18 + t) 8 (-5)
def liftR (I : pI) (F : pF) (p n : Nat) (a c : Int32) : Int32 × pI × pF :=
  if (0 ≤ a ∧ a < I p 6) ∧ (0 ≤ c ∧ c < I p 5) then
    if (I (p + 18 + a.toNatClampNeg) 7 = 1 ∨ I (p + 18 + a.toNatClampNeg) 7 = 3) ∧ I (p + 18 + a.toNatClampNeg) 8 = c ∧ tagC I p n (I (p + 18 + a.toNatClampNeg) 0) 0 = a then (nI (tagsC (liftI I p a.toNatClampNeg) p n (I (p + 18 + a.toNatClampNeg) 0)), liftI I p a.toNatClampNeg, F)
    else (-4, I, F)
  else (-1, I, F)
def cancelR (I : pI) (F : pF) (p : Nat) (a : Int32) : Int32 × pI × pF :=
  if 0 ≤ a ∧ a < I p 6 then
    if I (p + 18 + a.toNatClampNeg) 7 = 0 then (I (p + 18 + a.toNatClampNeg) 10, up2 I (p + 18 + a.toNatClampNeg) 7 6, F) else (-4, I, F)
  else (-1, I, F)

set_option maxRecDepth 4000 in
theorem sp_bitCount {σ : pT} {I : pI} {F : pF} {x : Int32} : PE yJ6_bitCount_0f7a4 cJ6_bitCount_0f7a4 mJ6_bitCount_0f7a4 [.int x] σ I F (some (.int (bitC x))) I F := by
  refine PE.of oP_J6_bitCount_0f7a4 (catOK rfl) (Nat.le_of_ble_eq_true rfl) ?_
  show PW _ _ _ 0 [.int x] [] _ _ _ _
  refine pw_iload_n dJ6_bitCount_0f7a4_0 rfl rfl ?_
  refine pw_iload_n dJ6_bitCount_0f7a4_1 rfl rfl ?_
  refine pw_iconst (v := 1) dJ6_bitCount_0f7a4_2 (by decide) ?_
  refine pw_iushr dJ6_bitCount_0f7a4_3 rfl ?_
  refine pw_ldcw dJ6_bitCount_0f7a4_4 kc_RJ6_265 ?_
  refine pw_iand dJ6_bitCount_0f7a4_7 ?_
  refine pw_isub dJ6_bitCount_0f7a4_8 ?_
  refine pw_istore_n dJ6_bitCount_0f7a4_9 rfl (by decide) rfl ?_
  refine pw_iload_n dJ6_bitCount_0f7a4_10 rfl rfl ?_
  refine pw_ldcw dJ6_bitCount_0f7a4_11 kc_RJ6_266 ?_
  refine pw_iand dJ6_bitCount_0f7a4_14 ?_
  refine pw_iload_n dJ6_bitCount_0f7a4_15 rfl rfl ?_
  refine pw_iconst (v := 2) dJ6_bitCount_0f7a4_16 (by decide) ?_
  refine pw_iushr dJ6_bitCount_0f7a4_17 rfl ?_
  refine pw_ldcw dJ6_bitCount_0f7a4_18 kc_RJ6_266 ?_
  refine pw_iand dJ6_bitCount_0f7a4_21 ?_
  refine pw_iadd dJ6_bitCount_0f7a4_22 ?_
  refine pw_istore_n dJ6_bitCount_0f7a4_23 rfl (by decide) rfl ?_
  refine pw_iload_n dJ6_bitCount_0f7a4_24 rfl rfl ?_
  refine pw_iload_n dJ6_bitCount_0f7a4_25 rfl rfl ?_
  refine pw_iconst (v := 4) dJ6_bitCount_0f7a4_26 (by decide) ?_
  refine pw_iushr dJ6_bitCount_0f7a4_27 rfl ?_
  refine pw_iadd dJ6_bitCount_0f7a4_28 ?_
  refine pw_ldcw dJ6_bitCount_0f7a4_29 kc_RJ6_267 ?_
  refine pw_iand dJ6_bitCount_0f7a4_32 ?_
  refine pw_istore_n dJ6_bitCount_0f7a4_33 rfl (by decide) rfl ?_
  refine pw_iload_n dJ6_bitCount_0f7a4_34 rfl rfl ?_
  refine pw_iload_n dJ6_bitCount_0f7a4_35 rfl rfl ?_
  refine pw_bipush (v := 8) dJ6_bitCount_0f7a4_36 (by decide) ?_
  refine pw_iushr dJ6_bitCount_0f7a4_38 rfl ?_
  refine pw_iadd dJ6_bitCount_0f7a4_39 ?_
  refine pw_istore_n dJ6_bitCount_0f7a4_40 rfl (by decide) rfl ?_
  refine pw_iload_n dJ6_bitCount_0f7a4_41 rfl rfl ?_
  refine pw_iload_n dJ6_bitCount_0f7a4_42 rfl rfl ?_
  refine pw_bipush (v := 16) dJ6_bitCount_0f7a4_43 (by decide) ?_
  refine pw_iushr dJ6_bitCount_0f7a4_45 rfl ?_
  refine pw_iadd dJ6_bitCount_0f7a4_46 ?_
  refine pw_istore_n dJ6_bitCount_0f7a4_47 rfl (by decide) rfl ?_
  refine pw_iload_n dJ6_bitCount_0f7a4_48 rfl rfl ?_
  refine pw_bipush (v := 63) dJ6_bitCount_0f7a4_49 (by decide) ?_
  refine pw_iand dJ6_bitCount_0f7a4_51 ?_
  exact pw_iret dJ6_bitCount_0f7a4_52 rfl ⟨rfl, rfl, rfl, rfl⟩

set_option maxRecDepth 4000 in
theorem sp_passHours {σ : pT} {I : pI} {F : pF} {p nA n : Nat} {x : Int32} (h : isPl σ p) (hn : I p 6 = nI n) (hn4 : n ≤ 24) (hA : I p 4 = nI nA) (hA8 : nA ≤ 8) (hW : ∀ t, t < n → ∃ a, a < nA ∧ I (p + 18 + t) 0 = nI a)  : PE yX5_passHours cX5_passHours mX5_passHours [.ref p, .int x] σ I F (some (.int (passR I F p nA n x).1)) (passR I F p nA n x).2.1 (passR I F p nA n x).2.2 := by
  have KK : ∀ d, d ≤ 48 → PW cX5_passHours mX5_passHours (fM (qE (some (.int (nI (psN p nA n d I F).2.2))) σ (psN p nA n d I F).1 (psN p nA n d I F).2.1)) 28 [.ref p, .int (nI d), pJ, pJ] [] σ I F (0, 0) := by
    intro d hd
    have L32 : ∀ k, k ≤ d → PW cX5_passHours mX5_passHours (fM (qE (some (.int (nI (psN p nA n d I F).2.2))) σ (psN p nA n d I F).1 (psN p nA n d I F).2.1)) 32 [.ref p, .int (nI d), .int (nI (psN p nA n k I F).2.2), .int (nI k)] [] σ (psN p nA n k I F).1 (psN p nA n k I F).2.1 (0, 0) := by
      refine dn (fun k => PW cX5_passHours mX5_passHours (fM (qE (some (.int (nI (psN p nA n d I F).2.2))) σ (psN p nA n d I F).1 (psN p nA n d I F).2.1)) 32 [.ref p, .int (nI d), .int (nI (psN p nA n k I F).2.2), .int (nI k)] [] σ (psN p nA n k I F).1 (psN p nA n k I F).2.1 (0, 0)) d ?_ ?_
      · skip
        refine pw_iload_n dX5_passHours_32 rfl rfl ?_
        refine pw_iload_n dX5_passHours_33 rfl rfl ?_
        refine pw_icmp_ge (tgt := 68) dX5_passHours_34 (by decide) (fun c_34 => ?_) (fun c_34 => absurd (k_ge rfl) c_34)
        refine pw_iload_n dX5_passHours_68 rfl rfl ?_
        exact pw_iret dX5_passHours_69 rfl ⟨rfl, rfl, rfl, rfl⟩
      · intro k hk ih
        have hn1 : (psN p nA n k I F).1 p 6 = nI n := (psN_fr (by omega) k).trans hn
        have hA1 : (psN p nA n k I F).1 p 4 = nI nA := (psN_fr (by omega) k).trans hA
        have hW1 : ∀ t, t < n → ∃ a, a < nA ∧ (psN p nA n k I F).1 (p + 18 + t) 0 = nI a := fun t ht => by obtain ⟨a, h1, h2⟩ := hW t ht; exact ⟨a, h1, (psN_fr (by omega) k).trans h2⟩
        rw [show psN p nA n (k + 1) I F = hrS p nA n (psN p nA n k I F) from rfl] at ih
        revert ih hn1 hA1 hW1
        generalize psN p nA n k I F = W
        obtain ⟨I1, F1, c1⟩ := W
        intro ih hn1 hA1 hW1
        dsimp only at ih hn1 hA1 hW1 ⊢
        refine pw_iload_n dX5_passHours_32 rfl rfl ?_
        refine pw_iload_n dX5_passHours_33 rfl rfl ?_
        refine pw_icmp_ge (tgt := 68) dX5_passHours_34 (by decide) (fun c_34 => absurd c_34 (k_lt rfl hk (by omega))) (fun c_34 => ?_)
        refine pw_aload_n dX5_passHours_37 rfl rfl ?_
        refine pe_callVv dX5_passHours_38 oX_X5_runAssets lk_RX5_143 (sp_runAssets h hA1 hA8) (pl_k h) rfl rfl (Nat.le_of_ble_eq_true rfl) (by decide) ?_
        refine pw_iload_n dX5_passHours_41 rfl rfl ?_
        refine pw_aload_n dX5_passHours_42 rfl rfl ?_
        refine pe_callVi dX5_passHours_43 oX_X5_workOnTasks lk_RX5_146 (sp_workOnTasks h hn1 hn4 hA1 hA8 hW1) (pl_k h) rfl rfl (Nat.le_of_ble_eq_true rfl) (by decide) ?_
        refine pw_iadd dX5_passHours_46 ?_
        rw [nI_add]
        refine pw_istore_n dX5_passHours_47 rfl (by decide) rfl ?_
        refine pw_aload_n dX5_passHours_48 rfl rfl ?_
        refine pw_dup dX5_passHours_49 rfl ?_
        refine pw_getI dX5_passHours_50 fd_RX5_43 (by decide) (pl_k h) rfl ?_
        refine pw_iconst (v := 1) dX5_passHours_53 (by decide) ?_
        refine pw_iadd dX5_passHours_54 ?_
        refine pw_putI dX5_passHours_55 fd_RX5_43 (by decide) rfl ⟨rfl, rfl, rfl⟩ (pl_k h) ?_
        refine pw_aload_n dX5_passHours_58 rfl rfl ?_
        refine pe_callVv dX5_passHours_59 oX_X5_slipTasks lk_RX5_149 (sp_slipTasks h ((up2_nj (by decide)).trans ((wkN_fr n (by omega)).trans hn1)) hn4) (pl_k h) rfl rfl (Nat.le_of_ble_eq_true rfl) (by decide) ?_
        refine pw_iinc (v := nI (k + 1)) dX5_passHours_62 rfl (nI_add _ _) rfl ?_
        refine pw_goto (tgt := 32) dX5_passHours_65 (by decide) ?_
        exact ih
    refine pw_iconst (v := 0) dX5_passHours_28 (by decide) ?_
    refine pw_istore_n dX5_passHours_29 rfl (by decide) rfl ?_
    refine pw_iconst (v := 0) dX5_passHours_30 (by decide) ?_
    refine pw_istore_n dX5_passHours_31 rfl (by decide) rfl ?_
    exact L32 0 (Nat.zero_le _)
  refine PE.of oP_X5_passHours (catOK rfl) (Nat.le_of_ble_eq_true rfl) ?_
  show PW _ _ _ 0 [.ref p, .int x, pJ, pJ] [] _ _ _ _
  refine pw_iload_n dX5_passHours_0 rfl rfl ?_
  refine pw_iconst (v := 1) dX5_passHours_1 (by decide) ?_
  refine pw_bipush (v := 48) dX5_passHours_2 (by decide) ?_
  refine pe_callSNi dX5_passHours_4 oX_X7_within nk_RX5_59 sp_within rfl rfl (Nat.le_of_ble_eq_true rfl) (by decide) ?_
  refine pw_ifB_ne (tgt := 13) dX5_passHours_7 (by decide) (fun c_7 => ?_) (fun c_7 => ?_)
  · obtain ⟨d, hd1, hd2, rfl⟩ := win_nat (lo := 1) (hi := 48) c_7 (by decide) (by decide)
    refine pw_aload_n dX5_passHours_13 rfl rfl ?_
    refine pw_getI dX5_passHours_14 fd_RX5_43 (by decide) (pl_k h) rfl ?_
    refine pw_iload_n dX5_passHours_17 rfl rfl ?_
    refine pw_iadd dX5_passHours_18 ?_
    refine pw_sipush (v := 2000) dX5_passHours_19 (by decide) ?_
    refine pw_icmp_le (tgt := 28) dX5_passHours_22 (by decide) (fun c_22 => ?_) (fun c_22 => ?_)
    · suffices K : PW cX5_passHours mX5_passHours (fM (qE (some (.int (nI (psN p nA n d I F).2.2))) σ (psN p nA n d I F).1 (psN p nA n d I F).2.1)) 28 [.ref p, .int (nI d), pJ, pJ] [] σ I F (0, 0) by
        rw [passR, if_pos (of_decide_eq_true c_7), if_pos c_22, nI_clamp (show d < 2 ^ 31 by omega)]
        exact K
      clear c_7 c_22
      exact KK d hd2
    · refine pw_bipush (v := (-4)) dX5_passHours_25 (by decide) ?_
      exact pw_iret dX5_passHours_27 rfl (rL (by rw [passR, if_pos (of_decide_eq_true c_7), if_neg c_22]))
  · refine pw_bipush (v := (-2)) dX5_passHours_10 (by decide) ?_
    exact pw_iret dX5_passHours_12 rfl (rL (by rw [passR, if_neg (of_decide_eq_false c_7)]))
end
section
set_option maxRecDepth 4000 in
theorem sp_newAsset {σ : pT} {I : pI} {F : pF} {p nA : Nat} {r w : Int32} (h : isPl σ p) (hA : I p 4 = nI nA) (hA8 : nA ≤ 8)  : PE yX5_newAsset cX5_newAsset mX5_newAsset [.ref p, .int r, .int w] σ I F (some (.int (newAssetR I F p nA r w).1)) (newAssetR I F p nA r w).2.1 (newAssetR I F p nA r w).2.2 := by
  refine PE.of oP_X5_newAsset (catOK rfl) (Nat.le_of_ble_eq_true rfl) ?_
  show PW _ _ _ 0 [.ref p, .int r, .int w] [] _ _ _ _
  refine pw_iload_n dX5_newAsset_0 rfl rfl ?_
  refine pw_iconst (v := 1) dX5_newAsset_1 (by decide) ?_
  refine pw_bipush (v := 100) dX5_newAsset_2 (by decide) ?_
  refine pe_callSNi dX5_newAsset_4 oX_X7_within nk_RX5_59 sp_within rfl rfl (Nat.le_of_ble_eq_true rfl) (by decide) ?_
  refine pw_ifB_eq (tgt := 21) dX5_newAsset_7 (by decide) (fun c_7 => ?_) (fun c_7 => ?_)
  · refine pw_bipush (v := (-2)) dX5_newAsset_21 (by decide) ?_
    exact pw_iret dX5_newAsset_23 rfl (rL (by rw [newAssetR, if_neg (fun z => of_decide_eq_false c_7 z.1)]))
  · refine pw_iload_n dX5_newAsset_10 rfl rfl ?_
    refine pw_iconst (v := 1) dX5_newAsset_11 (by decide) ?_
    refine pw_sipush (v := 200) dX5_newAsset_12 (by decide) ?_
    refine pe_callSNi dX5_newAsset_15 oX_X7_within nk_RX5_59 sp_within rfl rfl (Nat.le_of_ble_eq_true rfl) (by decide) ?_
    refine pw_ifB_ne (tgt := 24) dX5_newAsset_18 (by decide) (fun c_18 => ?_) (fun c_18 => ?_)
    · refine pw_aload_n dX5_newAsset_24 rfl rfl ?_
      refine pw_getI dX5_newAsset_25 fd_RX5_33 (by decide) (pl_k h) rfl ?_
      rw [hA]
      refine pw_aload_n dX5_newAsset_28 rfl rfl ?_
      refine pw_getR (x := (p + 1)) dX5_newAsset_29 fd_RX5_11 (by decide) (pl_k h) rfl (pl_rA h) ?_
      refine pw_alenR dX5_newAsset_32 (pl_kA h) (by decide) ?_
      refine pw_icmp_lt (tgt := 39) dX5_newAsset_33 (by decide) (fun c_33 => ?_) (fun c_33 => ?_)
      · have hlt : nA < 8 := (nI_ltI (b := 8) (by omega) (by decide)).mp c_33
        refine pw_aload_n dX5_newAsset_39 rfl rfl ?_
        refine pw_getR (x := (p + 1)) dX5_newAsset_40 fd_RX5_11 (by decide) (pl_k h) rfl (pl_rA h) ?_
        refine pw_aload_n dX5_newAsset_43 rfl rfl ?_
        refine pw_getI dX5_newAsset_44 fd_RX5_33 (by decide) (pl_k h) rfl ?_
        rw [hA]
        refine pw_aaldN (j := nA) (x := (p + 5 + nA)) dX5_newAsset_47 (pl_kA h) (by omega) (by decide) (by decide) (pl_eA h (by omega)) ?_
        refine pw_iload_n dX5_newAsset_48 rfl rfl ?_
        refine pw_iload_n dX5_newAsset_49 rfl rfl ?_
        refine pe_callVv dX5_newAsset_50 oX_X0_setUp lk_RX5_63 (sp_A_setUp (pl_oA h (by omega))) (pl_oA h (by omega)) rfl rfl (Nat.le_of_ble_eq_true rfl) (by decide) ?_
        refine pw_aload_n dX5_newAsset_53 rfl rfl ?_
        refine pw_dup dX5_newAsset_54 rfl ?_
        refine pw_getI dX5_newAsset_55 fd_RX5_33 (by decide) (pl_k h) rfl ?_
        rw [up2_ni (by omega), up2_ni (by omega), up2_ni (by omega), hA]
        refine pw_iconst (v := 1) dX5_newAsset_58 (by decide) ?_
        refine pw_iadd dX5_newAsset_59 ?_
        rw [nI_1]
        refine pw_putI dX5_newAsset_60 fd_RX5_33 (by decide) rfl ⟨rfl, rfl, rfl⟩ (pl_k h) ?_
        refine pw_aload_n dX5_newAsset_63 rfl rfl ?_
        refine pw_getI dX5_newAsset_64 fd_RX5_33 (by decide) (pl_k h) rfl ?_
        rw [up2_s]
        refine pw_iconst (v := 1) dX5_newAsset_67 (by decide) ?_
        refine pw_isub dX5_newAsset_68 ?_
        rw [nI_pred]
        exact pw_iret dX5_newAsset_69 rfl (rL (by rw [newAssetR, if_pos ⟨of_decide_eq_true c_7, of_decide_eq_true c_18⟩, if_pos hlt]))
      · have hge : ¬ nA < 8 := fun z => c_33 (nI_lt (b := 8) z (by decide))
        refine pw_bipush (v := (-3)) dX5_newAsset_36 (by decide) ?_
        exact pw_iret dX5_newAsset_38 rfl (rL (by rw [newAssetR, if_pos ⟨of_decide_eq_true c_7, of_decide_eq_true c_18⟩, if_neg hge]))
    · refine pw_bipush (v := (-2)) dX5_newAsset_21 (by decide) ?_
      exact pw_iret dX5_newAsset_23 rfl (rL (by rw [newAssetR, if_neg (fun z => of_decide_eq_false c_18 z.2)]))

set_option maxRecDepth 4000 in
theorem sp_newCrew {σ : pT} {I : pI} {F : pF} {p nC : Nat} {r w : Int32} (h : isPl σ p) (hC : I p 5 = nI nC) (hC5 : nC ≤ 5)  : PE yX5_newCrew cX5_newCrew mX5_newCrew [.ref p, .int r, .int w] σ I F (some (.int (newCrewR I F p nC r w).1)) (newCrewR I F p nC r w).2.1 (newCrewR I F p nC r w).2.2 := by
  refine PE.of oP_X5_newCrew (catOK rfl) (Nat.le_of_ble_eq_true rfl) ?_
  show PW _ _ _ 0 [.ref p, .int r, .int w] [] _ _ _ _
  refine pw_iload_n dX5_newCrew_0 rfl rfl ?_
  refine pw_iconst (v := 1) dX5_newCrew_1 (by decide) ?_
  refine pw_bipush (v := 6) dX5_newCrew_2 (by decide) ?_
  refine pe_callSNi dX5_newCrew_4 oX_X7_within nk_RX5_59 sp_within rfl rfl (Nat.le_of_ble_eq_true rfl) (by decide) ?_
  refine pw_ifB_eq (tgt := 20) dX5_newCrew_7 (by decide) (fun c_7 => ?_) (fun c_7 => ?_)
  · refine pw_bipush (v := (-2)) dX5_newCrew_20 (by decide) ?_
    exact pw_iret dX5_newCrew_22 rfl (rL (by rw [newCrewR, if_neg (fun z => of_decide_eq_false c_7 z.1)]))
  · refine pw_iload_n dX5_newCrew_10 rfl rfl ?_
    refine pw_iconst (v := 0) dX5_newCrew_11 (by decide) ?_
    refine pw_bipush (v := 15) dX5_newCrew_12 (by decide) ?_
    refine pe_callSNi dX5_newCrew_14 oX_X7_within nk_RX5_59 sp_within rfl rfl (Nat.le_of_ble_eq_true rfl) (by decide) ?_
    refine pw_ifB_ne (tgt := 23) dX5_newCrew_17 (by decide) (fun c_17 => ?_) (fun c_17 => ?_)
    · refine pw_aload_n dX5_newCrew_23 rfl rfl ?_
      refine pw_getI dX5_newCrew_24 fd_RX5_37 (by decide) (pl_k h) rfl ?_
      rw [hC]
      refine pw_aload_n dX5_newCrew_27 rfl rfl ?_
      refine pw_getR (x := (p + 2)) dX5_newCrew_28 fd_RX5_19 (by decide) (pl_k h) rfl (pl_rC h) ?_
      refine pw_alenR dX5_newCrew_31 (pl_kC h) (by decide) ?_
      refine pw_icmp_lt (tgt := 38) dX5_newCrew_32 (by decide) (fun c_32 => ?_) (fun c_32 => ?_)
      · have hlt : nC < 5 := (nI_ltI (b := 5) (by omega) (by decide)).mp c_32
        refine pw_aload_n dX5_newCrew_38 rfl rfl ?_
        refine pw_getR (x := (p + 2)) dX5_newCrew_39 fd_RX5_19 (by decide) (pl_k h) rfl (pl_rC h) ?_
        refine pw_aload_n dX5_newCrew_42 rfl rfl ?_
        refine pw_getI dX5_newCrew_43 fd_RX5_37 (by decide) (pl_k h) rfl ?_
        rw [hC]
        refine pw_aaldN (j := nC) (x := (p + 13 + nC)) dX5_newCrew_46 (pl_kC h) (by omega) (by decide) (by decide) (pl_eC h (by omega)) ?_
        refine pw_iload_n dX5_newCrew_47 rfl rfl ?_
        refine pw_iload_n dX5_newCrew_48 rfl rfl ?_
        refine pe_callVv dX5_newCrew_49 oX_X1_setUp lk_RX5_87 (sp_C_setUp (pl_oC h (by omega))) (pl_oC h (by omega)) rfl rfl (Nat.le_of_ble_eq_true rfl) (by decide) ?_
        refine pw_aload_n dX5_newCrew_52 rfl rfl ?_
        refine pw_dup dX5_newCrew_53 rfl ?_
        refine pw_getI dX5_newCrew_54 fd_RX5_37 (by decide) (pl_k h) rfl ?_
        rw [up2_ni (by omega), up2_ni (by omega), hC]
        refine pw_iconst (v := 1) dX5_newCrew_57 (by decide) ?_
        refine pw_iadd dX5_newCrew_58 ?_
        rw [nI_1]
        refine pw_putI dX5_newCrew_59 fd_RX5_37 (by decide) rfl ⟨rfl, rfl, rfl⟩ (pl_k h) ?_
        refine pw_aload_n dX5_newCrew_62 rfl rfl ?_
        refine pw_getI dX5_newCrew_63 fd_RX5_37 (by decide) (pl_k h) rfl ?_
        rw [up2_s]
        refine pw_iconst (v := 1) dX5_newCrew_66 (by decide) ?_
        refine pw_isub dX5_newCrew_67 ?_
        rw [nI_pred]
        exact pw_iret dX5_newCrew_68 rfl (rL (by rw [newCrewR, if_pos ⟨of_decide_eq_true c_7, of_decide_eq_true c_17⟩, if_pos hlt]))
      · have hge : ¬ nC < 5 := fun z => c_32 (nI_lt (b := 5) z (by decide))
        refine pw_bipush (v := (-3)) dX5_newCrew_35 (by decide) ?_
        exact pw_iret dX5_newCrew_37 rfl (rL (by rw [newCrewR, if_pos ⟨of_decide_eq_true c_7, of_decide_eq_true c_17⟩, if_neg hge]))
    · refine pw_bipush (v := (-2)) dX5_newCrew_20 (by decide) ?_
      exact pw_iret dX5_newCrew_22 rfl (rL (by rw [newCrewR, if_neg (fun z => of_decide_eq_false c_17 z.2)]))

set_option maxRecDepth 4000 in
theorem sp_setLink {σ : pT} {I : pI} {F : pF} {p nA : Nat} {a o z : Int32} (h : isPl σ p) (hA : I p 4 = nI nA) (hA8 : nA ≤ 8)  : PE yX5_setLink cX5_setLink mX5_setLink [.ref p, .int a, .int o, .int z] σ I F (some (.int (setLinkR I F p a o z).1)) (setLinkR I F p a o z).2.1 (setLinkR I F p a o z).2.2 := by
  refine PE.of oP_X5_setLink (catOK rfl) (Nat.le_of_ble_eq_true rfl) ?_
  show PW _ _ _ 0 [.ref p, .int a, .int o, .int z] [] _ _ _ _
  refine pw_aload_n dX5_setLink_0 rfl rfl ?_
  refine pw_iload_n dX5_setLink_1 rfl rfl ?_
  refine pe_callVi dX5_setLink_2 oX_X5_hasAsset lk_RX5_67 (sp_hasAsset h) (pl_k h) rfl rfl (Nat.le_of_ble_eq_true rfl) (by decide) ?_
  refine pw_ifB_eq (tgt := 16) dX5_setLink_5 (by decide) (fun c_5 => ?_) (fun c_5 => ?_)
  · refine pw_iconst (v := (-1)) dX5_setLink_16 (by decide) ?_
    exact pw_iret dX5_setLink_17 rfl (rL (by rw [setLinkR, if_neg (fun z9 => of_decide_eq_false c_5 z9.1)]))
  · obtain ⟨i, hi, rfl⟩ := has_nat c_5 hA (by omega)
    refine pw_aload_n dX5_setLink_8 rfl rfl ?_
    refine pw_iload_n dX5_setLink_9 rfl rfl ?_
    refine pe_callVi dX5_setLink_10 oX_X5_hasAsset lk_RX5_67 (sp_hasAsset h) (pl_k h) rfl rfl (Nat.le_of_ble_eq_true rfl) (by decide) ?_
    refine pw_ifB_ne (tgt := 18) dX5_setLink_13 (by decide) (fun c_13 => ?_) (fun c_13 => ?_)
    · obtain ⟨j, hj, rfl⟩ := has_nat c_13 hA (by omega)
      refine pw_iload_n dX5_setLink_18 rfl rfl ?_
      refine pw_iload_n dX5_setLink_19 rfl rfl ?_
      refine pw_icmp_ne (tgt := 26) dX5_setLink_20 (by decide) (fun c_20 => ?_) (fun c_20 => ?_)
      · refine pw_aload_n dX5_setLink_26 rfl rfl ?_
        refine pw_getR (x := (p + 1)) dX5_setLink_27 fd_RX5_11 (by decide) (pl_k h) rfl (pl_rA h) ?_
        refine pw_iload_n dX5_setLink_30 rfl rfl ?_
        refine pw_aaldN (j := i) (x := (p + 5 + i)) dX5_setLink_31 (pl_kA h) (by omega) (by decide) (by decide) (pl_eA h (by omega)) ?_
        refine pw_iload_n dX5_setLink_32 rfl rfl ?_
        refine pe_callVi dX5_setLink_33 oX_X0_isLinkedTo lk_RX5_71 (sp_isLinkedTo (pl_oA h (by omega))) (pl_oA h (by omega)) rfl rfl (Nat.le_of_ble_eq_true rfl) (by decide) ?_
        refine pw_iload_n dX5_setLink_36 rfl rfl ?_
        refine pw_icmp_ne (tgt := 43) dX5_setLink_37 (by decide) (fun c_37 => ?_) (fun c_37 => ?_)
        · refine pw_aload_n dX5_setLink_43 rfl rfl ?_
          refine pw_getR (x := (p + 1)) dX5_setLink_44 fd_RX5_11 (by decide) (pl_k h) rfl (pl_rA h) ?_
          refine pw_iload_n dX5_setLink_47 rfl rfl ?_
          refine pw_aaldN (j := i) (x := (p + 5 + i)) dX5_setLink_48 (pl_kA h) (by omega) (by decide) (by decide) (pl_eA h (by omega)) ?_
          refine pw_dup dX5_setLink_49 rfl ?_
          refine pw_getI dX5_setLink_50 fd_RX5_74 (by decide) (pl_oA h (by omega)) rfl ?_
          refine pw_iconst (v := 1) dX5_setLink_53 (by decide) ?_
          refine pw_iload_n dX5_setLink_54 rfl rfl ?_
          refine pw_ishl dX5_setLink_55 ?_
          refine pw_ixor dX5_setLink_56 ?_
          refine pw_putI dX5_setLink_57 fd_RX5_74 (by decide) rfl ⟨rfl, rfl, rfl⟩ (pl_oA h (by omega)) ?_
          refine pw_aload_n dX5_setLink_60 rfl rfl ?_
          refine pw_getR (x := (p + 1)) dX5_setLink_61 fd_RX5_11 (by decide) (pl_k h) rfl (pl_rA h) ?_
          refine pw_iload_n dX5_setLink_64 rfl rfl ?_
          refine pw_aaldN (j := j) (x := (p + 5 + j)) dX5_setLink_65 (pl_kA h) (by omega) (by decide) (by decide) (pl_eA h (by omega)) ?_
          refine pw_dup dX5_setLink_66 rfl ?_
          refine pw_getI dX5_setLink_67 fd_RX5_74 (by decide) (pl_oA h (by omega)) rfl ?_
          refine pw_iconst (v := 1) dX5_setLink_70 (by decide) ?_
          refine pw_iload_n dX5_setLink_71 rfl rfl ?_
          refine pw_ishl dX5_setLink_72 ?_
          refine pw_ixor dX5_setLink_73 ?_
          refine pw_putI dX5_setLink_74 fd_RX5_74 (by decide) rfl ⟨rfl, rfl, rfl⟩ (pl_oA h (by omega)) ?_
          refine pw_aload_n dX5_setLink_77 rfl rfl ?_
          refine pw_getR (x := (p + 1)) dX5_setLink_78 fd_RX5_11 (by decide) (pl_k h) rfl (pl_rA h) ?_
          refine pw_iload_n dX5_setLink_81 rfl rfl ?_
          refine pw_aaldN (j := i) (x := (p + 5 + i)) dX5_setLink_82 (pl_kA h) (by omega) (by decide) (by decide) (pl_eA h (by omega)) ?_
          refine pw_getI dX5_setLink_83 fd_RX5_74 (by decide) (pl_oA h (by omega)) rfl ?_
          refine pe_callSi dX5_setLink_86 oX_J6_bitCount_0f7a4 lk_RX5_77 sp_bitCount rfl rfl (Nat.le_of_ble_eq_true rfl) (by decide) ?_
          exact pw_iret dX5_setLink_89 rfl (rL (by rw [setLinkR, if_pos ⟨of_decide_eq_true c_5, of_decide_eq_true c_13⟩, if_neg c_20, nI_clamp (show i < 2 ^ 31 by omega), nI_clamp (show j < 2 ^ 31 by omega), if_neg]; exact c_37))
        · refine pw_bipush (v := (-5)) dX5_setLink_40 (by decide) ?_
          exact pw_iret dX5_setLink_42 rfl (rL (by rw [setLinkR, if_pos ⟨of_decide_eq_true c_5, of_decide_eq_true c_13⟩, if_neg c_20, nI_clamp (show i < 2 ^ 31 by omega), if_pos]; exact c_37))
      · refine pw_bipush (v := (-2)) dX5_setLink_23 (by decide) ?_
        exact pw_iret dX5_setLink_25 rfl (rL (by rw [setLinkR, if_pos ⟨of_decide_eq_true c_5, of_decide_eq_true c_13⟩, if_pos c_20]))
    · refine pw_iconst (v := (-1)) dX5_setLink_16 (by decide) ?_
      exact pw_iret dX5_setLink_17 rfl (rL (by rw [setLinkR, if_neg (fun z9 => of_decide_eq_false c_13 z9.2)]))

set_option maxRecDepth 4000 in
theorem sp_setBar {σ : pT} {I : pI} {F : pF} {p : Nat} {a o z : Int32} (h : isPl σ p)  : PE yX5_setBar cX5_setBar mX5_setBar [.ref p, .int a, .int o, .int z] σ I F (some (.int (setBarR I F p a o z).1)) (setBarR I F p a o z).2.1 (setBarR I F p a o z).2.2 := by
  refine PE.of oP_X5_setBar (catOK rfl) (Nat.le_of_ble_eq_true rfl) ?_
  show PW _ _ _ 0 [.ref p, .int a, .int o, .int z] [] _ _ _ _
  refine pw_iload_n dX5_setBar_0 rfl rfl ?_
  refine pw_iconst (v := 0) dX5_setBar_1 (by decide) ?_
  refine pw_aload_n dX5_setBar_2 rfl rfl ?_
  refine pw_getR (x := (p + 4)) dX5_setBar_3 fd_RX5_29 (by decide) (pl_k h) rfl (pl_rB h) ?_
  refine pw_alenI dX5_setBar_6 (pl_kB h) ?_
  refine pw_iconst (v := 1) dX5_setBar_7 (by decide) ?_
  refine pw_isub dX5_setBar_8 ?_
  rw [show (Int32.ofNat 5 - 1 : Int32) = 4 by decide]
  refine pe_callSNi dX5_setBar_9 oX_X7_within nk_RX5_59 sp_within rfl rfl (Nat.le_of_ble_eq_true rfl) (by decide) ?_
  refine pw_ifB_eq (tgt := 30) dX5_setBar_12 (by decide) (fun c_12 => ?_) (fun c_12 => ?_)
  · refine pw_bipush (v := (-2)) dX5_setBar_30 (by decide) ?_
    exact pw_iret dX5_setBar_32 rfl (rL (by rw [setBarR, if_neg (fun z9 => of_decide_eq_false c_12 z9.1)]))
  · obtain ⟨i, hi0, hi, rfl⟩ := win_nat (lo := 0) (hi := 4) c_12 (by decide) (by decide)
    refine pw_iload_n dX5_setBar_15 rfl rfl ?_
    refine pw_iconst (v := 0) dX5_setBar_16 (by decide) ?_
    refine pw_aload_n dX5_setBar_17 rfl rfl ?_
    refine pw_getR (x := (p + 4)) dX5_setBar_18 fd_RX5_29 (by decide) (pl_k h) rfl (pl_rB h) ?_
    refine pw_alenI dX5_setBar_21 (pl_kB h) ?_
    refine pw_iconst (v := 1) dX5_setBar_22 (by decide) ?_
    refine pw_isub dX5_setBar_23 ?_
    rw [show (Int32.ofNat 5 - 1 : Int32) = 4 by decide]
    refine pe_callSNi dX5_setBar_24 oX_X7_within nk_RX5_59 sp_within rfl rfl (Nat.le_of_ble_eq_true rfl) (by decide) ?_
    refine pw_ifB_ne (tgt := 33) dX5_setBar_27 (by decide) (fun c_27 => ?_) (fun c_27 => ?_)
    · obtain ⟨j, hj0, hj, rfl⟩ := win_nat (lo := 0) (hi := 4) c_27 (by decide) (by decide)
      refine pw_aload_n dX5_setBar_33 rfl rfl ?_
      refine pw_iload_n dX5_setBar_34 rfl rfl ?_
      refine pw_iload_n dX5_setBar_35 rfl rfl ?_
      refine pe_callVi dX5_setBar_36 oX_X5_doBar lk_RX5_83 (sp_doBar h (by omega)) (pl_k h) rfl rfl (Nat.le_of_ble_eq_true rfl) (by decide) ?_
      refine pw_iload_n dX5_setBar_39 rfl rfl ?_
      refine pw_icmp_ne (tgt := 46) dX5_setBar_40 (by decide) (fun c_40 => ?_) (fun c_40 => ?_)
      · refine pw_aload_n dX5_setBar_46 rfl rfl ?_
        refine pw_getR (x := (p + 4)) dX5_setBar_47 fd_RX5_29 (by decide) (pl_k h) rfl (pl_rB h) ?_
        refine pw_iload_n dX5_setBar_50 rfl rfl ?_
        refine pw_dup2 dX5_setBar_51 rfl rfl ?_
        refine pw_ialdN (j := i) dX5_setBar_52 (pl_kB h) (by omega) (by decide) ?_
        refine pw_iconst (v := 1) dX5_setBar_53 (by decide) ?_
        refine pw_iload_n dX5_setBar_54 rfl rfl ?_
        refine pw_ishl dX5_setBar_55 ?_
        refine pw_ixor dX5_setBar_56 ?_
        refine pw_iastN (j := i) dX5_setBar_57 (pl_kB h) (by omega) (by decide) ?_
        refine pw_iload_n dX5_setBar_58 rfl rfl ?_
        refine pw_iload_n dX5_setBar_59 rfl rfl ?_
        refine pw_icmp_eq (tgt := 75) dX5_setBar_60 (by decide) (fun c_60 => ?_) (fun c_60 => ?_)
        · refine pw_aload_n dX5_setBar_75 rfl rfl ?_
          refine pw_getR (x := (p + 4)) dX5_setBar_76 fd_RX5_29 (by decide) (pl_k h) rfl (pl_rB h) ?_
          refine pw_iload_n dX5_setBar_79 rfl rfl ?_
          refine pw_ialdN (j := i) dX5_setBar_80 (pl_kB h) (by omega) (by decide) ?_
          refine pe_callSi dX5_setBar_81 oX_J6_bitCount_0f7a4 lk_RX5_77 sp_bitCount rfl rfl (Nat.le_of_ble_eq_true rfl) (by decide) ?_
          exact pw_iret dX5_setBar_84 rfl (rL (by rw [setBarR, if_pos ⟨of_decide_eq_true c_12, of_decide_eq_true c_27⟩, nI_clamp (show i < 2 ^ 31 by omega), nI_clamp (show j < 2 ^ 31 by omega), if_neg c_40, barI2, if_pos c_60]; rfl))
        · refine pw_aload_n dX5_setBar_63 rfl rfl ?_
          refine pw_getR (x := (p + 4)) dX5_setBar_64 fd_RX5_29 (by decide) (pl_k h) rfl (pl_rB h) ?_
          refine pw_iload_n dX5_setBar_67 rfl rfl ?_
          refine pw_dup2 dX5_setBar_68 rfl rfl ?_
          refine pw_ialdN (j := j) dX5_setBar_69 (pl_kB h) (by omega) (by decide) ?_
          refine pw_iconst (v := 1) dX5_setBar_70 (by decide) ?_
          refine pw_iload_n dX5_setBar_71 rfl rfl ?_
          refine pw_ishl dX5_setBar_72 ?_
          refine pw_ixor dX5_setBar_73 ?_
          refine pw_iastN (j := j) dX5_setBar_74 (pl_kB h) (by omega) (by decide) ?_
          refine pw_aload_n dX5_setBar_75 rfl rfl ?_
          refine pw_getR (x := (p + 4)) dX5_setBar_76 fd_RX5_29 (by decide) (pl_k h) rfl (pl_rB h) ?_
          refine pw_iload_n dX5_setBar_79 rfl rfl ?_
          refine pw_ialdN (j := i) dX5_setBar_80 (pl_kB h) (by omega) (by decide) ?_
          refine pe_callSi dX5_setBar_81 oX_J6_bitCount_0f7a4 lk_RX5_77 sp_bitCount rfl rfl (Nat.le_of_ble_eq_true rfl) (by decide) ?_
          exact pw_iret dX5_setBar_84 rfl (rL (by rw [setBarR, if_pos ⟨of_decide_eq_true c_12, of_decide_eq_true c_27⟩, nI_clamp (show i < 2 ^ 31 by omega), nI_clamp (show j < 2 ^ 31 by omega), if_neg c_40, barI2, if_neg c_60]; rfl))
      · refine pw_bipush (v := (-5)) dX5_setBar_43 (by decide) ?_
        exact pw_iret dX5_setBar_45 rfl (rL (by rw [setBarR, if_pos ⟨of_decide_eq_true c_12, of_decide_eq_true c_27⟩, nI_clamp (show i < 2 ^ 31 by omega), if_pos c_40]))
    · refine pw_bipush (v := (-2)) dX5_setBar_30 (by decide) ?_
      exact pw_iret dX5_setBar_32 rfl (rL (by rw [setBarR, if_neg (fun z9 => of_decide_eq_false c_27 z9.2)]))

theorem taskI_fr {I : pI} {q i j : Nat} {a b c d e f : Int32} (h : i ≠ q) : taskI I q a b c d e f i j = I i j := by
  unfold taskI
  rw [up2_ni h, up2_ni h, up2_ni h, up2_ni h, up2_ni h, up2_ni h, up2_ni h, up2_ni h, up2_ni h, up2_ni h, up2_ni h, up2_ni h]
set_option maxRecDepth 4000 in
theorem sp_newTask {σ : pT} {I : pI} {F : pF} {p nA n : Nat} {a b c d e f : Int32} (h : isPl σ p) (hn : I p 6 = nI n) (hn4 : n ≤ 24) (hA : I p 4 = nI nA) (hA8 : nA ≤ 8)  : PE yX5_newTask cX5_newTask mX5_newTask [.ref p, .int a, .int b, .int c, .int d, .int e, .int f] σ I F (some (.int (newTaskR I F p n a b c d e f).1)) (newTaskR I F p n a b c d e f).2.1 (newTaskR I F p n a b c d e f).2.2 := by
  refine PE.of oP_X5_newTask (catOK rfl) (Nat.le_of_ble_eq_true rfl) ?_
  show PW _ _ _ 0 [.ref p, .int a, .int b, .int c, .int d, .int e, .int f] [] _ _ _ _
  refine pw_aload_n dX5_newTask_0 rfl rfl ?_
  refine pw_iload_n dX5_newTask_1 rfl rfl ?_
  refine pe_callVi dX5_newTask_2 oX_X5_hasAsset lk_RX5_67 (sp_hasAsset h) (pl_k h) rfl rfl (Nat.le_of_ble_eq_true rfl) (by decide) ?_
  refine pw_ifB_ne (tgt := 10) dX5_newTask_5 (by decide) (fun c_5 => ?_) (fun c_5 => ?_)
  · refine pw_iload_n dX5_newTask_10 rfl rfl ?_
    refine pw_iconst (v := 0) dX5_newTask_11 (by decide) ?_
    refine pw_iconst (v := 3) dX5_newTask_12 (by decide) ?_
    refine pe_callSNi dX5_newTask_13 oX_X7_within nk_RX5_59 sp_within rfl rfl (Nat.le_of_ble_eq_true rfl) (by decide) ?_
    refine pw_ifB_eq (tgt := 65) dX5_newTask_16 (by decide) (fun c_16 => ?_) (fun c_16 => ?_)
    · refine pw_bipush (v := (-2)) dX5_newTask_65 (by decide) ?_
      exact pw_iret dX5_newTask_67 rfl (rL (by rw [newTaskR, if_pos (of_decide_eq_true c_5), if_neg (fun z9 => of_decide_eq_false c_16 z9.1)]))
    · refine pw_iload_n dX5_newTask_19 rfl rfl ?_
      refine pw_iconst (v := 1) dX5_newTask_20 (by decide) ?_
      refine pw_bipush (v := 6) dX5_newTask_21 (by decide) ?_
      refine pe_callSNi dX5_newTask_23 oX_X7_within nk_RX5_59 sp_within rfl rfl (Nat.le_of_ble_eq_true rfl) (by decide) ?_
      refine pw_ifB_eq (tgt := 65) dX5_newTask_26 (by decide) (fun c_26 => ?_) (fun c_26 => ?_)
      · refine pw_bipush (v := (-2)) dX5_newTask_65 (by decide) ?_
        exact pw_iret dX5_newTask_67 rfl (rL (by rw [newTaskR, if_pos (of_decide_eq_true c_5), if_neg (fun z9 => of_decide_eq_false c_26 z9.2.1)]))
      · refine pw_iload dX5_newTask_29 rfl ?_
        refine pw_iconst (v := 0) dX5_newTask_31 (by decide) ?_
        refine pw_iconst (v := 4) dX5_newTask_32 (by decide) ?_
        refine pe_callSNi dX5_newTask_33 oX_X7_within nk_RX5_59 sp_within rfl rfl (Nat.le_of_ble_eq_true rfl) (by decide) ?_
        refine pw_ifB_eq (tgt := 65) dX5_newTask_36 (by decide) (fun c_36 => ?_) (fun c_36 => ?_)
        · refine pw_bipush (v := (-2)) dX5_newTask_65 (by decide) ?_
          exact pw_iret dX5_newTask_67 rfl (rL (by rw [newTaskR, if_pos (of_decide_eq_true c_5), if_neg (fun z9 => of_decide_eq_false c_36 z9.2.2.1)]))
        · refine pw_iload dX5_newTask_39 rfl ?_
          refine pw_iconst (v := 1) dX5_newTask_41 (by decide) ?_
          refine pw_bipush (v := 48) dX5_newTask_42 (by decide) ?_
          refine pe_callSNi dX5_newTask_44 oX_X7_within nk_RX5_59 sp_within rfl rfl (Nat.le_of_ble_eq_true rfl) (by decide) ?_
          refine pw_ifB_eq (tgt := 65) dX5_newTask_47 (by decide) (fun c_47 => ?_) (fun c_47 => ?_)
          · refine pw_bipush (v := (-2)) dX5_newTask_65 (by decide) ?_
            exact pw_iret dX5_newTask_67 rfl (rL (by rw [newTaskR, if_pos (of_decide_eq_true c_5), if_neg (fun z9 => of_decide_eq_false c_47 z9.2.2.2.1)]))
          · refine pw_iload dX5_newTask_50 rfl ?_
            refine pw_aload_n dX5_newTask_52 rfl rfl ?_
            refine pw_getI dX5_newTask_53 fd_RX5_43 (by decide) (pl_k h) rfl ?_
            refine pw_sipush (v := 2000) dX5_newTask_56 (by decide) ?_
            refine pe_callSNi dX5_newTask_59 oX_X7_within nk_RX5_59 sp_within rfl rfl (Nat.le_of_ble_eq_true rfl) (by decide) ?_
            refine pw_ifB_ne (tgt := 68) dX5_newTask_62 (by decide) (fun c_62 => ?_) (fun c_62 => ?_)
            · refine pw_aload_n dX5_newTask_68 rfl rfl ?_
              refine pw_getI dX5_newTask_69 fd_RX5_40 (by decide) (pl_k h) rfl ?_
              rw [hn]
              refine pw_aload_n dX5_newTask_72 rfl rfl ?_
              refine pw_getR (x := (p + 3)) dX5_newTask_73 fd_RX5_25 (by decide) (pl_k h) rfl (pl_rT h) ?_
              refine pw_alenR dX5_newTask_76 (pl_kT h) (by decide) ?_
              refine pw_icmp_lt (tgt := 83) dX5_newTask_77 (by decide) (fun c_77 => ?_) (fun c_77 => ?_)
              · have hlt : n < 24 := (nI_ltI (b := 24) (by omega) (by decide)).mp c_77
                refine pw_aload_n dX5_newTask_83 rfl rfl ?_
                refine pw_getR (x := (p + 3)) dX5_newTask_84 fd_RX5_25 (by decide) (pl_k h) rfl (pl_rT h) ?_
                refine pw_aload_n dX5_newTask_87 rfl rfl ?_
                refine pw_getI dX5_newTask_88 fd_RX5_40 (by decide) (pl_k h) rfl ?_
                rw [hn]
                refine pw_aaldN (j := n) (x := (p + 18 + n)) dX5_newTask_91 (pl_kT h) (by omega) (by decide) (by decide) (pl_eT h (by omega)) ?_
                refine pw_iload_n dX5_newTask_92 rfl rfl ?_
                refine pw_iload_n dX5_newTask_93 rfl rfl ?_
                refine pw_iload_n dX5_newTask_94 rfl rfl ?_
                refine pw_iload dX5_newTask_95 rfl ?_
                refine pw_iload dX5_newTask_97 rfl ?_
                refine pw_iload dX5_newTask_99 rfl ?_
                refine pe_callVv dX5_newTask_101 oX_X6_setUp lk_RX5_88 (sp_T_setUp (pl_oT h (by omega))) (pl_oT h (by omega)) rfl rfl (Nat.le_of_ble_eq_true rfl) (by decide) ?_
                refine pw_aload_n dX5_newTask_104 rfl rfl ?_
                refine pw_dup dX5_newTask_105 rfl ?_
                refine pw_getI dX5_newTask_106 fd_RX5_40 (by decide) (pl_k h) rfl ?_
                rw [show up2 (up2 (up2 (up2 (up2 (up2 (up2 (up2 (up2 (up2 (up2 (up2 I (p + 18 + n) 0 a) (p + 18 + n) 1 b) (p + 18 + n) 2 c) (p + 18 + n) 3 d) (p + 18 + n) 4 e) (p + 18 + n) 5 f) (p + 18 + n) 6 (f + 2 * e + 6)) (p + 18 + n) 7 0) (p + 18 + n) 8 (-5)) (p + 18 + n) 9 0) (p + 18 + n) 10 0) (p + 18 + n) 11 0 p 6 = nI n from (taskI_fr (by omega)).trans hn]
                refine pw_iconst (v := 1) dX5_newTask_109 (by decide) ?_
                refine pw_iadd dX5_newTask_110 ?_
                rw [nI_1]
                refine pw_putI dX5_newTask_111 fd_RX5_40 (by decide) rfl ⟨rfl, rfl, rfl⟩ (pl_k h) ?_
                refine pw_aload_n dX5_newTask_114 rfl rfl ?_
                refine pw_getI dX5_newTask_115 fd_RX5_40 (by decide) (pl_k h) rfl ?_
                rw [up2_s]
                refine pw_iconst (v := 1) dX5_newTask_118 (by decide) ?_
                refine pw_isub dX5_newTask_119 ?_
                rw [nI_pred]
                exact pw_iret dX5_newTask_120 rfl (rL (by rw [newTaskR, if_pos (of_decide_eq_true c_5), if_pos ⟨of_decide_eq_true c_16, of_decide_eq_true c_26, of_decide_eq_true c_36, of_decide_eq_true c_47, of_decide_eq_true c_62⟩, if_pos hlt]; rfl))
              · have hge : ¬ n < 24 := fun z => c_77 (nI_lt (b := 24) z (by decide))
                refine pw_bipush (v := (-3)) dX5_newTask_80 (by decide) ?_
                exact pw_iret dX5_newTask_82 rfl (rL (by rw [newTaskR, if_pos (of_decide_eq_true c_5), if_pos ⟨of_decide_eq_true c_16, of_decide_eq_true c_26, of_decide_eq_true c_36, of_decide_eq_true c_47, of_decide_eq_true c_62⟩, if_neg hge]))
            · refine pw_bipush (v := (-2)) dX5_newTask_65 (by decide) ?_
              exact pw_iret dX5_newTask_67 rfl (rL (by rw [newTaskR, if_pos (of_decide_eq_true c_5), if_neg (fun z9 => of_decide_eq_false c_62 z9.2.2.2.2)]))
  · refine pw_iconst (v := (-1)) dX5_newTask_8 (by decide) ?_
    exact pw_iret dX5_newTask_9 rfl (rL (by rw [newTaskR, if_neg (of_decide_eq_false c_5)]))

set_option maxRecDepth 4000 in
theorem sp_startAsset {σ : pT} {I : pI} {F : pF} {p nA n : Nat} {a : Int32} (h : isPl σ p) (hn : I p 6 = nI n) (hn4 : n ≤ 24) (hA : I p 4 = nI nA) (hA8 : nA ≤ 8)  : PE yX5_startAsset cX5_startAsset mX5_startAsset [.ref p, .int a] σ I F (some (.int (startR I F p nA n a).1)) (startR I F p nA n a).2.1 (startR I F p nA n a).2.2 := by
  refine PE.of oP_X5_startAsset (catOK rfl) (Nat.le_of_ble_eq_true rfl) ?_
  show PW _ _ _ 0 [.ref p, .int a] [] _ _ _ _
  refine pw_aload_n dX5_startAsset_0 rfl rfl ?_
  refine pw_iload_n dX5_startAsset_1 rfl rfl ?_
  refine pe_callVi dX5_startAsset_2 oX_X5_hasAsset lk_RX5_67 (sp_hasAsset h) (pl_k h) rfl rfl (Nat.le_of_ble_eq_true rfl) (by decide) ?_
  refine pw_ifB_ne (tgt := 10) dX5_startAsset_5 (by decide) (fun c_5 => ?_) (fun c_5 => ?_)
  · obtain ⟨i, hi, rfl⟩ := has_nat c_5 hA (by omega)
    refine pw_aload_n dX5_startAsset_10 rfl rfl ?_
    refine pw_iload_n dX5_startAsset_11 rfl rfl ?_
    refine pe_callVi dX5_startAsset_12 oX_X5_tagsHanging lk_RX5_91 (sp_tagsHanging h hn hn4) (pl_k h) rfl rfl (Nat.le_of_ble_eq_true rfl) (by decide) ?_
    refine pw_if_le (tgt := 21) dX5_startAsset_15 (by decide) (fun c_15 => ?_) (fun c_15 => ?_)
    · refine pw_aload_n dX5_startAsset_21 rfl rfl ?_
      refine pw_getR (x := (p + 1)) dX5_startAsset_22 fd_RX5_11 (by decide) (pl_k h) rfl (pl_rA h) ?_
      refine pw_iload_n dX5_startAsset_25 rfl rfl ?_
      refine pw_aaldN (j := i) (x := (p + 5 + i)) dX5_startAsset_26 (pl_kA h) (by omega) (by decide) (by decide) (pl_eA h (by omega)) ?_
      refine pw_getI dX5_startAsset_27 fd_RX5_94 (by decide) (pl_oA h (by omega)) rfl ?_
      refine pw_if_eq (tgt := 36) dX5_startAsset_30 (by decide) (fun c_30 => ?_) (fun c_30 => ?_)
      · refine pw_aload_n dX5_startAsset_36 rfl rfl ?_
        refine pw_getR (x := (p + 1)) dX5_startAsset_37 fd_RX5_11 (by decide) (pl_k h) rfl (pl_rA h) ?_
        refine pw_iload_n dX5_startAsset_40 rfl rfl ?_
        refine pw_aaldN (j := i) (x := (p + 5 + i)) dX5_startAsset_41 (pl_kA h) (by omega) (by decide) (by decide) (pl_eA h (by omega)) ?_
        refine pw_iconst (v := 1) dX5_startAsset_42 (by decide) ?_
        refine pw_putI dX5_startAsset_43 fd_RX5_94 (by decide) rfl ⟨by decide, by decide, rfl⟩ (pl_oA h (by omega)) ?_
        refine pw_aload_n dX5_startAsset_46 rfl rfl ?_
        refine pe_callVi dX5_startAsset_47 oX_X5_assetsRunning lk_RX5_98 (sp_assetsRunning h ((up2_ni (by omega)).trans hA) hA8) (pl_k h) rfl rfl (Nat.le_of_ble_eq_true rfl) (by decide) ?_
        exact pw_iret dX5_startAsset_50 rfl (rL (by rw [startR, if_pos (of_decide_eq_true c_5), if_pos c_15, nI_clamp (show i < 2 ^ 31 by omega), if_pos c_30]; rfl))
      · refine pw_bipush (v := (-5)) dX5_startAsset_33 (by decide) ?_
        exact pw_iret dX5_startAsset_35 rfl (rL (by rw [startR, if_pos (of_decide_eq_true c_5), if_pos c_15, nI_clamp (show i < 2 ^ 31 by omega), if_neg c_30]))
    · refine pw_bipush (v := (-4)) dX5_startAsset_18 (by decide) ?_
      exact pw_iret dX5_startAsset_20 rfl (rL (by rw [startR, if_pos (of_decide_eq_true c_5), if_neg c_15]))
  · refine pw_iconst (v := (-1)) dX5_startAsset_8 (by decide) ?_
    exact pw_iret dX5_startAsset_9 rfl (rL (by rw [startR, if_neg (of_decide_eq_false c_5)]))

set_option maxRecDepth 4000 in
theorem sp_stopAsset {σ : pT} {I : pI} {F : pF} {p nA : Nat} {a : Int32} (h : isPl σ p) (hA : I p 4 = nI nA) (hA8 : nA ≤ 8)  : PE yX5_stopAsset cX5_stopAsset mX5_stopAsset [.ref p, .int a] σ I F (some (.int (stopR I F p nA a).1)) (stopR I F p nA a).2.1 (stopR I F p nA a).2.2 := by
  refine PE.of oP_X5_stopAsset (catOK rfl) (Nat.le_of_ble_eq_true rfl) ?_
  show PW _ _ _ 0 [.ref p, .int a] [] _ _ _ _
  refine pw_aload_n dX5_stopAsset_0 rfl rfl ?_
  refine pw_iload_n dX5_stopAsset_1 rfl rfl ?_
  refine pe_callVi dX5_stopAsset_2 oX_X5_hasAsset lk_RX5_67 (sp_hasAsset h) (pl_k h) rfl rfl (Nat.le_of_ble_eq_true rfl) (by decide) ?_
  refine pw_ifB_ne (tgt := 10) dX5_stopAsset_5 (by decide) (fun c_5 => ?_) (fun c_5 => ?_)
  · obtain ⟨i, hi, rfl⟩ := has_nat c_5 hA (by omega)
    refine pw_aload_n dX5_stopAsset_10 rfl rfl ?_
    refine pw_getR (x := (p + 1)) dX5_stopAsset_11 fd_RX5_11 (by decide) (pl_k h) rfl (pl_rA h) ?_
    refine pw_iload_n dX5_stopAsset_14 rfl rfl ?_
    refine pw_aaldN (j := i) (x := (p + 5 + i)) dX5_stopAsset_15 (pl_kA h) (by omega) (by decide) (by decide) (pl_eA h (by omega)) ?_
    refine pw_getI dX5_stopAsset_16 fd_RX5_94 (by decide) (pl_oA h (by omega)) rfl ?_
    refine pw_if_ne (tgt := 25) dX5_stopAsset_19 (by decide) (fun c_19 => ?_) (fun c_19 => ?_)
    · refine pw_aload_n dX5_stopAsset_25 rfl rfl ?_
      refine pw_getR (x := (p + 1)) dX5_stopAsset_26 fd_RX5_11 (by decide) (pl_k h) rfl (pl_rA h) ?_
      refine pw_iload_n dX5_stopAsset_29 rfl rfl ?_
      refine pw_aaldN (j := i) (x := (p + 5 + i)) dX5_stopAsset_30 (pl_kA h) (by omega) (by decide) (by decide) (pl_eA h (by omega)) ?_
      refine pw_iconst (v := 0) dX5_stopAsset_31 (by decide) ?_
      refine pw_putI dX5_stopAsset_32 fd_RX5_94 (by decide) rfl ⟨by decide, by decide, rfl⟩ (pl_oA h (by omega)) ?_
      refine pw_aload_n dX5_stopAsset_35 rfl rfl ?_
      refine pe_callVi dX5_stopAsset_36 oX_X5_assetsRunning lk_RX5_98 (sp_assetsRunning h ((up2_ni (by omega)).trans hA) hA8) (pl_k h) rfl rfl (Nat.le_of_ble_eq_true rfl) (by decide) ?_
      exact pw_iret dX5_stopAsset_39 rfl (rL (by rw [stopR, if_pos (of_decide_eq_true c_5), nI_clamp (show i < 2 ^ 31 by omega), if_neg c_19]; rfl))
    · refine pw_bipush (v := (-5)) dX5_stopAsset_22 (by decide) ?_
      exact pw_iret dX5_stopAsset_24 rfl (rL (by rw [stopR, if_pos (of_decide_eq_true c_5), nI_clamp (show i < 2 ^ 31 by omega), if_pos c_19]))
  · refine pw_iconst (v := (-1)) dX5_stopAsset_8 (by decide) ?_
    exact pw_iret dX5_stopAsset_9 rfl (rL (by rw [stopR, if_neg (of_decide_eq_false c_5)]))

set_option maxRecDepth 4000 in
theorem sp_hangTag {σ : pT} {I : pI} {F : pF} {p nA nC n : Nat} {a c : Int32} (h : isPl σ p) (hn : I p 6 = nI n) (hn4 : n ≤ 24) (hA : I p 4 = nI nA) (hA8 : nA ≤ 8) (hC : I p 5 = nI nC) (hC5 : nC ≤ 5) (hW : ∀ t, t < n → ∃ a, a < nA ∧ I (p + 18 + t) 0 = nI a)  : PE yX5_hangTag cX5_hangTag mX5_hangTag [.ref p, .int a, .int c] σ I F (some (.int (hangR I F p n a c).1)) (hangR I F p n a c).2.1 (hangR I F p n a c).2.2 := by
  refine PE.of oP_X5_hangTag (catOK rfl) (Nat.le_of_ble_eq_true rfl) ?_
  show PW _ _ _ 0 [.ref p, .int a, .int c, pJ] [] _ _ _ _
  refine pw_aload_n dX5_hangTag_0 rfl rfl ?_
  refine pw_iload_n dX5_hangTag_1 rfl rfl ?_
  refine pe_callVi dX5_hangTag_2 oX_X5_hasTask lk_RX5_102 (sp_hasTask h) (pl_k h) rfl rfl (Nat.le_of_ble_eq_true rfl) (by decide) ?_
  refine pw_ifB_eq (tgt := 16) dX5_hangTag_5 (by decide) (fun c_5 => ?_) (fun c_5 => ?_)
  · refine pw_iconst (v := (-1)) dX5_hangTag_16 (by decide) ?_
    exact pw_iret dX5_hangTag_17 rfl (rL (by rw [hangR, if_neg (fun z9 => of_decide_eq_false c_5 z9.1)]))
  · obtain ⟨t, ht, rfl⟩ := has_nat c_5 hn (by omega)
    obtain ⟨at_, haA, hat⟩ := hW t ht
    refine pw_aload_n dX5_hangTag_8 rfl rfl ?_
    refine pw_iload_n dX5_hangTag_9 rfl rfl ?_
    refine pe_callVi dX5_hangTag_10 oX_X5_hasCrew lk_RX5_105 (sp_hasCrew h) (pl_k h) rfl rfl (Nat.le_of_ble_eq_true rfl) (by decide) ?_
    refine pw_ifB_ne (tgt := 18) dX5_hangTag_13 (by decide) (fun c_13 => ?_) (fun c_13 => ?_)
    · obtain ⟨d, hd, rfl⟩ := has_nat c_13 hC (by omega)
      refine pw_aload_n dX5_hangTag_18 rfl rfl ?_
      refine pw_getR (x := (p + 3)) dX5_hangTag_19 fd_RX5_25 (by decide) (pl_k h) rfl (pl_rT h) ?_
      refine pw_iload_n dX5_hangTag_22 rfl rfl ?_
      refine pw_aaldN (j := t) (x := (p + 18 + t)) dX5_hangTag_23 (pl_kT h) (by omega) (by decide) (by decide) (pl_eT h (by omega)) ?_
      refine pw_astore_n dX5_hangTag_24 rfl (by decide) rfl ?_
      refine pw_aload_n dX5_hangTag_25 rfl rfl ?_
      refine pw_getI dX5_hangTag_26 fd_RX5_108 (by decide) (pl_oT h (by omega)) rfl ?_
      refine pw_if_ne (tgt := 52) dX5_hangTag_29 (by decide) (fun c_29 => ?_) (fun c_29 => ?_)
      · refine pw_bipush (v := (-4)) dX5_hangTag_52 (by decide) ?_
        exact pw_iret dX5_hangTag_54 rfl (rL (by rw [hangR, if_pos ⟨of_decide_eq_true c_5, of_decide_eq_true c_13⟩, nI_clamp (show t < 2 ^ 31 by omega), nI_clamp (show d < 2 ^ 31 by omega), if_neg]; exact fun z => c_29 z.1))
      · refine pw_aload_n dX5_hangTag_32 rfl rfl ?_
        refine pw_aload_n dX5_hangTag_33 rfl rfl ?_
        refine pw_getI dX5_hangTag_34 fd_RX5_111 (by decide) (pl_oT h (by omega)) rfl ?_
        rw [hat]
        refine pe_callVi dX5_hangTag_37 oX_X5_isRunning lk_RX5_114 (sp_isRunning h hA hA8 haA) (pl_k h) rfl rfl (Nat.le_of_ble_eq_true rfl) (by decide) ?_
        refine pw_ifB_ne (tgt := 52) dX5_hangTag_40 (by decide) (fun c_40 => ?_) (fun c_40 => ?_)
        · refine pw_bipush (v := (-4)) dX5_hangTag_52 (by decide) ?_
          exact pw_iret dX5_hangTag_54 rfl (rL (by rw [hangR, if_pos ⟨of_decide_eq_true c_5, of_decide_eq_true c_13⟩, nI_clamp (show t < 2 ^ 31 by omega), nI_clamp (show d < 2 ^ 31 by omega), if_neg]; exact fun z => (of_decide_eq_true c_40) (by rw [← nI_clamp (show at_ < 2 ^ 31 by omega), ← hat]; exact z.2.1)))
        · refine pw_aload_n dX5_hangTag_43 rfl rfl ?_
          refine pw_iload_n dX5_hangTag_44 rfl rfl ?_
          refine pw_aload_n dX5_hangTag_45 rfl rfl ?_
          refine pe_callVi dX5_hangTag_46 oX_X5_canServe lk_RX5_117 (sp_canServe (nC := nC) h hn hn4 (by omega) ht) (pl_k h) rfl rfl (Nat.le_of_ble_eq_true rfl) (by decide) ?_
          refine pw_ifB_ne (tgt := 55) dX5_hangTag_49 (by decide) (fun c_49 => ?_) (fun c_49 => ?_)
          · refine pw_aload_n dX5_hangTag_55 rfl rfl ?_
            refine pw_aload_n dX5_hangTag_56 rfl rfl ?_
            refine pw_aload_n dX5_hangTag_57 rfl rfl ?_
            refine pw_getI dX5_hangTag_58 fd_RX5_111 (by decide) (pl_oT h (by omega)) rfl ?_
            refine pe_callVi dX5_hangTag_61 oX_X5_tagsHanging lk_RX5_91 (sp_tagsHanging h hn hn4) (pl_k h) rfl rfl (Nat.le_of_ble_eq_true rfl) (by decide) ?_
            refine pw_putI dX5_hangTag_64 fd_RX5_121 (by decide) rfl ⟨rfl, rfl, rfl⟩ (pl_oT h (by omega)) ?_
            refine pw_aload_n dX5_hangTag_67 rfl rfl ?_
            refine pw_iconst (v := 1) dX5_hangTag_68 (by decide) ?_
            refine pw_putI dX5_hangTag_69 fd_RX5_108 (by decide) rfl ⟨rfl, rfl, rfl⟩ (pl_oT h (by omega)) ?_
            refine pw_aload_n dX5_hangTag_72 rfl rfl ?_
            refine pw_iload_n dX5_hangTag_73 rfl rfl ?_
            refine pw_putI dX5_hangTag_74 fd_RX5_124 (by decide) rfl ⟨rfl, rfl, rfl⟩ (pl_oT h (by omega)) ?_
            refine pw_aload_n dX5_hangTag_77 rfl rfl ?_
            refine pw_getI dX5_hangTag_78 fd_RX5_121 (by decide) (pl_oT h (by omega)) rfl ?_
            rw [up2_nj (by decide), up2_nj (by decide), up2_s]
            refine pw_iconst (v := 1) dX5_hangTag_81 (by decide) ?_
            refine pw_iadd dX5_hangTag_82 ?_
            rw [nI_1]
            exact pw_iret dX5_hangTag_83 rfl (rL (by rw [hangR, if_pos ⟨of_decide_eq_true c_5, of_decide_eq_true c_13⟩, nI_clamp (show t < 2 ^ 31 by omega), nI_clamp (show d < 2 ^ 31 by omega), if_pos]; rfl; exact ⟨c_29, by rw [hat, nI_clamp (show at_ < 2 ^ 31 by omega)]; exact Classical.not_not.mp (of_decide_eq_false c_40), c_49⟩))
          · refine pw_bipush (v := (-4)) dX5_hangTag_52 (by decide) ?_
            exact pw_iret dX5_hangTag_54 rfl (rL (by rw [hangR, if_pos ⟨of_decide_eq_true c_5, of_decide_eq_true c_13⟩, nI_clamp (show t < 2 ^ 31 by omega), nI_clamp (show d < 2 ^ 31 by omega), if_neg]; exact fun z => by rw [z.2.2] at c_49; cases c_49))
    · refine pw_iconst (v := (-1)) dX5_hangTag_16 (by decide) ?_
      exact pw_iret dX5_hangTag_17 rfl (rL (by rw [hangR, if_neg (fun z9 => of_decide_eq_false c_13 z9.2)]))

set_option maxRecDepth 4000 in
theorem sp_beginTask {σ : pT} {I : pI} {F : pF} {p nA n : Nat} {a : Int32} (h : isPl σ p) (hn : I p 6 = nI n) (hn4 : n ≤ 24) (hA : I p 4 = nI nA) (hA8 : nA ≤ 8) (hW : ∀ t, t < n → ∃ a, a < nA ∧ I (p + 18 + t) 0 = nI a) (hKd : ∀ t, t < n → ∃ k, k < 5 ∧ I (p + 18 + t) 3 = nI k)  : PE yX5_beginTask cX5_beginTask mX5_beginTask [.ref p, .int a] σ I F (some (.int (beginR I F p n a).1)) (beginR I F p n a).2.1 (beginR I F p n a).2.2 := by
  refine PE.of oP_X5_beginTask (catOK rfl) (Nat.le_of_ble_eq_true rfl) ?_
  show PW _ _ _ 0 [.ref p, .int a, pJ] [] _ _ _ _
  refine pw_aload_n dX5_beginTask_0 rfl rfl ?_
  refine pw_iload_n dX5_beginTask_1 rfl rfl ?_
  refine pe_callVi dX5_beginTask_2 oX_X5_hasTask lk_RX5_102 (sp_hasTask h) (pl_k h) rfl rfl (Nat.le_of_ble_eq_true rfl) (by decide) ?_
  refine pw_ifB_ne (tgt := 10) dX5_beginTask_5 (by decide) (fun c_5 => ?_) (fun c_5 => ?_)
  · obtain ⟨t, ht, rfl⟩ := has_nat c_5 hn (by omega)
    obtain ⟨at_, haA, hat⟩ := hW t ht
    obtain ⟨kt, hk5, hkd⟩ := hKd t ht
    refine pw_aload_n dX5_beginTask_10 rfl rfl ?_
    refine pw_iload_n dX5_beginTask_11 rfl rfl ?_
    refine pe_callVi dX5_beginTask_12 oX_X5_reasonAgainst lk_RX5_127 (sp_reasonAgainst h hn hn4 hA hA8 hkd hk5 hat haA ht) (pl_k h) rfl rfl (Nat.le_of_ble_eq_true rfl) (by decide) ?_
    refine pw_if_eq (tgt := 21) dX5_beginTask_15 (by decide) (fun c_15 => ?_) (fun c_15 => ?_)
    · refine pw_aload_n dX5_beginTask_21 rfl rfl ?_
      refine pw_getR (x := (p + 3)) dX5_beginTask_22 fd_RX5_25 (by decide) (pl_k h) rfl (pl_rT h) ?_
      refine pw_iload_n dX5_beginTask_25 rfl rfl ?_
      refine pw_aaldN (j := t) (x := (p + 18 + t)) dX5_beginTask_26 (pl_kT h) (by omega) (by decide) (by decide) (pl_eT h (by omega)) ?_
      refine pw_astore_n dX5_beginTask_27 rfl (by decide) rfl ?_
      refine pw_aload_n dX5_beginTask_28 rfl rfl ?_
      refine pw_iconst (v := 2) dX5_beginTask_29 (by decide) ?_
      refine pw_putI dX5_beginTask_30 fd_RX5_108 (by decide) rfl ⟨rfl, rfl, rfl⟩ (pl_oT h (by omega)) ?_
      refine pw_aload_n dX5_beginTask_33 rfl rfl ?_
      refine pw_aload_n dX5_beginTask_34 rfl rfl ?_
      refine pw_getI dX5_beginTask_35 fd_RX5_130 (by decide) (pl_oT h (by omega)) rfl ?_
      rw [up2_nj (by decide)]
      refine pw_putI dX5_beginTask_38 fd_RX5_133 (by decide) rfl ⟨rfl, rfl, rfl⟩ (pl_oT h (by omega)) ?_
      refine pw_aload_n dX5_beginTask_41 rfl rfl ?_
      refine pw_getI dX5_beginTask_42 fd_RX5_43 (by decide) (pl_k h) rfl ?_
      rw [up2_ni (by omega), up2_ni (by omega)]
      refine pw_aload_n dX5_beginTask_45 rfl rfl ?_
      refine pw_getI dX5_beginTask_46 fd_RX5_130 (by decide) (pl_oT h (by omega)) rfl ?_
      rw [up2_nj (by decide), up2_nj (by decide)]
      refine pw_iadd dX5_beginTask_49 ?_
      exact pw_iret dX5_beginTask_50 rfl (rL (by rw [beginR, if_pos (of_decide_eq_true c_5), nI_clamp (show t < 2 ^ 31 by omega), hkd, hat, nI_clamp (show kt < 2 ^ 31 by omega), nI_clamp (show at_ < 2 ^ 31 by omega), if_pos c_15]))
    · refine pw_bipush (v := (-4)) dX5_beginTask_18 (by decide) ?_
      exact pw_iret dX5_beginTask_20 rfl (rL (by rw [beginR, if_pos (of_decide_eq_true c_5), nI_clamp (show t < 2 ^ 31 by omega), hkd, hat, nI_clamp (show kt < 2 ^ 31 by omega), nI_clamp (show at_ < 2 ^ 31 by omega), if_neg c_15]))
  · refine pw_iconst (v := (-1)) dX5_beginTask_8 (by decide) ?_
    exact pw_iret dX5_beginTask_9 rfl (rL (by rw [beginR, if_neg (of_decide_eq_false c_5)]))

set_option maxRecDepth 4000 in
theorem sp_cancelTask {σ : pT} {I : pI} {F : pF} {p n : Nat} {a : Int32} (h : isPl σ p) (hn : I p 6 = nI n) (hn4 : n ≤ 24)  : PE yX5_cancelTask cX5_cancelTask mX5_cancelTask [.ref p, .int a] σ I F (some (.int (cancelR I F p a).1)) (cancelR I F p a).2.1 (cancelR I F p a).2.2 := by
  refine PE.of oP_X5_cancelTask (catOK rfl) (Nat.le_of_ble_eq_true rfl) ?_
  show PW _ _ _ 0 [.ref p, .int a] [] _ _ _ _
  refine pw_aload_n dX5_cancelTask_0 rfl rfl ?_
  refine pw_iload_n dX5_cancelTask_1 rfl rfl ?_
  refine pe_callVi dX5_cancelTask_2 oX_X5_hasTask lk_RX5_102 (sp_hasTask h) (pl_k h) rfl rfl (Nat.le_of_ble_eq_true rfl) (by decide) ?_
  refine pw_ifB_ne (tgt := 10) dX5_cancelTask_5 (by decide) (fun c_5 => ?_) (fun c_5 => ?_)
  · obtain ⟨t, ht, rfl⟩ := has_nat c_5 hn (by omega)
    refine pw_aload_n dX5_cancelTask_10 rfl rfl ?_
    refine pw_getR (x := (p + 3)) dX5_cancelTask_11 fd_RX5_25 (by decide) (pl_k h) rfl (pl_rT h) ?_
    refine pw_iload_n dX5_cancelTask_14 rfl rfl ?_
    refine pw_aaldN (j := t) (x := (p + 18 + t)) dX5_cancelTask_15 (pl_kT h) (by omega) (by decide) (by decide) (pl_eT h (by omega)) ?_
    refine pw_getI dX5_cancelTask_16 fd_RX5_108 (by decide) (pl_oT h (by omega)) rfl ?_
    refine pw_if_eq (tgt := 25) dX5_cancelTask_19 (by decide) (fun c_19 => ?_) (fun c_19 => ?_)
    · refine pw_aload_n dX5_cancelTask_25 rfl rfl ?_
      refine pw_getR (x := (p + 3)) dX5_cancelTask_26 fd_RX5_25 (by decide) (pl_k h) rfl (pl_rT h) ?_
      refine pw_iload_n dX5_cancelTask_29 rfl rfl ?_
      refine pw_aaldN (j := t) (x := (p + 18 + t)) dX5_cancelTask_30 (pl_kT h) (by omega) (by decide) (by decide) (pl_eT h (by omega)) ?_
      refine pw_bipush (v := 6) dX5_cancelTask_31 (by decide) ?_
      refine pw_putI dX5_cancelTask_33 fd_RX5_108 (by decide) rfl ⟨rfl, rfl, rfl⟩ (pl_oT h (by omega)) ?_
      refine pw_aload_n dX5_cancelTask_36 rfl rfl ?_
      refine pw_getR (x := (p + 3)) dX5_cancelTask_37 fd_RX5_25 (by decide) (pl_k h) rfl (pl_rT h) ?_
      refine pw_iload_n dX5_cancelTask_40 rfl rfl ?_
      refine pw_aaldN (j := t) (x := (p + 18 + t)) dX5_cancelTask_41 (pl_kT h) (by omega) (by decide) (by decide) (pl_eT h (by omega)) ?_
      refine pw_getI dX5_cancelTask_42 fd_RX5_140 (by decide) (pl_oT h (by omega)) rfl ?_
      rw [up2_nj (by decide)]
      exact pw_iret dX5_cancelTask_45 rfl (rL (by rw [cancelR, if_pos (of_decide_eq_true c_5), nI_clamp (show t < 2 ^ 31 by omega), if_pos c_19]))
    · refine pw_bipush (v := (-4)) dX5_cancelTask_22 (by decide) ?_
      exact pw_iret dX5_cancelTask_24 rfl (rL (by rw [cancelR, if_pos (of_decide_eq_true c_5), nI_clamp (show t < 2 ^ 31 by omega), if_neg c_19]))
  · refine pw_iconst (v := (-1)) dX5_cancelTask_8 (by decide) ?_
    exact pw_iret dX5_cancelTask_9 rfl (rL (by rw [cancelR, if_neg (of_decide_eq_false c_5)]))

set_option maxRecDepth 4000 in
theorem sp_liftTag {σ : pT} {I : pI} {F : pF} {p nA nC n : Nat} {a c : Int32} (h : isPl σ p) (hn : I p 6 = nI n) (hn4 : n ≤ 24) (hC : I p 5 = nI nC) (hC5 : nC ≤ 5)  : PE yX5_liftTag cX5_liftTag mX5_liftTag [.ref p, .int a, .int c] σ I F (some (.int (liftR I F p n a c).1)) (liftR I F p n a c).2.1 (liftR I F p n a c).2.2 := by
  refine PE.of oP_X5_liftTag (catOK rfl) (Nat.le_of_ble_eq_true rfl) ?_
  show PW _ _ _ 0 [.ref p, .int a, .int c, pJ] [] _ _ _ _
  refine pw_aload_n dX5_liftTag_0 rfl rfl ?_
  refine pw_iload_n dX5_liftTag_1 rfl rfl ?_
  refine pe_callVi dX5_liftTag_2 oX_X5_hasTask lk_RX5_102 (sp_hasTask h) (pl_k h) rfl rfl (Nat.le_of_ble_eq_true rfl) (by decide) ?_
  refine pw_ifB_eq (tgt := 16) dX5_liftTag_5 (by decide) (fun c_5 => ?_) (fun c_5 => ?_)
  · refine pw_iconst (v := (-1)) dX5_liftTag_16 (by decide) ?_
    exact pw_iret dX5_liftTag_17 rfl (rL (by rw [liftR, if_neg (fun z9 => of_decide_eq_false c_5 z9.1)]))
  · obtain ⟨t, ht, rfl⟩ := has_nat c_5 hn (by omega)
    refine pw_aload_n dX5_liftTag_8 rfl rfl ?_
    refine pw_iload_n dX5_liftTag_9 rfl rfl ?_
    refine pe_callVi dX5_liftTag_10 oX_X5_hasCrew lk_RX5_105 (sp_hasCrew h) (pl_k h) rfl rfl (Nat.le_of_ble_eq_true rfl) (by decide) ?_
    refine pw_ifB_ne (tgt := 18) dX5_liftTag_13 (by decide) (fun c_13 => ?_) (fun c_13 => ?_)
    · obtain ⟨d, hd, rfl⟩ := has_nat c_13 hC (by omega)
      refine pw_aload_n dX5_liftTag_18 rfl rfl ?_
      refine pw_getR (x := (p + 3)) dX5_liftTag_19 fd_RX5_25 (by decide) (pl_k h) rfl (pl_rT h) ?_
      refine pw_iload_n dX5_liftTag_22 rfl rfl ?_
      refine pw_aaldN (j := t) (x := (p + 18 + t)) dX5_liftTag_23 (pl_kT h) (by omega) (by decide) (by decide) (pl_eT h (by omega)) ?_
      refine pw_astore_n dX5_liftTag_24 rfl (by decide) rfl ?_
      refine pw_aload_n dX5_liftTag_25 rfl rfl ?_
      refine pw_getI dX5_liftTag_26 fd_RX5_108 (by decide) (pl_oT h (by omega)) rfl ?_
      refine pw_iconst (v := 1) dX5_liftTag_29 (by decide) ?_
      refine pw_icmp_eq (tgt := 44) dX5_liftTag_30 (by decide) (fun c_30 => ?_) (fun c_30 => ?_)
      · refine pw_aload_n dX5_liftTag_44 rfl rfl ?_
        refine pw_getI dX5_liftTag_45 fd_RX5_124 (by decide) (pl_oT h (by omega)) rfl ?_
        refine pw_iload_n dX5_liftTag_48 rfl rfl ?_
        refine pw_icmp_ne (tgt := 65) dX5_liftTag_49 (by decide) (fun c_49 => ?_) (fun c_49 => ?_)
        · refine pw_bipush (v := (-4)) dX5_liftTag_65 (by decide) ?_
          exact pw_iret dX5_liftTag_67 rfl (rL (by rw [liftR, if_pos ⟨of_decide_eq_true c_5, of_decide_eq_true c_13⟩, nI_clamp (show t < 2 ^ 31 by omega), if_neg]; exact fun z => c_49 z.2.1))
        · refine pw_aload_n dX5_liftTag_52 rfl rfl ?_
          refine pw_aload_n dX5_liftTag_53 rfl rfl ?_
          refine pw_getI dX5_liftTag_54 fd_RX5_111 (by decide) (pl_oT h (by omega)) rfl ?_
          refine pw_iconst (v := 0) dX5_liftTag_57 (by decide) ?_
          refine pe_callVi dX5_liftTag_58 oX_X5_taskOfTag lk_RX5_136 (sp_taskOfTag h hn hn4) (pl_k h) rfl rfl (Nat.le_of_ble_eq_true rfl) (by decide) ?_
          refine pw_iload_n dX5_liftTag_61 rfl rfl ?_
          refine pw_icmp_eq (tgt := 68) dX5_liftTag_62 (by decide) (fun c_62 => ?_) (fun c_62 => ?_)
          · refine pw_aload_n dX5_liftTag_68 rfl rfl ?_
            refine pw_getI dX5_liftTag_69 fd_RX5_108 (by decide) (pl_oT h (by omega)) rfl ?_
            refine pw_iconst (v := 3) dX5_liftTag_72 (by decide) ?_
            refine pw_icmp_ne (tgt := 84) dX5_liftTag_73 (by decide) (fun c_73 => ?_) (fun c_73 => ?_)
            · refine pw_aload_n dX5_liftTag_84 rfl rfl ?_
              refine pw_iconst (v := 0) dX5_liftTag_85 (by decide) ?_
              refine pw_putI dX5_liftTag_86 fd_RX5_108 (by decide) rfl ⟨rfl, rfl, rfl⟩ (pl_oT h (by omega)) ?_
              refine pw_aload_n dX5_liftTag_89 rfl rfl ?_
              refine pw_bipush (v := (-5)) dX5_liftTag_90 (by decide) ?_
              refine pw_putI dX5_liftTag_92 fd_RX5_124 (by decide) rfl ⟨rfl, rfl, rfl⟩ (pl_oT h (by omega)) ?_
              refine pw_aload_n dX5_liftTag_95 rfl rfl ?_
              refine pw_aload_n dX5_liftTag_96 rfl rfl ?_
              refine pw_getI dX5_liftTag_97 fd_RX5_111 (by decide) (pl_oT h (by omega)) rfl ?_
              first | rw [up2_nj (by decide), up2_nj (by decide)] | rw [up2_nj (by decide)]
              refine pe_callVi dX5_liftTag_100 oX_X5_tagsHanging lk_RX5_91 (sp_tagsHanging h (by first | exact (up2_ni (by omega)).trans ((up2_ni (by omega)).trans hn) | exact (up2_ni (by omega)).trans hn) hn4) (pl_k h) rfl rfl (Nat.le_of_ble_eq_true rfl) (by decide) ?_
              exact pw_iret dX5_liftTag_103 rfl (rL (by rw [liftR, if_pos ⟨of_decide_eq_true c_5, of_decide_eq_true c_13⟩, nI_clamp (show t < 2 ^ 31 by omega), if_pos ⟨(Or.inl c_30), c_49, c_62⟩, liftI, if_neg c_73]))
            · refine pw_aload_n dX5_liftTag_76 rfl rfl ?_
              refine pw_iconst (v := 4) dX5_liftTag_77 (by decide) ?_
              refine pw_putI dX5_liftTag_78 fd_RX5_108 (by decide) rfl ⟨rfl, rfl, rfl⟩ (pl_oT h (by omega)) ?_
              refine pw_goto (tgt := 95) dX5_liftTag_81 (by decide) ?_
              refine pw_aload_n dX5_liftTag_95 rfl rfl ?_
              refine pw_aload_n dX5_liftTag_96 rfl rfl ?_
              refine pw_getI dX5_liftTag_97 fd_RX5_111 (by decide) (pl_oT h (by omega)) rfl ?_
              first | rw [up2_nj (by decide), up2_nj (by decide)] | rw [up2_nj (by decide)]
              refine pe_callVi dX5_liftTag_100 oX_X5_tagsHanging lk_RX5_91 (sp_tagsHanging h (by first | exact (up2_ni (by omega)).trans ((up2_ni (by omega)).trans hn) | exact (up2_ni (by omega)).trans hn) hn4) (pl_k h) rfl rfl (Nat.le_of_ble_eq_true rfl) (by decide) ?_
              exact pw_iret dX5_liftTag_103 rfl (rL (by rw [liftR, if_pos ⟨of_decide_eq_true c_5, of_decide_eq_true c_13⟩, nI_clamp (show t < 2 ^ 31 by omega), if_pos ⟨(Or.inl c_30), c_49, c_62⟩, liftI, if_pos c_73]))
          · refine pw_bipush (v := (-4)) dX5_liftTag_65 (by decide) ?_
            exact pw_iret dX5_liftTag_67 rfl (rL (by rw [liftR, if_pos ⟨of_decide_eq_true c_5, of_decide_eq_true c_13⟩, nI_clamp (show t < 2 ^ 31 by omega), if_neg]; exact fun z => c_62 z.2.2))
      · refine pw_aload_n dX5_liftTag_33 rfl rfl ?_
        refine pw_getI dX5_liftTag_34 fd_RX5_108 (by decide) (pl_oT h (by omega)) rfl ?_
        refine pw_iconst (v := 3) dX5_liftTag_37 (by decide) ?_
        refine pw_icmp_eq (tgt := 44) dX5_liftTag_38 (by decide) (fun c_38 => ?_) (fun c_38 => ?_)
        · refine pw_aload_n dX5_liftTag_44 rfl rfl ?_
          refine pw_getI dX5_liftTag_45 fd_RX5_124 (by decide) (pl_oT h (by omega)) rfl ?_
          refine pw_iload_n dX5_liftTag_48 rfl rfl ?_
          refine pw_icmp_ne (tgt := 65) dX5_liftTag_49 (by decide) (fun c_49 => ?_) (fun c_49 => ?_)
          · refine pw_bipush (v := (-4)) dX5_liftTag_65 (by decide) ?_
            exact pw_iret dX5_liftTag_67 rfl (rL (by rw [liftR, if_pos ⟨of_decide_eq_true c_5, of_decide_eq_true c_13⟩, nI_clamp (show t < 2 ^ 31 by omega), if_neg]; exact fun z => c_49 z.2.1))
          · refine pw_aload_n dX5_liftTag_52 rfl rfl ?_
            refine pw_aload_n dX5_liftTag_53 rfl rfl ?_
            refine pw_getI dX5_liftTag_54 fd_RX5_111 (by decide) (pl_oT h (by omega)) rfl ?_
            refine pw_iconst (v := 0) dX5_liftTag_57 (by decide) ?_
            refine pe_callVi dX5_liftTag_58 oX_X5_taskOfTag lk_RX5_136 (sp_taskOfTag h hn hn4) (pl_k h) rfl rfl (Nat.le_of_ble_eq_true rfl) (by decide) ?_
            refine pw_iload_n dX5_liftTag_61 rfl rfl ?_
            refine pw_icmp_eq (tgt := 68) dX5_liftTag_62 (by decide) (fun c_62 => ?_) (fun c_62 => ?_)
            · refine pw_aload_n dX5_liftTag_68 rfl rfl ?_
              refine pw_getI dX5_liftTag_69 fd_RX5_108 (by decide) (pl_oT h (by omega)) rfl ?_
              refine pw_iconst (v := 3) dX5_liftTag_72 (by decide) ?_
              refine pw_icmp_ne (tgt := 84) dX5_liftTag_73 (by decide) (fun c_73 => ?_) (fun c_73 => ?_)
              · refine pw_aload_n dX5_liftTag_84 rfl rfl ?_
                refine pw_iconst (v := 0) dX5_liftTag_85 (by decide) ?_
                refine pw_putI dX5_liftTag_86 fd_RX5_108 (by decide) rfl ⟨rfl, rfl, rfl⟩ (pl_oT h (by omega)) ?_
                refine pw_aload_n dX5_liftTag_89 rfl rfl ?_
                refine pw_bipush (v := (-5)) dX5_liftTag_90 (by decide) ?_
                refine pw_putI dX5_liftTag_92 fd_RX5_124 (by decide) rfl ⟨rfl, rfl, rfl⟩ (pl_oT h (by omega)) ?_
                refine pw_aload_n dX5_liftTag_95 rfl rfl ?_
                refine pw_aload_n dX5_liftTag_96 rfl rfl ?_
                refine pw_getI dX5_liftTag_97 fd_RX5_111 (by decide) (pl_oT h (by omega)) rfl ?_
                first | rw [up2_nj (by decide), up2_nj (by decide)] | rw [up2_nj (by decide)]
                refine pe_callVi dX5_liftTag_100 oX_X5_tagsHanging lk_RX5_91 (sp_tagsHanging h (by first | exact (up2_ni (by omega)).trans ((up2_ni (by omega)).trans hn) | exact (up2_ni (by omega)).trans hn) hn4) (pl_k h) rfl rfl (Nat.le_of_ble_eq_true rfl) (by decide) ?_
                exact pw_iret dX5_liftTag_103 rfl (rL (by rw [liftR, if_pos ⟨of_decide_eq_true c_5, of_decide_eq_true c_13⟩, nI_clamp (show t < 2 ^ 31 by omega), if_pos ⟨(Or.inr c_38), c_49, c_62⟩, liftI, if_neg c_73]))
              · refine pw_aload_n dX5_liftTag_76 rfl rfl ?_
                refine pw_iconst (v := 4) dX5_liftTag_77 (by decide) ?_
                refine pw_putI dX5_liftTag_78 fd_RX5_108 (by decide) rfl ⟨rfl, rfl, rfl⟩ (pl_oT h (by omega)) ?_
                refine pw_goto (tgt := 95) dX5_liftTag_81 (by decide) ?_
                refine pw_aload_n dX5_liftTag_95 rfl rfl ?_
                refine pw_aload_n dX5_liftTag_96 rfl rfl ?_
                refine pw_getI dX5_liftTag_97 fd_RX5_111 (by decide) (pl_oT h (by omega)) rfl ?_
                first | rw [up2_nj (by decide), up2_nj (by decide)] | rw [up2_nj (by decide)]
                refine pe_callVi dX5_liftTag_100 oX_X5_tagsHanging lk_RX5_91 (sp_tagsHanging h (by first | exact (up2_ni (by omega)).trans ((up2_ni (by omega)).trans hn) | exact (up2_ni (by omega)).trans hn) hn4) (pl_k h) rfl rfl (Nat.le_of_ble_eq_true rfl) (by decide) ?_
                exact pw_iret dX5_liftTag_103 rfl (rL (by rw [liftR, if_pos ⟨of_decide_eq_true c_5, of_decide_eq_true c_13⟩, nI_clamp (show t < 2 ^ 31 by omega), if_pos ⟨(Or.inr c_38), c_49, c_62⟩, liftI, if_pos c_73]))
            · refine pw_bipush (v := (-4)) dX5_liftTag_65 (by decide) ?_
              exact pw_iret dX5_liftTag_67 rfl (rL (by rw [liftR, if_pos ⟨of_decide_eq_true c_5, of_decide_eq_true c_13⟩, nI_clamp (show t < 2 ^ 31 by omega), if_neg]; exact fun z => c_62 z.2.2))
        · refine pw_bipush (v := (-4)) dX5_liftTag_41 (by decide) ?_
          exact pw_iret dX5_liftTag_43 rfl (rL (by rw [liftR, if_pos ⟨of_decide_eq_true c_5, of_decide_eq_true c_13⟩, nI_clamp (show t < 2 ^ 31 by omega), if_neg]; exact fun z => z.1.elim c_30 c_38))
    · refine pw_iconst (v := (-1)) dX5_liftTag_16 (by decide) ?_
      exact pw_iret dX5_liftTag_17 rfl (rL (by rw [liftR, if_neg (fun z9 => of_decide_eq_false c_13 z9.2)]))
end
section
/-! a plant copied -/
def Cpk (p r : Nat) (I : pI) (F : pF) (kA kC kT kB : Nat) (I' : pI) (F' : pF) : Prop :=
  (∀ i, (i < p ∨ p + 42 ≤ i) → I' i = I i ∧ F' i = F i) ∧
  (∀ a, a < kA → I' (p + 5 + a) 0 = I (r + 5 + a) 0 ∧ I' (p + 5 + a) 4 = I (r + 5 + a) 4 ∧ I' (p + 5 + a) 5 = I (r + 5 + a) 5 ∧ F' (p + 5 + a) 1 = F (r + 5 + a) 1 ∧ F' (p + 5 + a) 2 = F (r + 5 + a) 2 ∧ F' (p + 5 + a) 3 = F (r + 5 + a) 3) ∧
  (∀ c, c < kC → I' (p + 13 + c) 0 = I (r + 13 + c) 0 ∧ I' (p + 13 + c) 1 = I (r + 13 + c) 1) ∧
  (∀ t j, t < kT → j < 12 → I' (p + 18 + t) j = I (r + 18 + t) j) ∧
  (∀ k, k < kB → I' (p + 4) k = I (r + 4) k)
def Cpy (p r : Nat) (I : pI) (F : pF) (I' : pI) (F' : pF) : Prop := Cpk p r I F 8 5 24 5 I' F' ∧ I' p 4 = I r 4 ∧ I' p 5 = I r 5 ∧ I' p 6 = I r 6 ∧ I' p 7 = I r 7
theorem Cpk_0 {p r : Nat} {I : pI} {F : pF} : Cpk p r I F 0 0 0 0 I F := ⟨fun _ _ => ⟨rfl, rfl⟩, fun _ h => absurd h (Nat.not_lt_zero _), fun _ h => absurd h (Nat.not_lt_zero _), fun _ _ h => absurd h (Nat.not_lt_zero _), fun _ h => absurd h (Nat.not_lt_zero _)⟩
theorem Cpk_A {p r k : Nat} {I I' : pI} {F F' : pF} (h : Cpk p r I F k 0 0 0 I' F') (hk : k < 8) (hd : p + 42 ≤ r ∨ r + 42 ≤ p) : Cpk p r I F (k + 1) 0 0 0 (up2 (up2 (up2 I' (p + 5 + k) 0 (I' (r + 5 + k) 0)) (p + 5 + k) 4 (I' (r + 5 + k) 4)) (p + 5 + k) 5 (I' (r + 5 + k) 5)) (up2 (up2 (up2 F' (p + 5 + k) 1 (F' (r + 5 + k) 1)) (p + 5 + k) 2 (F' (r + 5 + k) 2)) (p + 5 + k) 3 (F' (r + 5 + k) 3)) := by
  obtain ⟨h1, h2, h3, h4, h5⟩ := h
  have e1 := (h1 (r + 5 + k) (by omega)).1
  have e2 := (h1 (r + 5 + k) (by omega)).2
  rw [e1, e2]
  refine ⟨fun i hi => ?_, fun a ha => ?_, fun c hc => absurd hc (Nat.not_lt_zero _), fun _ _ h => absurd h (Nat.not_lt_zero _), fun _ h => absurd h (Nat.not_lt_zero _)⟩
  · rw [up2_row (by omega), up2_row (by omega), up2_row (by omega), up2_row (by omega), up2_row (by omega), up2_row (by omega)]
    exact h1 i hi
  · by_cases hak : a = k
    · subst hak
      simp [up2]
    · have hne : ¬ p + 5 + a = p + 5 + k := by omega
      simp only [up2, hne, false_and, if_false]
      exact h2 a (by omega)
theorem Cpk_C {p r k : Nat} {I I' : pI} {F F' : pF} (h : Cpk p r I F 8 k 0 0 I' F') (hk : k < 5) (hd : p + 42 ≤ r ∨ r + 42 ≤ p) : Cpk p r I F 8 (k + 1) 0 0 (up2 (up2 I' (p + 13 + k) 0 (I' (r + 13 + k) 0)) (p + 13 + k) 1 (I' (r + 13 + k) 1)) F' := by
  obtain ⟨h1, h2, h3, h4, h5⟩ := h
  have e1 := (h1 (r + 13 + k) (by omega)).1
  rw [e1]
  refine ⟨fun i hi => ?_, fun a ha => ?_, fun c hc => ?_, fun _ _ h => absurd h (Nat.not_lt_zero _), fun _ h => absurd h (Nat.not_lt_zero _)⟩
  · rw [up2_row (by omega), up2_row (by omega)]
    exact h1 i hi
  · have hne : ¬ p + 5 + a = p + 13 + k := by omega
    simp only [up2, hne, false_and, if_false]
    exact h2 a ha
  · by_cases hak : c = k
    · subst hak
      simp [up2]
    · have hne : ¬ p + 13 + c = p + 13 + k := by omega
      simp only [up2, hne, false_and, if_false]
      exact h3 c (by omega)
theorem Cpk_T {p r k : Nat} {I I' : pI} {F F' : pF} (h : Cpk p r I F 8 5 k 0 I' F') (hk : k < 24) (hd : p + 42 ≤ r ∨ r + 42 ≤ p) : Cpk p r I F 8 5 (k + 1) 0 (up2 (up2 (up2 (up2 (up2 (up2 (up2 (up2 (up2 (up2 (up2 (up2 I' (p + 18 + k) 0 (I' (r + 18 + k) 0)) (p + 18 + k) 1 (I' (r + 18 + k) 1)) (p + 18 + k) 2 (I' (r + 18 + k) 2)) (p + 18 + k) 3 (I' (r + 18 + k) 3)) (p + 18 + k) 4 (I' (r + 18 + k) 4)) (p + 18 + k) 5 (I' (r + 18 + k) 5)) (p + 18 + k) 6 (I' (r + 18 + k) 6)) (p + 18 + k) 7 (I' (r + 18 + k) 7)) (p + 18 + k) 8 (I' (r + 18 + k) 8)) (p + 18 + k) 9 (I' (r + 18 + k) 9)) (p + 18 + k) 10 (I' (r + 18 + k) 10)) (p + 18 + k) 11 (I' (r + 18 + k) 11)) F' := by
  obtain ⟨h1, h2, h3, h4, h5⟩ := h
  have e1 := (h1 (r + 18 + k) (by omega)).1
  rw [e1]
  refine ⟨fun i hi => ?_, fun a ha => ?_, fun c hc => ?_, fun t j ht hj => ?_, fun _ h => absurd h (Nat.not_lt_zero _)⟩
  · rw [up2_row (by omega), up2_row (by omega), up2_row (by omega), up2_row (by omega), up2_row (by omega), up2_row (by omega), up2_row (by omega), up2_row (by omega), up2_row (by omega), up2_row (by omega), up2_row (by omega), up2_row (by omega)]
    exact h1 i hi
  · have hne : ¬ p + 5 + a = p + 18 + k := by omega
    simp only [up2, hne, false_and, if_false]
    exact h2 a ha
  · have hne : ¬ p + 13 + c = p + 18 + k := by omega
    simp only [up2, hne, false_and, if_false]
    exact h3 c hc
  · by_cases hak : t = k
    · subst hak
      rcases (show j = 0 ∨ j = 1 ∨ j = 2 ∨ j = 3 ∨ j = 4 ∨ j = 5 ∨ j = 6 ∨ j = 7 ∨ j = 8 ∨ j = 9 ∨ j = 10 ∨ j = 11 by omega) with rfl | rfl | rfl | rfl | rfl | rfl | rfl | rfl | rfl | rfl | rfl | rfl <;> simp [up2]
    · have hne : ¬ p + 18 + t = p + 18 + k := by omega
      simp only [up2, hne, false_and, if_false]
      exact h4 t j (by omega) hj
theorem Cpk_B {p r k : Nat} {I I' : pI} {F F' : pF} (h : Cpk p r I F 8 5 24 k I' F') (hk : k < 5) (hd : p + 42 ≤ r ∨ r + 42 ≤ p) : Cpk p r I F 8 5 24 (k + 1) (up2 I' (p + 4) k (I' (r + 4) k)) F' := by
  obtain ⟨h1, h2, h3, h4, h5⟩ := h
  have e1 := (h1 (r + 4) (by omega)).1
  rw [e1]
  refine ⟨fun i hi => ?_, fun a ha => ?_, fun c hc => ?_, fun t j ht hj => ?_, fun q hq => ?_⟩
  · rw [up2_row (by omega)]
    exact h1 i hi
  · rw [up2_ni (by omega), up2_ni (by omega), up2_ni (by omega)]
    exact h2 a ha
  · rw [up2_ni (by omega), up2_ni (by omega)]
    exact h3 c hc
  · rw [up2_ni (by omega)]
    exact h4 t j ht hj
  · by_cases hak : q = k
    · subst hak
      rw [up2_s]
    · rw [up2_nj hak]
      exact h5 q (by omega)
theorem Cpy_of {p r : Nat} {I I' : pI} {F F' : pF} (h : Cpk p r I F 8 5 24 5 I' F') (hd : p + 42 ≤ r ∨ r + 42 ≤ p) : Cpy p r I F (up2 (up2 (up2 (up2 I' p 4 (I' r 4)) p 5 (I' r 5)) p 6 (I' r 6)) p 7 (I' r 7)) F' := by
  obtain ⟨h1, h2, h3, h4, h5⟩ := h
  have e1 := (h1 r (by omega)).1
  rw [e1]
  refine ⟨⟨fun i hi => ?_, fun a ha => ?_, fun c hc => ?_, fun t j ht hj => ?_, fun q hq => ?_⟩, ?_, ?_, ?_, ?_⟩
  · rw [up2_row (by omega), up2_row (by omega), up2_row (by omega), up2_row (by omega)]
    exact h1 i hi
  · have hne : ¬ p + 5 + a = p := by omega
    simp only [up2, hne, false_and, if_false]
    exact h2 a ha
  · have hne : ¬ p + 13 + c = p := by omega
    simp only [up2, hne, false_and, if_false]
    exact h3 c hc
  · have hne : ¬ p + 18 + t = p := by omega
    simp only [up2, hne, false_and, if_false]
    exact h4 t j ht hj
  · have hne : ¬ p + 4 = p := by omega
    simp only [up2, hne, false_and, if_false]
    exact h5 q hq
  all_goals simp [up2]

set_option maxRecDepth 4000 in
theorem sp_copyFrom {σ : pT} {I : pI} {F : pF} {p r : Nat} (h : isPl σ p) (h2 : isPl σ r) (hd : p + 42 ≤ r ∨ r + 42 ≤ p) (hz : ∀ a, a < 8 → I (r + 5 + a) 4 = 0 ∨ I (r + 5 + a) 4 = 1) : PR yX5_copyFrom cX5_copyFrom mX5_copyFrom [.ref p, .ref r] σ I F fun v I' F' => v = none ∧ Cpy p r I F I' F' := by
  refine PR.of oP_X5_copyFrom (catOK rfl) (Nat.le_of_ble_eq_true rfl) ?_
  show PW _ _ _ 0 [.ref p, .ref r, pJ] [] _ _ _ _
  have L98 : ∀ k, k ≤ 5 → ∀ (I' : pI) (F' : pF), Cpk p r I F 8 5 24 k I' F' → PW cX5_copyFrom mX5_copyFrom (fM (qR σ (fun v I' F' => v = none ∧ Cpy p r I F I' F'))) 98 [.ref p, .ref r, .int (nI k)] [] σ I' F' (0, 0) := by
    refine dn (fun k => ∀ (I' : pI) (F' : pF), Cpk p r I F 8 5 24 k I' F' → PW cX5_copyFrom mX5_copyFrom (fM (qR σ (fun v I' F' => v = none ∧ Cpy p r I F I' F'))) 98 [.ref p, .ref r, .int (nI k)] [] σ I' F' (0, 0)) 5 ?_ ?_
    · intro I' F' hc
      refine pw_iload_n dX5_copyFrom_98 rfl rfl ?_
      refine pw_aload_n dX5_copyFrom_99 rfl rfl ?_
      refine pw_getR (x := (p + 4)) dX5_copyFrom_100 fd_RX5_29 (by decide) (pl_k h) rfl (pl_rB h) ?_
      refine pw_alenI dX5_copyFrom_103 (pl_kB h) ?_
      refine pw_icmp_ge (tgt := 125) dX5_copyFrom_104 (by decide) (fun c_104 => ?_) (fun c_104 => absurd (Int32.le_refl _) c_104)
      refine pw_aload_n dX5_copyFrom_125 rfl rfl ?_
      refine pw_aload_n dX5_copyFrom_126 rfl rfl ?_
      refine pw_getI dX5_copyFrom_127 fd_RX5_33 (by decide) (pl_k h2) rfl ?_
      refine pw_putI dX5_copyFrom_130 fd_RX5_33 (by decide) rfl ⟨rfl, rfl, rfl⟩ (pl_k h) ?_
      refine pw_aload_n dX5_copyFrom_133 rfl rfl ?_
      refine pw_aload_n dX5_copyFrom_134 rfl rfl ?_
      refine pw_getI dX5_copyFrom_135 fd_RX5_37 (by decide) (pl_k h2) rfl ?_
      refine pw_putI dX5_copyFrom_138 fd_RX5_37 (by decide) rfl ⟨rfl, rfl, rfl⟩ (pl_k h) ?_
      refine pw_aload_n dX5_copyFrom_141 rfl rfl ?_
      refine pw_aload_n dX5_copyFrom_142 rfl rfl ?_
      refine pw_getI dX5_copyFrom_143 fd_RX5_40 (by decide) (pl_k h2) rfl ?_
      refine pw_putI dX5_copyFrom_146 fd_RX5_40 (by decide) rfl ⟨rfl, rfl, rfl⟩ (pl_k h) ?_
      refine pw_aload_n dX5_copyFrom_149 rfl rfl ?_
      refine pw_aload_n dX5_copyFrom_150 rfl rfl ?_
      refine pw_getI dX5_copyFrom_151 fd_RX5_43 (by decide) (pl_k h2) rfl ?_
      refine pw_putI dX5_copyFrom_154 fd_RX5_43 (by decide) rfl ⟨rfl, rfl, rfl⟩ (pl_k h) ?_
      exact pw_vret dX5_copyFrom_157 rfl ⟨rfl, rfl, by simpa only [up2, show ¬ r = p by omega, false_and, if_false] using Cpy_of hc hd⟩
    · intro k hk ih
      intro I' F' hc
      refine pw_iload_n dX5_copyFrom_98 rfl rfl ?_
      refine pw_aload_n dX5_copyFrom_99 rfl rfl ?_
      refine pw_getR (x := (p + 4)) dX5_copyFrom_100 fd_RX5_29 (by decide) (pl_k h) rfl (pl_rB h) ?_
      refine pw_alenI dX5_copyFrom_103 (pl_kB h) ?_
      refine pw_icmp_ge (tgt := 125) dX5_copyFrom_104 (by decide) (fun c_104 => absurd c_104 (nI_ge (b := 5) (by omega) (by decide))) (fun c_104 => ?_)
      refine pw_aload_n dX5_copyFrom_107 rfl rfl ?_
      refine pw_getR (x := (p + 4)) dX5_copyFrom_108 fd_RX5_29 (by decide) (pl_k h) rfl (pl_rB h) ?_
      refine pw_iload_n dX5_copyFrom_111 rfl rfl ?_
      refine pw_aload_n dX5_copyFrom_112 rfl rfl ?_
      refine pw_getR (x := (r + 4)) dX5_copyFrom_113 fd_RX5_29 (by decide) (pl_k h2) rfl (pl_rB h2) ?_
      refine pw_iload_n dX5_copyFrom_116 rfl rfl ?_
      refine pw_ialdN (j := k) dX5_copyFrom_117 (pl_kB h2) (by omega) (by decide) ?_
      refine pw_iastN (j := k) dX5_copyFrom_118 (pl_kB h) (by omega) (by decide) ?_
      refine pw_iinc (v := nI (k + 1)) dX5_copyFrom_119 rfl (nI_add _ _) rfl ?_
      refine pw_goto (tgt := 98) dX5_copyFrom_122 (by decide) ?_
      exact ih _ _ (Cpk_B hc (by omega) hd)
  have L66 : ∀ k, k ≤ 24 → ∀ (I' : pI) (F' : pF), Cpk p r I F 8 5 k 0 I' F' → PW cX5_copyFrom mX5_copyFrom (fM (qR σ (fun v I' F' => v = none ∧ Cpy p r I F I' F'))) 66 [.ref p, .ref r, .int (nI k)] [] σ I' F' (0, 0) := by
    refine dn (fun k => ∀ (I' : pI) (F' : pF), Cpk p r I F 8 5 k 0 I' F' → PW cX5_copyFrom mX5_copyFrom (fM (qR σ (fun v I' F' => v = none ∧ Cpy p r I F I' F'))) 66 [.ref p, .ref r, .int (nI k)] [] σ I' F' (0, 0)) 24 ?_ ?_
    · intro I' F' hc
      refine pw_iload_n dX5_copyFrom_66 rfl rfl ?_
      refine pw_aload_n dX5_copyFrom_67 rfl rfl ?_
      refine pw_getR (x := (p + 3)) dX5_copyFrom_68 fd_RX5_25 (by decide) (pl_k h) rfl (pl_rT h) ?_
      refine pw_alenR dX5_copyFrom_71 (pl_kT h) (by decide) ?_
      refine pw_icmp_ge (tgt := 96) dX5_copyFrom_72 (by decide) (fun c_72 => ?_) (fun c_72 => absurd (Int32.le_refl _) c_72)
      refine pw_iconst (v := 0) dX5_copyFrom_96 (by decide) ?_
      refine pw_istore_n dX5_copyFrom_97 rfl (by decide) rfl ?_
      exact L98 0 (Nat.zero_le _) _ _ hc
    · intro k hk ih
      intro I' F' hc
      refine pw_iload_n dX5_copyFrom_66 rfl rfl ?_
      refine pw_aload_n dX5_copyFrom_67 rfl rfl ?_
      refine pw_getR (x := (p + 3)) dX5_copyFrom_68 fd_RX5_25 (by decide) (pl_k h) rfl (pl_rT h) ?_
      refine pw_alenR dX5_copyFrom_71 (pl_kT h) (by decide) ?_
      refine pw_icmp_ge (tgt := 96) dX5_copyFrom_72 (by decide) (fun c_72 => absurd c_72 (nI_ge (b := 24) (by omega) (by decide))) (fun c_72 => ?_)
      refine pw_aload_n dX5_copyFrom_75 rfl rfl ?_
      refine pw_getR (x := (p + 3)) dX5_copyFrom_76 fd_RX5_25 (by decide) (pl_k h) rfl (pl_rT h) ?_
      refine pw_iload_n dX5_copyFrom_79 rfl rfl ?_
      refine pw_aaldN (j := k) (x := (p + 18 + k)) dX5_copyFrom_80 (pl_kT h) (by omega) (by decide) (by decide) (pl_eT h (by omega)) ?_
      refine pw_aload_n dX5_copyFrom_81 rfl rfl ?_
      refine pw_getR (x := (r + 3)) dX5_copyFrom_82 fd_RX5_25 (by decide) (pl_k h2) rfl (pl_rT h2) ?_
      refine pw_iload_n dX5_copyFrom_85 rfl rfl ?_
      refine pw_aaldN (j := k) (x := (r + 18 + k)) dX5_copyFrom_86 (pl_kT h2) (by omega) (by decide) (by decide) (pl_eT h2 (by omega)) ?_
      refine pe_callVv dX5_copyFrom_87 oX_X6_copyFrom lk_RX5_56 (sp_T_copy (pl_oT h (by omega)) (pl_oT h2 (by omega)) (by omega)) (pl_oT h (by omega)) rfl rfl (Nat.le_of_ble_eq_true rfl) (by decide) ?_
      refine pw_iinc (v := nI (k + 1)) dX5_copyFrom_90 rfl (nI_add _ _) rfl ?_
      refine pw_goto (tgt := 66) dX5_copyFrom_93 (by decide) ?_
      exact ih _ _ (Cpk_T hc (by omega) hd)
  have L34 : ∀ k, k ≤ 5 → ∀ (I' : pI) (F' : pF), Cpk p r I F 8 k 0 0 I' F' → PW cX5_copyFrom mX5_copyFrom (fM (qR σ (fun v I' F' => v = none ∧ Cpy p r I F I' F'))) 34 [.ref p, .ref r, .int (nI k)] [] σ I' F' (0, 0) := by
    refine dn (fun k => ∀ (I' : pI) (F' : pF), Cpk p r I F 8 k 0 0 I' F' → PW cX5_copyFrom mX5_copyFrom (fM (qR σ (fun v I' F' => v = none ∧ Cpy p r I F I' F'))) 34 [.ref p, .ref r, .int (nI k)] [] σ I' F' (0, 0)) 5 ?_ ?_
    · intro I' F' hc
      refine pw_iload_n dX5_copyFrom_34 rfl rfl ?_
      refine pw_aload_n dX5_copyFrom_35 rfl rfl ?_
      refine pw_getR (x := (p + 2)) dX5_copyFrom_36 fd_RX5_19 (by decide) (pl_k h) rfl (pl_rC h) ?_
      refine pw_alenR dX5_copyFrom_39 (pl_kC h) (by decide) ?_
      refine pw_icmp_ge (tgt := 64) dX5_copyFrom_40 (by decide) (fun c_40 => ?_) (fun c_40 => absurd (Int32.le_refl _) c_40)
      refine pw_iconst (v := 0) dX5_copyFrom_64 (by decide) ?_
      refine pw_istore_n dX5_copyFrom_65 rfl (by decide) rfl ?_
      exact L66 0 (Nat.zero_le _) _ _ hc
    · intro k hk ih
      intro I' F' hc
      refine pw_iload_n dX5_copyFrom_34 rfl rfl ?_
      refine pw_aload_n dX5_copyFrom_35 rfl rfl ?_
      refine pw_getR (x := (p + 2)) dX5_copyFrom_36 fd_RX5_19 (by decide) (pl_k h) rfl (pl_rC h) ?_
      refine pw_alenR dX5_copyFrom_39 (pl_kC h) (by decide) ?_
      refine pw_icmp_ge (tgt := 64) dX5_copyFrom_40 (by decide) (fun c_40 => absurd c_40 (nI_ge (b := 5) (by omega) (by decide))) (fun c_40 => ?_)
      refine pw_aload_n dX5_copyFrom_43 rfl rfl ?_
      refine pw_getR (x := (p + 2)) dX5_copyFrom_44 fd_RX5_19 (by decide) (pl_k h) rfl (pl_rC h) ?_
      refine pw_iload_n dX5_copyFrom_47 rfl rfl ?_
      refine pw_aaldN (j := k) (x := (p + 13 + k)) dX5_copyFrom_48 (pl_kC h) (by omega) (by decide) (by decide) (pl_eC h (by omega)) ?_
      refine pw_aload_n dX5_copyFrom_49 rfl rfl ?_
      refine pw_getR (x := (r + 2)) dX5_copyFrom_50 fd_RX5_19 (by decide) (pl_k h2) rfl (pl_rC h2) ?_
      refine pw_iload_n dX5_copyFrom_53 rfl rfl ?_
      refine pw_aaldN (j := k) (x := (r + 13 + k)) dX5_copyFrom_54 (pl_kC h2) (by omega) (by decide) (by decide) (pl_eC h2 (by omega)) ?_
      refine pe_callVv dX5_copyFrom_55 oX_X1_copyFrom lk_RX5_53 (sp_C_copy (pl_oC h (by omega)) (pl_oC h2 (by omega)) (by omega)) (pl_oC h (by omega)) rfl rfl (Nat.le_of_ble_eq_true rfl) (by decide) ?_
      refine pw_iinc (v := nI (k + 1)) dX5_copyFrom_58 rfl (nI_add _ _) rfl ?_
      refine pw_goto (tgt := 34) dX5_copyFrom_61 (by decide) ?_
      exact ih _ _ (Cpk_C hc (by omega) hd)
  have L2 : ∀ k, k ≤ 8 → ∀ (I' : pI) (F' : pF), Cpk p r I F k 0 0 0 I' F' → PW cX5_copyFrom mX5_copyFrom (fM (qR σ (fun v I' F' => v = none ∧ Cpy p r I F I' F'))) 2 [.ref p, .ref r, .int (nI k)] [] σ I' F' (0, 0) := by
    refine dn (fun k => ∀ (I' : pI) (F' : pF), Cpk p r I F k 0 0 0 I' F' → PW cX5_copyFrom mX5_copyFrom (fM (qR σ (fun v I' F' => v = none ∧ Cpy p r I F I' F'))) 2 [.ref p, .ref r, .int (nI k)] [] σ I' F' (0, 0)) 8 ?_ ?_
    · intro I' F' hc
      refine pw_iload_n dX5_copyFrom_2 rfl rfl ?_
      refine pw_aload_n dX5_copyFrom_3 rfl rfl ?_
      refine pw_getR (x := (p + 1)) dX5_copyFrom_4 fd_RX5_11 (by decide) (pl_k h) rfl (pl_rA h) ?_
      refine pw_alenR dX5_copyFrom_7 (pl_kA h) (by decide) ?_
      refine pw_icmp_ge (tgt := 32) dX5_copyFrom_8 (by decide) (fun c_8 => ?_) (fun c_8 => absurd (Int32.le_refl _) c_8)
      refine pw_iconst (v := 0) dX5_copyFrom_32 (by decide) ?_
      refine pw_istore_n dX5_copyFrom_33 rfl (by decide) rfl ?_
      exact L34 0 (Nat.zero_le _) _ _ hc
    · intro k hk ih
      intro I' F' hc
      refine pw_iload_n dX5_copyFrom_2 rfl rfl ?_
      refine pw_aload_n dX5_copyFrom_3 rfl rfl ?_
      refine pw_getR (x := (p + 1)) dX5_copyFrom_4 fd_RX5_11 (by decide) (pl_k h) rfl (pl_rA h) ?_
      refine pw_alenR dX5_copyFrom_7 (pl_kA h) (by decide) ?_
      refine pw_icmp_ge (tgt := 32) dX5_copyFrom_8 (by decide) (fun c_8 => absurd c_8 (nI_ge (b := 8) (by omega) (by decide))) (fun c_8 => ?_)
      refine pw_aload_n dX5_copyFrom_11 rfl rfl ?_
      refine pw_getR (x := (p + 1)) dX5_copyFrom_12 fd_RX5_11 (by decide) (pl_k h) rfl (pl_rA h) ?_
      refine pw_iload_n dX5_copyFrom_15 rfl rfl ?_
      refine pw_aaldN (j := k) (x := (p + 5 + k)) dX5_copyFrom_16 (pl_kA h) (by omega) (by decide) (by decide) (pl_eA h (by omega)) ?_
      refine pw_aload_n dX5_copyFrom_17 rfl rfl ?_
      refine pw_getR (x := (r + 1)) dX5_copyFrom_18 fd_RX5_11 (by decide) (pl_k h2) rfl (pl_rA h2) ?_
      refine pw_iload_n dX5_copyFrom_21 rfl rfl ?_
      refine pw_aaldN (j := k) (x := (r + 5 + k)) dX5_copyFrom_22 (pl_kA h2) (by omega) (by decide) (by decide) (pl_eA h2 (by omega)) ?_
      refine pe_callVv dX5_copyFrom_23 oX_X0_copyFrom lk_RX5_49 (sp_A_copy (pl_oA h (by omega)) (pl_oA h2 (by omega)) (by rw [show I' (r + 5 + k) 4 = I (r + 5 + k) 4 from congrFun (hc.1 _ (by omega)).1 4]; exact hz k hk) (by omega)) (pl_oA h (by omega)) rfl rfl (Nat.le_of_ble_eq_true rfl) (by decide) ?_
      refine pw_iinc (v := nI (k + 1)) dX5_copyFrom_26 rfl (nI_add _ _) rfl ?_
      refine pw_goto (tgt := 2) dX5_copyFrom_29 (by decide) ?_
      exact ih _ _ (Cpk_A hc (by omega) hd)
  refine pw_iconst (v := 0) dX5_copyFrom_0 (by decide) ?_
  refine pw_istore_n dX5_copyFrom_1 rfl (by decide) rfl ?_
  exact L2 0 (Nat.zero_le _) _ _ Cpk_0
end
section
/-! the history -/
theorem rem4 (a : Nat) (h : a < 2 ^ 31) : nI a - nI a / 4 * 4 = nI (a % 4) := pk_rem (d := 4) h (by decide) (by decide)
theorem Cpy_fr {p r : Nat} {I I' : pI} {F F' : pF} (h : Cpy p r I F I' F') {i : Nat} (hi : i < p ∨ p + 42 ≤ i) : I' i = I i ∧ F' i = F i := h.1.1 i hi

set_option maxRecDepth 4000 in
theorem sp_add {σ : pT} {I : pI} {F : pF} {q s o z : Nat} (h : isHi σ q) (hs : isPl σ s) (hd : s + 42 ≤ q) (ho : I q 1 = nI o) (ho4 : o < 4) (hz : I q 2 = nI z) (hz4 : z ≤ 4) (hb : ∀ a, a < 8 → I (s + 5 + a) 4 = 0 ∨ I (s + 5 + a) 4 = 1) : PR yX2_add cX2_add mX2_add [.ref q, .ref s] σ I F fun v I' F' => v = none ∧ ∃ I1, Cpy (q + 2 + 42 * ((o + z) % 4)) s I F I1 F' ∧ I' = (if z < 4 then up2 I1 q 2 (nI (z + 1)) else up2 I1 q 1 (nI ((o + 1) % 4))) := by
  refine PR.of oP_X2_add (catOK rfl) (Nat.le_of_ble_eq_true rfl) ?_
  show PW _ _ _ 0 [.ref q, .ref s] [] _ _ _ _
  refine pw_aload_n dX2_add_0 rfl rfl ?_
  refine pw_getR (x := (q + 1)) dX2_add_1 fd_RX2_11 (by decide) (hi_k h) rfl (hi_rs h) ?_
  refine pw_aload_n dX2_add_4 rfl rfl ?_
  refine pw_getI dX2_add_5 fd_RX2_17 (by decide) (hi_k h) rfl ?_
  rw [ho]
  refine pw_aload_n dX2_add_8 rfl rfl ?_
  refine pw_getI dX2_add_9 fd_RX2_21 (by decide) (hi_k h) rfl ?_
  rw [hz]
  refine pw_iadd dX2_add_12 ?_
  rw [nI_add]
  refine pw_iconst (v := 4) dX2_add_13 (by decide) ?_
  refine pw_irem dX2_add_14 (by decide) ?_
  rw [rem4 _ (by omega)]
  refine pw_aaldN (j := ((o + z) % 4)) (x := (q + 2 + 42 * ((o + z) % 4))) dX2_add_15 (hi_ks h) (by omega) (by decide) (by decide) (hi_ep h (by omega)) ?_
  refine pw_aload_n dX2_add_16 rfl rfl ?_
  refine pr_callV dX2_add_17 oX_X5_copyFrom lk_RX2_25 (sp_copyFrom (hi_op h (by omega)) hs (by omega) hb) (pl_k (hi_op h (by omega))) rfl rfl (Nat.le_of_ble_eq_true rfl) (by decide) (fun v I1 F1 hq => ?_)
  obtain ⟨rfl, hc⟩ := hq
  refine pw_aload_n dX2_add_20 rfl rfl ?_
  refine pw_getI dX2_add_21 fd_RX2_21 (by decide) (hi_k h) rfl ?_
  rw [(congrFun (Cpy_fr hc (i := q) (by omega)).1 2).trans hz]
  refine pw_iconst (v := 4) dX2_add_24 (by decide) ?_
  refine pw_icmp_ge (tgt := 41) dX2_add_25 (by decide) (fun c_25 => ?_) (fun c_25 => ?_)
  · have hzz : ¬ z < 4 := fun w => nI_ge (b := 4) w (by decide) c_25
    refine pw_aload_n dX2_add_41 rfl rfl ?_
    refine pw_aload_n dX2_add_42 rfl rfl ?_
    refine pw_getI dX2_add_43 fd_RX2_17 (by decide) (hi_k h) rfl ?_
    rw [(congrFun (Cpy_fr hc (i := q) (by omega)).1 1).trans ho]
    refine pw_iconst (v := 1) dX2_add_46 (by decide) ?_
    refine pw_iadd dX2_add_47 ?_
    rw [nI_1]
    refine pw_iconst (v := 4) dX2_add_48 (by decide) ?_
    refine pw_irem dX2_add_49 (by decide) ?_
    rw [rem4 _ (by omega)]
    refine pw_putI dX2_add_50 fd_RX2_17 (by decide) rfl ⟨rfl, rfl, rfl⟩ (hi_k h) ?_
    exact pw_vret dX2_add_53 rfl ⟨rfl, rfl, _, hc, by rw [if_neg hzz]⟩
  · have hzz : z < 4 := Nat.not_le.mp fun w => c_25 (nI_le (a := 4) w (by omega))
    refine pw_aload_n dX2_add_28 rfl rfl ?_
    refine pw_dup dX2_add_29 rfl ?_
    refine pw_getI dX2_add_30 fd_RX2_21 (by decide) (hi_k h) rfl ?_
    rw [(congrFun (Cpy_fr hc (i := q) (by omega)).1 2).trans hz]
    refine pw_iconst (v := 1) dX2_add_33 (by decide) ?_
    refine pw_iadd dX2_add_34 ?_
    rw [nI_1]
    refine pw_putI dX2_add_35 fd_RX2_21 (by decide) rfl ⟨rfl, rfl, rfl⟩ (hi_k h) ?_
    refine pw_goto (tgt := 53) dX2_add_38 (by decide) ?_
    exact pw_vret dX2_add_53 rfl ⟨rfl, rfl, _, hc, by rw [if_pos hzz]⟩

theorem pk_m1s {z : Nat} (h : 0 < z) : nI z - 1 = nI (z - 1) := by
  obtain ⟨k, rfl⟩ : ∃ k, z = k + 1 := ⟨z - 1, by omega⟩
  exact nI_pred k
set_option maxRecDepth 4000 in
theorem sp_takeBack {σ : pT} {I : pI} {F : pF} {q s o z : Nat} (h : isHi σ q) (hs : isPl σ s) (hd : s + 42 ≤ q) (ho : I q 1 = nI o) (ho4 : o < 4) (hz : I q 2 = nI z) (hz4 : z ≤ 4) (hb : ∀ i, i < 4 → ∀ a, a < 8 → I (q + 2 + 42 * i + 5 + a) 4 = 0 ∨ I (q + 2 + 42 * i + 5 + a) 4 = 1) : PR yX2_takeBack cX2_takeBack mX2_takeBack [.ref q, .ref s] σ I F fun v I' F' => (z = 0 ∧ v = some (.int (-5)) ∧ I' = I ∧ F' = F) ∨ (0 < z ∧ v = some (.int (nI (z - 1))) ∧ Cpy s (q + 2 + 42 * ((o + (z - 1)) % 4)) (up2 I q 2 (nI (z - 1))) F I' F') := by
  refine PR.of oP_X2_takeBack (catOK rfl) (Nat.le_of_ble_eq_true rfl) ?_
  show PW _ _ _ 0 [.ref q, .ref s] [] _ _ _ _
  refine pw_aload_n dX2_takeBack_0 rfl rfl ?_
  refine pw_getI dX2_takeBack_1 fd_RX2_21 (by decide) (hi_k h) rfl ?_
  rw [hz]
  refine pw_if_gt (tgt := 10) dX2_takeBack_4 (by decide) (fun c_4 => ?_) (fun c_4 => ?_)
  · have hz0 : 0 < z := Nat.pos_of_ne_zero (fun w => by subst w; exact absurd c_4 (by decide))
    refine pw_aload_n dX2_takeBack_10 rfl rfl ?_
    refine pw_dup dX2_takeBack_11 rfl ?_
    refine pw_getI dX2_takeBack_12 fd_RX2_21 (by decide) (hi_k h) rfl ?_
    rw [hz]
    refine pw_iconst (v := 1) dX2_takeBack_15 (by decide) ?_
    refine pw_isub dX2_takeBack_16 ?_
    rw [pk_m1s hz0]
    refine pw_putI dX2_takeBack_17 fd_RX2_21 (by decide) rfl ⟨rfl, rfl, rfl⟩ (hi_k h) ?_
    refine pw_aload_n dX2_takeBack_20 rfl rfl ?_
    refine pw_aload_n dX2_takeBack_21 rfl rfl ?_
    refine pw_getR (x := (q + 1)) dX2_takeBack_22 fd_RX2_11 (by decide) (hi_k h) rfl (hi_rs h) ?_
    refine pw_aload_n dX2_takeBack_25 rfl rfl ?_
    refine pw_getI dX2_takeBack_26 fd_RX2_17 (by decide) (hi_k h) rfl ?_
    rw [up2_nj (by decide), ho]
    refine pw_aload_n dX2_takeBack_29 rfl rfl ?_
    refine pw_getI dX2_takeBack_30 fd_RX2_21 (by decide) (hi_k h) rfl ?_
    rw [up2_s]
    refine pw_iadd dX2_takeBack_33 ?_
    rw [nI_add]
    refine pw_iconst (v := 4) dX2_takeBack_34 (by decide) ?_
    refine pw_irem dX2_takeBack_35 (by decide) ?_
    rw [rem4 _ (by omega)]
    refine pw_aaldN (j := ((o + (z - 1)) % 4)) (x := (q + 2 + 42 * ((o + (z - 1)) % 4))) dX2_takeBack_36 (hi_ks h) (by omega) (by decide) (by decide) (hi_ep h (by omega)) ?_
    refine pr_callV dX2_takeBack_37 oX_X5_copyFrom lk_RX2_25 (sp_copyFrom hs (hi_op h (by omega)) (by omega) (fun a ha => by rw [up2_ni (by omega)]; exact hb _ (by omega) a ha)) (pl_k hs) rfl rfl (Nat.le_of_ble_eq_true rfl) (by decide) (fun v I1 F1 hq => ?_)
    obtain ⟨rfl, hc⟩ := hq
    refine pw_aload_n dX2_takeBack_40 rfl rfl ?_
    refine pw_getI dX2_takeBack_41 fd_RX2_21 (by decide) (hi_k h) rfl ?_
    rw [(congrFun (Cpy_fr hc (i := q) (by omega)).1 2).trans up2_s]
    exact pw_iret dX2_takeBack_44 rfl ⟨rfl, Or.inr ⟨hz0, rfl, hc⟩⟩
  · have hz0 : z = 0 := Nat.eq_zero_of_not_pos (fun w => c_4 (nI_lt (a := 0) w (by omega)))
    refine pw_bipush (v := (-5)) dX2_takeBack_7 (by decide) ?_
    exact pw_iret dX2_takeBack_9 rfl ⟨rfl, Or.inl ⟨hz0, rfl, rfl, rfl⟩⟩

/-! the text -/
def appR (I : pI) (F : pF) (q l : Nat) (c : Int32) : Int32 × pI × pF := if l < 60 then (nI (l + 1), up2 (up2 I (q + 1) l (vp_nar .char c)) q 1 (nI (l + 1)), F) else (-3, I, F)
/-- a digit at place a -/
def digB (x : Nat → Int32) (l a : Nat) : Bool := decide (a < l) && (decide (48 ≤ x a) && decide (x a ≤ 57))
def sgnB (x : Nat → Int32) (l a : Nat) (g : Int32) : Bool := decide (a < l) && decide (x a = g)
end
section
/-! what an act leaves alone -/
def lcl {α : Type} (p : Nat) (I I' : Nat → α) : Prop := ∀ i, (i < p ∨ p + 42 ≤ i) → I' i = I i
theorem lcl_0 {α : Type} {p : Nat} {I : Nat → α} : lcl p I I := fun _ _ => rfl
theorem lcl_u {α : Type} {p q k : Nat} {x : α} {I I' : Nat → Nat → α} (h : lcl p I I') (h1 : p ≤ q) (h2 : q < p + 42) : lcl p I (up2 I' q k x) := fun i hi => (up2_row (by omega)).trans (h i hi)
theorem lc_newAsset {I : pI} {F : pF} {p nA : Nat} {r w : Int32} : lcl p I (newAssetR I F p nA r w).2.1 ∧ lcl p F (newAssetR I F p nA r w).2.2 := by
  unfold newAssetR
  split
  · split
    · exact ⟨lcl_u (lcl_u (lcl_u (lcl_u lcl_0 (by omega) (by omega)) (by omega) (by omega)) (by omega) (by omega)) (by omega) (by omega), lcl_u (lcl_u (lcl_u lcl_0 (by omega) (by omega)) (by omega) (by omega)) (by omega) (by omega)⟩
    · exact ⟨lcl_0, lcl_0⟩
  · exact ⟨lcl_0, lcl_0⟩
theorem lc_newCrew {I : pI} {F : pF} {p nC : Nat} {r w : Int32} : lcl p I (newCrewR I F p nC r w).2.1 ∧ lcl p F (newCrewR I F p nC r w).2.2 := by
  unfold newCrewR
  split
  · split
    · exact ⟨lcl_u (lcl_u (lcl_u lcl_0 (by omega) (by omega)) (by omega) (by omega)) (by omega) (by omega), lcl_0⟩
    · exact ⟨lcl_0, lcl_0⟩
  · exact ⟨lcl_0, lcl_0⟩
theorem tn_lt {a x : Int32} {n : Nat} (h : 0 ≤ a ∧ a < x) (hx : x = nI n) (hn : n < 2 ^ 31) : a.toNatClampNeg < n := by
  obtain ⟨t, ht, rfl⟩ := has_nat (decide_eq_true h) hx hn
  rw [nI_clamp (by omega)]
  exact ht
theorem lc_setLink {I : pI} {F : pF} {p nA : Nat} {a o z : Int32} (hA : I p 4 = nI nA) (hA8 : nA ≤ 8) : lcl p I (setLinkR I F p a o z).2.1 ∧ lcl p F (setLinkR I F p a o z).2.2 := by
  unfold setLinkR
  split
  · rename_i h
    have h1 := tn_lt h.1 hA (by omega)
    have h2 := tn_lt h.2 hA (by omega)
    split
    · exact ⟨lcl_0, lcl_0⟩
    · split
      · exact ⟨lcl_0, lcl_0⟩
      · exact ⟨lcl_u (lcl_u lcl_0 (by omega) (by omega)) (by omega) (by omega), lcl_0⟩
  · exact ⟨lcl_0, lcl_0⟩
theorem lc_setBar {I : pI} {F : pF} {p : Nat} {a o z : Int32} : lcl p I (setBarR I F p a o z).2.1 ∧ lcl p F (setBarR I F p a o z).2.2 := by
  unfold setBarR
  split
  · split
    · exact ⟨lcl_0, lcl_0⟩
    · refine ⟨?_, lcl_0⟩
      show lcl p I (barI2 _ _ _ _)
      unfold barI2
      split
      · exact lcl_u lcl_0 (by omega) (by omega)
      · exact lcl_u (lcl_u lcl_0 (by omega) (by omega)) (by omega) (by omega)
  · exact ⟨lcl_0, lcl_0⟩
theorem lc_newTask {I : pI} {F : pF} {p n : Nat} {a s c d e f : Int32} : lcl p I (newTaskR I F p n a s c d e f).2.1 ∧ lcl p F (newTaskR I F p n a s c d e f).2.2 := by
  unfold newTaskR
  split
  · split
    · split
      · refine ⟨lcl_u (fun i hi => funext fun j => taskI_fr (by omega)) (by omega) (by omega), lcl_0⟩
      · exact ⟨lcl_0, lcl_0⟩
    · exact ⟨lcl_0, lcl_0⟩
  · exact ⟨lcl_0, lcl_0⟩
theorem lc_start {I : pI} {F : pF} {p nA n : Nat} {a : Int32} (hA : I p 4 = nI nA) (hA8 : nA ≤ 8) : lcl p I (startR I F p nA n a).2.1 ∧ lcl p F (startR I F p nA n a).2.2 := by
  unfold startR
  split
  · rename_i h
    have h1 := tn_lt h hA (by omega)
    split
    · split
      · exact ⟨lcl_u lcl_0 (by omega) (by omega), lcl_0⟩
      · exact ⟨lcl_0, lcl_0⟩
    · exact ⟨lcl_0, lcl_0⟩
  · exact ⟨lcl_0, lcl_0⟩
theorem lc_stop {I : pI} {F : pF} {p nA : Nat} {a : Int32} (hA : I p 4 = nI nA) (hA8 : nA ≤ 8) : lcl p I (stopR I F p nA a).2.1 ∧ lcl p F (stopR I F p nA a).2.2 := by
  unfold stopR
  split
  · rename_i h
    have h1 := tn_lt h hA (by omega)
    split
    · exact ⟨lcl_0, lcl_0⟩
    · exact ⟨lcl_u lcl_0 (by omega) (by omega), lcl_0⟩
  · exact ⟨lcl_0, lcl_0⟩
theorem lc_hang {I : pI} {F : pF} {p n : Nat} {a c : Int32} (hn : I p 6 = nI n) (hn4 : n ≤ 24) : lcl p I (hangR I F p n a c).2.1 ∧ lcl p F (hangR I F p n a c).2.2 := by
  unfold hangR
  split
  · rename_i h
    have h1 := tn_lt h.1 hn (by omega)
    split
    · exact ⟨lcl_u (lcl_u (lcl_u lcl_0 (by omega) (by omega)) (by omega) (by omega)) (by omega) (by omega), lcl_0⟩
    · exact ⟨lcl_0, lcl_0⟩
  · exact ⟨lcl_0, lcl_0⟩
theorem lc_begin {I : pI} {F : pF} {p n : Nat} {a : Int32} (hn : I p 6 = nI n) (hn4 : n ≤ 24) : lcl p I (beginR I F p n a).2.1 ∧ lcl p F (beginR I F p n a).2.2 := by
  unfold beginR
  split
  · rename_i h
    have h1 := tn_lt h hn (by omega)
    split
    · exact ⟨lcl_u (lcl_u lcl_0 (by omega) (by omega)) (by omega) (by omega), lcl_0⟩
    · exact ⟨lcl_0, lcl_0⟩
  · exact ⟨lcl_0, lcl_0⟩
theorem lc_lift {I : pI} {F : pF} {p n : Nat} {a c : Int32} (hn : I p 6 = nI n) (hn4 : n ≤ 24) : lcl p I (liftR I F p n a c).2.1 ∧ lcl p F (liftR I F p n a c).2.2 := by
  unfold liftR
  split
  · rename_i h
    have h1 := tn_lt h.1 hn (by omega)
    split
    · refine ⟨?_, lcl_0⟩
      show lcl p I (liftI _ _ _)
      unfold liftI
      split
      · exact lcl_u lcl_0 (by omega) (by omega)
      · exact lcl_u (lcl_u lcl_0 (by omega) (by omega)) (by omega) (by omega)
    · exact ⟨lcl_0, lcl_0⟩
  · exact ⟨lcl_0, lcl_0⟩
theorem lc_cancel {I : pI} {F : pF} {p n : Nat} {a : Int32} (hn : I p 6 = nI n) (hn4 : n ≤ 24) : lcl p I (cancelR I F p a).2.1 ∧ lcl p F (cancelR I F p a).2.2 := by
  unfold cancelR
  split
  · rename_i h
    have h1 := tn_lt h hn (by omega)
    split
    · exact ⟨lcl_u lcl_0 (by omega) (by omega), lcl_0⟩
    · exact ⟨lcl_0, lcl_0⟩
  · exact ⟨lcl_0, lcl_0⟩
theorem runOne_fr {I : pI} {q i j : Nat} {F : pF} (h : i ≠ q ∨ (j ≠ 2 ∧ j ≠ 3)) : runOne I q F i j = F i j := by
  unfold runOne
  rw [up2_n (by omega), up2_n (by omega)]
theorem runAF_fr {I : pI} {p : Nat} {F : pF} {i j : Nat} : ∀ k, (i < p + 5 ∨ p + 5 + k ≤ i ∨ (j ≠ 2 ∧ j ≠ 3)) → runAF I p k F i j = F i j
  | 0, _ => rfl
  | k + 1, h => by
    unfold runAF
    split
    · exact runAF_fr k (by omega)
    · rw [runOne_fr (by omega)]
      exact runAF_fr k (by omega)
theorem wk1_F {p k nA : Nat} {W : pI × pF × Nat} (hW : ∃ a, a < nA ∧ W.1 (p + 18 + k) 0 = nI a) (hA8 : nA ≤ 8) {i : Nat} (hi : i < p ∨ p + 42 ≤ i) : (wk1 p k W).2.1 i = W.2.1 i := by
  obtain ⟨a, h1, h2⟩ := hW
  unfold wk1
  split
  · split
    · rfl
    · show mendF W.2.1 _ i = _
      rw [h2, nI_clamp (by omega)]
      exact up2_row (by omega)
  · rfl
theorem wkN_F {p nA n : Nat} {I : pI} {F : pF} (hW : ∀ t, t < n → ∃ a, a < nA ∧ I (p + 18 + t) 0 = nI a) (hA8 : nA ≤ 8) {i : Nat} (hi : i < p ∨ p + 42 ≤ i) : ∀ k, k ≤ n → (wkN p k I F).2.1 i = F i
  | 0, _ => rfl
  | k + 1, hk => by
    show (wk1 p k (wkN p k I F)).2.1 i = F i
    obtain ⟨a, h1, h2⟩ := hW k (by omega)
    rw [wk1_F (nA := nA) ⟨a, h1, (wkN_fr k (by omega)).trans h2⟩ hA8 hi]
    exact wkN_F hW hA8 hi k (by omega)
theorem psN_F {p nA n : Nat} {I : pI} {F : pF} (hW : ∀ t, t < n → ∃ a, a < nA ∧ I (p + 18 + t) 0 = nI a) (hA8 : nA ≤ 8) {i : Nat} (hi : i < p ∨ p + 42 ≤ i) : ∀ k, (psN p nA n k I F).2.1 i = F i
  | 0 => rfl
  | k + 1 => by
    show (wkN p n (psN p nA n k I F).1 (runAF (psN p nA n k I F).1 p nA (psN p nA n k I F).2.1)).2.1 i = F i
    rw [wkN_F (nA := nA) (fun t ht => by obtain ⟨a, h1, h2⟩ := hW t ht; exact ⟨a, h1, (psN_fr (by omega) k).trans h2⟩) hA8 hi n (Nat.le_refl _)]
    rw [show runAF (psN p nA n k I F).1 p nA (psN p nA n k I F).2.1 i = (psN p nA n k I F).2.1 i from funext fun j => runAF_fr nA (by omega)]
    exact psN_F hW hA8 hi k
theorem lc_pass {I : pI} {F : pF} {p nA n : Nat} {x : Int32} (hn4 : n ≤ 24) (hW : ∀ t, t < n → ∃ a, a < nA ∧ I (p + 18 + t) 0 = nI a) (hA8 : nA ≤ 8) : lcl p I (passR I F p nA n x).2.1 ∧ lcl p F (passR I F p nA n x).2.2 := by
  unfold passR
  split
  · split
    · exact ⟨fun i hi => funext fun j => psN_fr (by omega) _, fun i hi => psN_F hW hA8 hi _⟩
    · exact ⟨lcl_0, lcl_0⟩
  · exact ⟨lcl_0, lcl_0⟩
/-! the object's own counts, and that they stay when other cells change -/
def cOK (x : Nat) (I : pI) (nA nC n o z : Nat) : Prop :=
  I (x + 1) 4 = nI nA ∧ nA ≤ 8 ∧ I (x + 1) 5 = nI nC ∧ nC ≤ 5 ∧ I (x + 1) 6 = nI n ∧ n ≤ 24 ∧ (∀ t, t < n → ∃ a, a < nA ∧ I (x + 1 + 18 + t) 0 = nI a) ∧ (∀ t, t < n → ∃ k, k < 5 ∧ I (x + 1 + 18 + t) 3 = nI k) ∧ (∀ a, a < 8 → I (x + 1 + 5 + a) 4 = 0 ∨ I (x + 1 + 5 + a) 4 = 1) ∧ I (x + 127) 1 = nI o ∧ o < 4 ∧ I (x + 127) 2 = nI z ∧ z ≤ 4
theorem cOK_fr {x : Nat} {I I1 : pI} {nA nC n o z : Nat} (h : cOK x I nA nC n o z) (hf : ∀ i, (i < x + 43 ∨ x + 85 ≤ i) → I1 i = I i) : cOK x I1 nA nC n o z := by
  obtain ⟨h1, h2, h3, h4, h5, h6, h7, h8, h9, h10, h11, h12, h13⟩ := h
  refine ⟨?_, h2, ?_, h4, ?_, h6, fun t ht => ?_, fun t ht => ?_, fun a ha => ?_, ?_, h11, ?_, h13⟩
  · rw [hf _ (by omega)]; exact h1
  · rw [hf _ (by omega)]; exact h3
  · rw [hf _ (by omega)]; exact h5
  · rw [hf _ (by omega)]; exact h7 t ht
  · rw [hf _ (by omega)]; exact h8 t ht
  · rw [hf _ (by omega)]; exact h9 a ha
  · rw [hf _ (by omega)]; exact h10
  · rw [hf _ (by omega)]; exact h12
def recQ (x o z : Nat) (r : Int32) (I : pI) (F : pF) (v : Option Value) (I' : pI) (F' : pF) : Prop :=
  v = some (.int r) ∧ ((r < 0 ∧ I' = I ∧ F' = F) ∨ (¬ r < 0 ∧ ∃ I1, Cpy (x + 127 + 2 + 42 * ((o + z) % 4)) (x + 43) I F I1 F' ∧ I' = (if z < 4 then up2 I1 (x + 127) 2 (nI (z + 1)) else up2 I1 (x + 127) 1 (nI ((o + 1) % 4)))))
def actQ (x o z : Nat) (I : pI) (F : pF) (R : pI → pF → Int32 × pI × pF) (v : Option Value) (I' : pI) (F' : pF) : Prop :=
  ∃ I1 F1, Cpy (x + 43) (x + 1) I F I1 F1 ∧ recQ x o z (R I1 F1).1 (R I1 F1).2.1 (R I1 F1).2.2 v I' F'
theorem bef_b {x : Nat} {I I1 I2 : pI} {F F1 : pF} (hc : Cpy (x + 43) (x + 1) I F I1 F1) (hb : ∀ a, a < 8 → I (x + 1 + 5 + a) 4 = 0 ∨ I (x + 1 + 5 + a) 4 = 1) (hl : lcl (x + 1) I1 I2) : ∀ a, a < 8 → I2 (x + 43 + 5 + a) 4 = 0 ∨ I2 (x + 43 + 5 + a) 4 = 1 := by
  intro a ha
  rw [hl _ (by omega), (hc.1.2.1 a ha).2.1]
  exact hb a ha

set_option maxRecDepth 4000 in
theorem sp_recorded {σ : pT} {I : pI} {F : pF} {x o z : Nat} {r : Int32} (h : isTW σ x) (ho : I (x + 127) 1 = nI o) (ho4 : o < 4) (hz : I (x + 127) 2 = nI z) (hz4 : z ≤ 4) (hb : ∀ a, a < 8 → I (x + 43 + 5 + a) 4 = 0 ∨ I (x + 43 + 5 + a) 4 = 1) : PR yX7_recorded cX7_recorded mX7_recorded [.ref x, .int r] σ I F (recQ x o z r I F) := by
  refine PR.of oP_X7_recorded (catOK rfl) (Nat.le_of_ble_eq_true rfl) ?_
  show PW _ _ _ 0 [.ref x, .int r] [] _ _ _ _
  refine pw_iload_n dX7_recorded_0 rfl rfl ?_
  refine pw_if_lt (tgt := 15) dX7_recorded_1 (by decide) (fun c_1 => ?_) (fun c_1 => ?_)
  · refine pw_iload_n dX7_recorded_15 rfl rfl ?_
    exact pw_iret dX7_recorded_16 rfl ⟨rfl, rfl, Or.inl ⟨c_1, rfl, rfl⟩⟩
  · refine pw_aload_n dX7_recorded_4 rfl rfl ?_
    refine pw_getR (x := (x + 127)) dX7_recorded_5 fd_RX7_29 (by decide) (tw_k h) rfl (tw_r4 h) ?_
    refine pw_aload_n dX7_recorded_8 rfl rfl ?_
    refine pw_getR (x := (x + 43)) dX7_recorded_9 fd_RX7_16 (by decide) (tw_k h) rfl (tw_r1 h) ?_
    refine pr_callV dX7_recorded_12 oX_X2_add lk_RX7_265 (sp_add (tw_hi h) (tw_bef h) (by omega) ho ho4 hz hz4 hb) (hi_k (tw_hi h)) rfl rfl (Nat.le_of_ble_eq_true rfl) (by decide) (fun v I1 F1 hq => ?_)
    obtain ⟨rfl, I2, hc, rfl⟩ := hq
    refine pw_iload_n dX7_recorded_15 rfl rfl ?_
    exact pw_iret dX7_recorded_16 rfl ⟨rfl, rfl, Or.inr ⟨c_1, _, hc, rfl⟩⟩

set_option maxRecDepth 4000 in
theorem sp_x_addAsset {σ : pT} {I : pI} {F : pF} {x nA nC n o z : Nat} {a b : Int32} (h : isTW σ x) (hk : cOK x I nA nC n o z) : PR yX7_addAsset cX7_addAsset mX7_addAsset [.ref x, .int a, .int b] σ I F (actQ x o z I F (fun I F => newAssetR I F (x + 1) nA a b)) := by
  have hb0 := hk.2.2.2.2.2.2.2.2.1
  refine PR.of oP_X7_addAsset (catOK rfl) (Nat.le_of_ble_eq_true rfl) ?_
  show PW _ _ _ 0 [.ref x, .int a, .int b] [] _ _ _ _
  refine pw_aload_n dX7_addAsset_0 rfl rfl ?_
  refine pw_getR (x := (x + 43)) dX7_addAsset_1 fd_RX7_16 (by decide) (tw_k h) rfl (tw_r1 h) ?_
  refine pw_aload_n dX7_addAsset_4 rfl rfl ?_
  refine pw_getR (x := (x + 1)) dX7_addAsset_5 fd_RX7_10 (by decide) (tw_k h) rfl (tw_r0 h) ?_
  refine pr_callV dX7_addAsset_8 oX_X5_copyFrom lk_RX7_40 (sp_copyFrom (tw_bef h) (tw_now h) (by omega) hb0) (pl_k (tw_bef h)) rfl rfl (Nat.le_of_ble_eq_true rfl) (by decide) (fun v I1 F1 hq => ?_)
  obtain ⟨rfl, hc⟩ := hq
  have hk1 := cOK_fr hk (fun i hi => (Cpy_fr hc (by omega)).1)
  obtain ⟨hA, hA8, hC, hC5, hn, hn4, hW, hKd, hb, ho, ho4, hz, hz4⟩ := hk1
  have hl := lc_newAsset (I := I1) (F := F1) (p := x + 1) (nA := nA) (r := a) (w := b)
  refine pw_aload_n dX7_addAsset_11 rfl rfl ?_
  refine pw_aload_n dX7_addAsset_12 rfl rfl ?_
  refine pw_getR (x := (x + 1)) dX7_addAsset_13 fd_RX7_10 (by decide) (tw_k h) rfl (tw_r0 h) ?_
  refine pw_iload_n dX7_addAsset_16 rfl rfl ?_
  refine pw_iload_n dX7_addAsset_17 rfl rfl ?_
  refine pe_callVi dX7_addAsset_18 oX_X5_newAsset lk_RX7_44 (sp_newAsset (tw_now h) hA hA8) (pl_k (tw_now h)) rfl rfl (Nat.le_of_ble_eq_true rfl) (by decide) ?_
  refine pr_callV dX7_addAsset_21 oX_X7_recorded lk_RX7_48 (sp_recorded h ((congrFun (hl.1 _ (by omega)) 1).trans ho) ho4 ((congrFun (hl.1 _ (by omega)) 2).trans hz) hz4 (bef_b hc hb0 hl.1)) (tw_k h) rfl rfl (Nat.le_of_ble_eq_true rfl) (by decide) (fun v I2 F2 hq => ?_)
  have hv := hq.1
  subst hv
  exact pw_iret dX7_addAsset_24 rfl ⟨rfl, I1, F1, hc, hq⟩

set_option maxRecDepth 4000 in
theorem sp_x_link {σ : pT} {I : pI} {F : pF} {x nA nC n o z : Nat} {a b c : Int32} (h : isTW σ x) (hk : cOK x I nA nC n o z) : PR yX7_link cX7_link mX7_link [.ref x, .int a, .int b, .int c] σ I F (actQ x o z I F (fun I F => setLinkR I F (x + 1) a b c)) := by
  have hb0 := hk.2.2.2.2.2.2.2.2.1
  refine PR.of oP_X7_link (catOK rfl) (Nat.le_of_ble_eq_true rfl) ?_
  show PW _ _ _ 0 [.ref x, .int a, .int b, .int c] [] _ _ _ _
  refine pw_aload_n dX7_link_0 rfl rfl ?_
  refine pw_getR (x := (x + 43)) dX7_link_1 fd_RX7_16 (by decide) (tw_k h) rfl (tw_r1 h) ?_
  refine pw_aload_n dX7_link_4 rfl rfl ?_
  refine pw_getR (x := (x + 1)) dX7_link_5 fd_RX7_10 (by decide) (tw_k h) rfl (tw_r0 h) ?_
  refine pr_callV dX7_link_8 oX_X5_copyFrom lk_RX7_40 (sp_copyFrom (tw_bef h) (tw_now h) (by omega) hb0) (pl_k (tw_bef h)) rfl rfl (Nat.le_of_ble_eq_true rfl) (by decide) (fun v I1 F1 hq => ?_)
  obtain ⟨rfl, hc⟩ := hq
  have hk1 := cOK_fr hk (fun i hi => (Cpy_fr hc (by omega)).1)
  obtain ⟨hA, hA8, hC, hC5, hn, hn4, hW, hKd, hb, ho, ho4, hz, hz4⟩ := hk1
  have hl := lc_setLink (F := F1) (a := a) (o := b) (z := c) hA hA8
  refine pw_aload_n dX7_link_11 rfl rfl ?_
  refine pw_aload_n dX7_link_12 rfl rfl ?_
  refine pw_getR (x := (x + 1)) dX7_link_13 fd_RX7_10 (by decide) (tw_k h) rfl (tw_r0 h) ?_
  refine pw_iload_n dX7_link_16 rfl rfl ?_
  refine pw_iload_n dX7_link_17 rfl rfl ?_
  refine pw_iload_n dX7_link_18 rfl rfl ?_
  refine pe_callVi dX7_link_19 oX_X5_setLink lk_RX7_52 (sp_setLink (tw_now h) hA hA8) (pl_k (tw_now h)) rfl rfl (Nat.le_of_ble_eq_true rfl) (by decide) ?_
  refine pr_callV dX7_link_22 oX_X7_recorded lk_RX7_48 (sp_recorded h ((congrFun (hl.1 _ (by omega)) 1).trans ho) ho4 ((congrFun (hl.1 _ (by omega)) 2).trans hz) hz4 (bef_b hc hb0 hl.1)) (tw_k h) rfl rfl (Nat.le_of_ble_eq_true rfl) (by decide) (fun v I2 F2 hq => ?_)
  have hv := hq.1
  subst hv
  exact pw_iret dX7_link_25 rfl ⟨rfl, I1, F1, hc, hq⟩

set_option maxRecDepth 4000 in
theorem sp_x_bar {σ : pT} {I : pI} {F : pF} {x nA nC n o z : Nat} {a b c : Int32} (h : isTW σ x) (hk : cOK x I nA nC n o z) : PR yX7_bar cX7_bar mX7_bar [.ref x, .int a, .int b, .int c] σ I F (actQ x o z I F (fun I F => setBarR I F (x + 1) a b c)) := by
  have hb0 := hk.2.2.2.2.2.2.2.2.1
  refine PR.of oP_X7_bar (catOK rfl) (Nat.le_of_ble_eq_true rfl) ?_
  show PW _ _ _ 0 [.ref x, .int a, .int b, .int c] [] _ _ _ _
  refine pw_aload_n dX7_bar_0 rfl rfl ?_
  refine pw_getR (x := (x + 43)) dX7_bar_1 fd_RX7_16 (by decide) (tw_k h) rfl (tw_r1 h) ?_
  refine pw_aload_n dX7_bar_4 rfl rfl ?_
  refine pw_getR (x := (x + 1)) dX7_bar_5 fd_RX7_10 (by decide) (tw_k h) rfl (tw_r0 h) ?_
  refine pr_callV dX7_bar_8 oX_X5_copyFrom lk_RX7_40 (sp_copyFrom (tw_bef h) (tw_now h) (by omega) hb0) (pl_k (tw_bef h)) rfl rfl (Nat.le_of_ble_eq_true rfl) (by decide) (fun v I1 F1 hq => ?_)
  obtain ⟨rfl, hc⟩ := hq
  have hk1 := cOK_fr hk (fun i hi => (Cpy_fr hc (by omega)).1)
  obtain ⟨hA, hA8, hC, hC5, hn, hn4, hW, hKd, hb, ho, ho4, hz, hz4⟩ := hk1
  have hl := lc_setBar (I := I1) (F := F1) (p := x + 1) (a := a) (o := b) (z := c)
  refine pw_aload_n dX7_bar_11 rfl rfl ?_
  refine pw_aload_n dX7_bar_12 rfl rfl ?_
  refine pw_getR (x := (x + 1)) dX7_bar_13 fd_RX7_10 (by decide) (tw_k h) rfl (tw_r0 h) ?_
  refine pw_iload_n dX7_bar_16 rfl rfl ?_
  refine pw_iload_n dX7_bar_17 rfl rfl ?_
  refine pw_iload_n dX7_bar_18 rfl rfl ?_
  refine pe_callVi dX7_bar_19 oX_X5_setBar lk_RX7_56 (sp_setBar (tw_now h)) (pl_k (tw_now h)) rfl rfl (Nat.le_of_ble_eq_true rfl) (by decide) ?_
  refine pr_callV dX7_bar_22 oX_X7_recorded lk_RX7_48 (sp_recorded h ((congrFun (hl.1 _ (by omega)) 1).trans ho) ho4 ((congrFun (hl.1 _ (by omega)) 2).trans hz) hz4 (bef_b hc hb0 hl.1)) (tw_k h) rfl rfl (Nat.le_of_ble_eq_true rfl) (by decide) (fun v I2 F2 hq => ?_)
  have hv := hq.1
  subst hv
  exact pw_iret dX7_bar_25 rfl ⟨rfl, I1, F1, hc, hq⟩

set_option maxRecDepth 4000 in
theorem sp_x_addCrew {σ : pT} {I : pI} {F : pF} {x nA nC n o z : Nat} {a b : Int32} (h : isTW σ x) (hk : cOK x I nA nC n o z) : PR yX7_addCrew cX7_addCrew mX7_addCrew [.ref x, .int a, .int b] σ I F (actQ x o z I F (fun I F => newCrewR I F (x + 1) nC a b)) := by
  have hb0 := hk.2.2.2.2.2.2.2.2.1
  refine PR.of oP_X7_addCrew (catOK rfl) (Nat.le_of_ble_eq_true rfl) ?_
  show PW _ _ _ 0 [.ref x, .int a, .int b] [] _ _ _ _
  refine pw_aload_n dX7_addCrew_0 rfl rfl ?_
  refine pw_getR (x := (x + 43)) dX7_addCrew_1 fd_RX7_16 (by decide) (tw_k h) rfl (tw_r1 h) ?_
  refine pw_aload_n dX7_addCrew_4 rfl rfl ?_
  refine pw_getR (x := (x + 1)) dX7_addCrew_5 fd_RX7_10 (by decide) (tw_k h) rfl (tw_r0 h) ?_
  refine pr_callV dX7_addCrew_8 oX_X5_copyFrom lk_RX7_40 (sp_copyFrom (tw_bef h) (tw_now h) (by omega) hb0) (pl_k (tw_bef h)) rfl rfl (Nat.le_of_ble_eq_true rfl) (by decide) (fun v I1 F1 hq => ?_)
  obtain ⟨rfl, hc⟩ := hq
  have hk1 := cOK_fr hk (fun i hi => (Cpy_fr hc (by omega)).1)
  obtain ⟨hA, hA8, hC, hC5, hn, hn4, hW, hKd, hb, ho, ho4, hz, hz4⟩ := hk1
  have hl := lc_newCrew (I := I1) (F := F1) (p := x + 1) (nC := nC) (r := a) (w := b)
  refine pw_aload_n dX7_addCrew_11 rfl rfl ?_
  refine pw_aload_n dX7_addCrew_12 rfl rfl ?_
  refine pw_getR (x := (x + 1)) dX7_addCrew_13 fd_RX7_10 (by decide) (tw_k h) rfl (tw_r0 h) ?_
  refine pw_iload_n dX7_addCrew_16 rfl rfl ?_
  refine pw_iload_n dX7_addCrew_17 rfl rfl ?_
  refine pe_callVi dX7_addCrew_18 oX_X5_newCrew lk_RX7_59 (sp_newCrew (tw_now h) hC hC5) (pl_k (tw_now h)) rfl rfl (Nat.le_of_ble_eq_true rfl) (by decide) ?_
  refine pr_callV dX7_addCrew_21 oX_X7_recorded lk_RX7_48 (sp_recorded h ((congrFun (hl.1 _ (by omega)) 1).trans ho) ho4 ((congrFun (hl.1 _ (by omega)) 2).trans hz) hz4 (bef_b hc hb0 hl.1)) (tw_k h) rfl rfl (Nat.le_of_ble_eq_true rfl) (by decide) (fun v I2 F2 hq => ?_)
  have hv := hq.1
  subst hv
  exact pw_iret dX7_addCrew_24 rfl ⟨rfl, I1, F1, hc, hq⟩

set_option maxRecDepth 4000 in
theorem sp_x_addTask {σ : pT} {I : pI} {F : pF} {x nA nC n o z : Nat} {a b c d e f : Int32} (h : isTW σ x) (hk : cOK x I nA nC n o z) : PR yX7_addTask cX7_addTask mX7_addTask [.ref x, .int a, .int b, .int c, .int d, .int e, .int f] σ I F (actQ x o z I F (fun I F => newTaskR I F (x + 1) n a b c d e f)) := by
  have hb0 := hk.2.2.2.2.2.2.2.2.1
  refine PR.of oP_X7_addTask (catOK rfl) (Nat.le_of_ble_eq_true rfl) ?_
  show PW _ _ _ 0 [.ref x, .int a, .int b, .int c, .int d, .int e, .int f] [] _ _ _ _
  refine pw_aload_n dX7_addTask_0 rfl rfl ?_
  refine pw_getR (x := (x + 43)) dX7_addTask_1 fd_RX7_16 (by decide) (tw_k h) rfl (tw_r1 h) ?_
  refine pw_aload_n dX7_addTask_4 rfl rfl ?_
  refine pw_getR (x := (x + 1)) dX7_addTask_5 fd_RX7_10 (by decide) (tw_k h) rfl (tw_r0 h) ?_
  refine pr_callV dX7_addTask_8 oX_X5_copyFrom lk_RX7_40 (sp_copyFrom (tw_bef h) (tw_now h) (by omega) hb0) (pl_k (tw_bef h)) rfl rfl (Nat.le_of_ble_eq_true rfl) (by decide) (fun v I1 F1 hq => ?_)
  obtain ⟨rfl, hc⟩ := hq
  have hk1 := cOK_fr hk (fun i hi => (Cpy_fr hc (by omega)).1)
  obtain ⟨hA, hA8, hC, hC5, hn, hn4, hW, hKd, hb, ho, ho4, hz, hz4⟩ := hk1
  have hl := lc_newTask (I := I1) (F := F1) (p := x + 1) (n := n) (a := a) (s := b) (c := c) (d := d) (e := e) (f := f)
  refine pw_aload_n dX7_addTask_11 rfl rfl ?_
  refine pw_aload_n dX7_addTask_12 rfl rfl ?_
  refine pw_getR (x := (x + 1)) dX7_addTask_13 fd_RX7_10 (by decide) (tw_k h) rfl (tw_r0 h) ?_
  refine pw_iload_n dX7_addTask_16 rfl rfl ?_
  refine pw_iload_n dX7_addTask_17 rfl rfl ?_
  refine pw_iload_n dX7_addTask_18 rfl rfl ?_
  refine pw_iload dX7_addTask_19 rfl ?_
  refine pw_iload dX7_addTask_21 rfl ?_
  refine pw_iload dX7_addTask_23 rfl ?_
  refine pe_callVi dX7_addTask_25 oX_X5_newTask lk_RX7_62 (sp_newTask (tw_now h) hn hn4 hA hA8) (pl_k (tw_now h)) rfl rfl (Nat.le_of_ble_eq_true rfl) (by decide) ?_
  refine pr_callV dX7_addTask_28 oX_X7_recorded lk_RX7_48 (sp_recorded h ((congrFun (hl.1 _ (by omega)) 1).trans ho) ho4 ((congrFun (hl.1 _ (by omega)) 2).trans hz) hz4 (bef_b hc hb0 hl.1)) (tw_k h) rfl rfl (Nat.le_of_ble_eq_true rfl) (by decide) (fun v I2 F2 hq => ?_)
  have hv := hq.1
  subst hv
  exact pw_iret dX7_addTask_31 rfl ⟨rfl, I1, F1, hc, hq⟩

set_option maxRecDepth 4000 in
theorem sp_x_run {σ : pT} {I : pI} {F : pF} {x nA nC n o z : Nat} {a : Int32} (h : isTW σ x) (hk : cOK x I nA nC n o z) : PR yX7_run cX7_run mX7_run [.ref x, .int a] σ I F (actQ x o z I F (fun I F => startR I F (x + 1) nA n a)) := by
  have hb0 := hk.2.2.2.2.2.2.2.2.1
  refine PR.of oP_X7_run (catOK rfl) (Nat.le_of_ble_eq_true rfl) ?_
  show PW _ _ _ 0 [.ref x, .int a] [] _ _ _ _
  refine pw_aload_n dX7_run_0 rfl rfl ?_
  refine pw_getR (x := (x + 43)) dX7_run_1 fd_RX7_16 (by decide) (tw_k h) rfl (tw_r1 h) ?_
  refine pw_aload_n dX7_run_4 rfl rfl ?_
  refine pw_getR (x := (x + 1)) dX7_run_5 fd_RX7_10 (by decide) (tw_k h) rfl (tw_r0 h) ?_
  refine pr_callV dX7_run_8 oX_X5_copyFrom lk_RX7_40 (sp_copyFrom (tw_bef h) (tw_now h) (by omega) hb0) (pl_k (tw_bef h)) rfl rfl (Nat.le_of_ble_eq_true rfl) (by decide) (fun v I1 F1 hq => ?_)
  obtain ⟨rfl, hc⟩ := hq
  have hk1 := cOK_fr hk (fun i hi => (Cpy_fr hc (by omega)).1)
  obtain ⟨hA, hA8, hC, hC5, hn, hn4, hW, hKd, hb, ho, ho4, hz, hz4⟩ := hk1
  have hl := lc_start (F := F1) (n := n) (a := a) hA hA8
  refine pw_aload_n dX7_run_11 rfl rfl ?_
  refine pw_aload_n dX7_run_12 rfl rfl ?_
  refine pw_getR (x := (x + 1)) dX7_run_13 fd_RX7_10 (by decide) (tw_k h) rfl (tw_r0 h) ?_
  refine pw_iload_n dX7_run_16 rfl rfl ?_
  refine pe_callVi dX7_run_17 oX_X5_startAsset lk_RX7_66 (sp_startAsset (tw_now h) hn hn4 hA hA8) (pl_k (tw_now h)) rfl rfl (Nat.le_of_ble_eq_true rfl) (by decide) ?_
  refine pr_callV dX7_run_20 oX_X7_recorded lk_RX7_48 (sp_recorded h ((congrFun (hl.1 _ (by omega)) 1).trans ho) ho4 ((congrFun (hl.1 _ (by omega)) 2).trans hz) hz4 (bef_b hc hb0 hl.1)) (tw_k h) rfl rfl (Nat.le_of_ble_eq_true rfl) (by decide) (fun v I2 F2 hq => ?_)
  have hv := hq.1
  subst hv
  exact pw_iret dX7_run_23 rfl ⟨rfl, I1, F1, hc, hq⟩

set_option maxRecDepth 4000 in
theorem sp_x_stop {σ : pT} {I : pI} {F : pF} {x nA nC n o z : Nat} {a : Int32} (h : isTW σ x) (hk : cOK x I nA nC n o z) : PR yX7_stop cX7_stop mX7_stop [.ref x, .int a] σ I F (actQ x o z I F (fun I F => stopR I F (x + 1) nA a)) := by
  have hb0 := hk.2.2.2.2.2.2.2.2.1
  refine PR.of oP_X7_stop (catOK rfl) (Nat.le_of_ble_eq_true rfl) ?_
  show PW _ _ _ 0 [.ref x, .int a] [] _ _ _ _
  refine pw_aload_n dX7_stop_0 rfl rfl ?_
  refine pw_getR (x := (x + 43)) dX7_stop_1 fd_RX7_16 (by decide) (tw_k h) rfl (tw_r1 h) ?_
  refine pw_aload_n dX7_stop_4 rfl rfl ?_
  refine pw_getR (x := (x + 1)) dX7_stop_5 fd_RX7_10 (by decide) (tw_k h) rfl (tw_r0 h) ?_
  refine pr_callV dX7_stop_8 oX_X5_copyFrom lk_RX7_40 (sp_copyFrom (tw_bef h) (tw_now h) (by omega) hb0) (pl_k (tw_bef h)) rfl rfl (Nat.le_of_ble_eq_true rfl) (by decide) (fun v I1 F1 hq => ?_)
  obtain ⟨rfl, hc⟩ := hq
  have hk1 := cOK_fr hk (fun i hi => (Cpy_fr hc (by omega)).1)
  obtain ⟨hA, hA8, hC, hC5, hn, hn4, hW, hKd, hb, ho, ho4, hz, hz4⟩ := hk1
  have hl := lc_stop (F := F1) (a := a) hA hA8
  refine pw_aload_n dX7_stop_11 rfl rfl ?_
  refine pw_aload_n dX7_stop_12 rfl rfl ?_
  refine pw_getR (x := (x + 1)) dX7_stop_13 fd_RX7_10 (by decide) (tw_k h) rfl (tw_r0 h) ?_
  refine pw_iload_n dX7_stop_16 rfl rfl ?_
  refine pe_callVi dX7_stop_17 oX_X5_stopAsset lk_RX7_69 (sp_stopAsset (tw_now h) hA hA8) (pl_k (tw_now h)) rfl rfl (Nat.le_of_ble_eq_true rfl) (by decide) ?_
  refine pr_callV dX7_stop_20 oX_X7_recorded lk_RX7_48 (sp_recorded h ((congrFun (hl.1 _ (by omega)) 1).trans ho) ho4 ((congrFun (hl.1 _ (by omega)) 2).trans hz) hz4 (bef_b hc hb0 hl.1)) (tw_k h) rfl rfl (Nat.le_of_ble_eq_true rfl) (by decide) (fun v I2 F2 hq => ?_)
  have hv := hq.1
  subst hv
  exact pw_iret dX7_stop_23 rfl ⟨rfl, I1, F1, hc, hq⟩

set_option maxRecDepth 4000 in
theorem sp_x_hang {σ : pT} {I : pI} {F : pF} {x nA nC n o z : Nat} {a b : Int32} (h : isTW σ x) (hk : cOK x I nA nC n o z) : PR yX7_hang cX7_hang mX7_hang [.ref x, .int a, .int b] σ I F (actQ x o z I F (fun I F => hangR I F (x + 1) n a b)) := by
  have hb0 := hk.2.2.2.2.2.2.2.2.1
  refine PR.of oP_X7_hang (catOK rfl) (Nat.le_of_ble_eq_true rfl) ?_
  show PW _ _ _ 0 [.ref x, .int a, .int b] [] _ _ _ _
  refine pw_aload_n dX7_hang_0 rfl rfl ?_
  refine pw_getR (x := (x + 43)) dX7_hang_1 fd_RX7_16 (by decide) (tw_k h) rfl (tw_r1 h) ?_
  refine pw_aload_n dX7_hang_4 rfl rfl ?_
  refine pw_getR (x := (x + 1)) dX7_hang_5 fd_RX7_10 (by decide) (tw_k h) rfl (tw_r0 h) ?_
  refine pr_callV dX7_hang_8 oX_X5_copyFrom lk_RX7_40 (sp_copyFrom (tw_bef h) (tw_now h) (by omega) hb0) (pl_k (tw_bef h)) rfl rfl (Nat.le_of_ble_eq_true rfl) (by decide) (fun v I1 F1 hq => ?_)
  obtain ⟨rfl, hc⟩ := hq
  have hk1 := cOK_fr hk (fun i hi => (Cpy_fr hc (by omega)).1)
  obtain ⟨hA, hA8, hC, hC5, hn, hn4, hW, hKd, hb, ho, ho4, hz, hz4⟩ := hk1
  have hl := lc_hang (F := F1) (a := a) (c := b) hn hn4
  refine pw_aload_n dX7_hang_11 rfl rfl ?_
  refine pw_aload_n dX7_hang_12 rfl rfl ?_
  refine pw_getR (x := (x + 1)) dX7_hang_13 fd_RX7_10 (by decide) (tw_k h) rfl (tw_r0 h) ?_
  refine pw_iload_n dX7_hang_16 rfl rfl ?_
  refine pw_iload_n dX7_hang_17 rfl rfl ?_
  refine pe_callVi dX7_hang_18 oX_X5_hangTag lk_RX7_72 (sp_hangTag (tw_now h) hn hn4 hA hA8 hC hC5 hW) (pl_k (tw_now h)) rfl rfl (Nat.le_of_ble_eq_true rfl) (by decide) ?_
  refine pr_callV dX7_hang_21 oX_X7_recorded lk_RX7_48 (sp_recorded h ((congrFun (hl.1 _ (by omega)) 1).trans ho) ho4 ((congrFun (hl.1 _ (by omega)) 2).trans hz) hz4 (bef_b hc hb0 hl.1)) (tw_k h) rfl rfl (Nat.le_of_ble_eq_true rfl) (by decide) (fun v I2 F2 hq => ?_)
  have hv := hq.1
  subst hv
  exact pw_iret dX7_hang_24 rfl ⟨rfl, I1, F1, hc, hq⟩

set_option maxRecDepth 4000 in
theorem sp_x_begin {σ : pT} {I : pI} {F : pF} {x nA nC n o z : Nat} {a : Int32} (h : isTW σ x) (hk : cOK x I nA nC n o z) : PR yX7_begin cX7_begin mX7_begin [.ref x, .int a] σ I F (actQ x o z I F (fun I F => beginR I F (x + 1) n a)) := by
  have hb0 := hk.2.2.2.2.2.2.2.2.1
  refine PR.of oP_X7_begin (catOK rfl) (Nat.le_of_ble_eq_true rfl) ?_
  show PW _ _ _ 0 [.ref x, .int a] [] _ _ _ _
  refine pw_aload_n dX7_begin_0 rfl rfl ?_
  refine pw_getR (x := (x + 43)) dX7_begin_1 fd_RX7_16 (by decide) (tw_k h) rfl (tw_r1 h) ?_
  refine pw_aload_n dX7_begin_4 rfl rfl ?_
  refine pw_getR (x := (x + 1)) dX7_begin_5 fd_RX7_10 (by decide) (tw_k h) rfl (tw_r0 h) ?_
  refine pr_callV dX7_begin_8 oX_X5_copyFrom lk_RX7_40 (sp_copyFrom (tw_bef h) (tw_now h) (by omega) hb0) (pl_k (tw_bef h)) rfl rfl (Nat.le_of_ble_eq_true rfl) (by decide) (fun v I1 F1 hq => ?_)
  obtain ⟨rfl, hc⟩ := hq
  have hk1 := cOK_fr hk (fun i hi => (Cpy_fr hc (by omega)).1)
  obtain ⟨hA, hA8, hC, hC5, hn, hn4, hW, hKd, hb, ho, ho4, hz, hz4⟩ := hk1
  have hl := lc_begin (F := F1) (a := a) hn hn4
  refine pw_aload_n dX7_begin_11 rfl rfl ?_
  refine pw_aload_n dX7_begin_12 rfl rfl ?_
  refine pw_getR (x := (x + 1)) dX7_begin_13 fd_RX7_10 (by decide) (tw_k h) rfl (tw_r0 h) ?_
  refine pw_iload_n dX7_begin_16 rfl rfl ?_
  refine pe_callVi dX7_begin_17 oX_X5_beginTask lk_RX7_75 (sp_beginTask (tw_now h) hn hn4 hA hA8 hW hKd) (pl_k (tw_now h)) rfl rfl (Nat.le_of_ble_eq_true rfl) (by decide) ?_
  refine pr_callV dX7_begin_20 oX_X7_recorded lk_RX7_48 (sp_recorded h ((congrFun (hl.1 _ (by omega)) 1).trans ho) ho4 ((congrFun (hl.1 _ (by omega)) 2).trans hz) hz4 (bef_b hc hb0 hl.1)) (tw_k h) rfl rfl (Nat.le_of_ble_eq_true rfl) (by decide) (fun v I2 F2 hq => ?_)
  have hv := hq.1
  subst hv
  exact pw_iret dX7_begin_23 rfl ⟨rfl, I1, F1, hc, hq⟩

set_option maxRecDepth 4000 in
theorem sp_x_lift {σ : pT} {I : pI} {F : pF} {x nA nC n o z : Nat} {a b : Int32} (h : isTW σ x) (hk : cOK x I nA nC n o z) : PR yX7_lift cX7_lift mX7_lift [.ref x, .int a, .int b] σ I F (actQ x o z I F (fun I F => liftR I F (x + 1) n a b)) := by
  have hb0 := hk.2.2.2.2.2.2.2.2.1
  refine PR.of oP_X7_lift (catOK rfl) (Nat.le_of_ble_eq_true rfl) ?_
  show PW _ _ _ 0 [.ref x, .int a, .int b] [] _ _ _ _
  refine pw_aload_n dX7_lift_0 rfl rfl ?_
  refine pw_getR (x := (x + 43)) dX7_lift_1 fd_RX7_16 (by decide) (tw_k h) rfl (tw_r1 h) ?_
  refine pw_aload_n dX7_lift_4 rfl rfl ?_
  refine pw_getR (x := (x + 1)) dX7_lift_5 fd_RX7_10 (by decide) (tw_k h) rfl (tw_r0 h) ?_
  refine pr_callV dX7_lift_8 oX_X5_copyFrom lk_RX7_40 (sp_copyFrom (tw_bef h) (tw_now h) (by omega) hb0) (pl_k (tw_bef h)) rfl rfl (Nat.le_of_ble_eq_true rfl) (by decide) (fun v I1 F1 hq => ?_)
  obtain ⟨rfl, hc⟩ := hq
  have hk1 := cOK_fr hk (fun i hi => (Cpy_fr hc (by omega)).1)
  obtain ⟨hA, hA8, hC, hC5, hn, hn4, hW, hKd, hb, ho, ho4, hz, hz4⟩ := hk1
  have hl := lc_lift (F := F1) (a := a) (c := b) hn hn4
  refine pw_aload_n dX7_lift_11 rfl rfl ?_
  refine pw_aload_n dX7_lift_12 rfl rfl ?_
  refine pw_getR (x := (x + 1)) dX7_lift_13 fd_RX7_10 (by decide) (tw_k h) rfl (tw_r0 h) ?_
  refine pw_iload_n dX7_lift_16 rfl rfl ?_
  refine pw_iload_n dX7_lift_17 rfl rfl ?_
  refine pe_callVi dX7_lift_18 oX_X5_liftTag lk_RX7_78 (sp_liftTag (nA := nA) (tw_now h) hn hn4 hC hC5) (pl_k (tw_now h)) rfl rfl (Nat.le_of_ble_eq_true rfl) (by decide) ?_
  refine pr_callV dX7_lift_21 oX_X7_recorded lk_RX7_48 (sp_recorded h ((congrFun (hl.1 _ (by omega)) 1).trans ho) ho4 ((congrFun (hl.1 _ (by omega)) 2).trans hz) hz4 (bef_b hc hb0 hl.1)) (tw_k h) rfl rfl (Nat.le_of_ble_eq_true rfl) (by decide) (fun v I2 F2 hq => ?_)
  have hv := hq.1
  subst hv
  exact pw_iret dX7_lift_24 rfl ⟨rfl, I1, F1, hc, hq⟩

set_option maxRecDepth 4000 in
theorem sp_x_cancel {σ : pT} {I : pI} {F : pF} {x nA nC n o z : Nat} {a : Int32} (h : isTW σ x) (hk : cOK x I nA nC n o z) : PR yX7_cancel cX7_cancel mX7_cancel [.ref x, .int a] σ I F (actQ x o z I F (fun I F => cancelR I F (x + 1) a)) := by
  have hb0 := hk.2.2.2.2.2.2.2.2.1
  refine PR.of oP_X7_cancel (catOK rfl) (Nat.le_of_ble_eq_true rfl) ?_
  show PW _ _ _ 0 [.ref x, .int a] [] _ _ _ _
  refine pw_aload_n dX7_cancel_0 rfl rfl ?_
  refine pw_getR (x := (x + 43)) dX7_cancel_1 fd_RX7_16 (by decide) (tw_k h) rfl (tw_r1 h) ?_
  refine pw_aload_n dX7_cancel_4 rfl rfl ?_
  refine pw_getR (x := (x + 1)) dX7_cancel_5 fd_RX7_10 (by decide) (tw_k h) rfl (tw_r0 h) ?_
  refine pr_callV dX7_cancel_8 oX_X5_copyFrom lk_RX7_40 (sp_copyFrom (tw_bef h) (tw_now h) (by omega) hb0) (pl_k (tw_bef h)) rfl rfl (Nat.le_of_ble_eq_true rfl) (by decide) (fun v I1 F1 hq => ?_)
  obtain ⟨rfl, hc⟩ := hq
  have hk1 := cOK_fr hk (fun i hi => (Cpy_fr hc (by omega)).1)
  obtain ⟨hA, hA8, hC, hC5, hn, hn4, hW, hKd, hb, ho, ho4, hz, hz4⟩ := hk1
  have hl := lc_cancel (F := F1) (a := a) hn hn4
  refine pw_aload_n dX7_cancel_11 rfl rfl ?_
  refine pw_aload_n dX7_cancel_12 rfl rfl ?_
  refine pw_getR (x := (x + 1)) dX7_cancel_13 fd_RX7_10 (by decide) (tw_k h) rfl (tw_r0 h) ?_
  refine pw_iload_n dX7_cancel_16 rfl rfl ?_
  refine pe_callVi dX7_cancel_17 oX_X5_cancelTask lk_RX7_81 (sp_cancelTask (tw_now h) hn hn4) (pl_k (tw_now h)) rfl rfl (Nat.le_of_ble_eq_true rfl) (by decide) ?_
  refine pr_callV dX7_cancel_20 oX_X7_recorded lk_RX7_48 (sp_recorded h ((congrFun (hl.1 _ (by omega)) 1).trans ho) ho4 ((congrFun (hl.1 _ (by omega)) 2).trans hz) hz4 (bef_b hc hb0 hl.1)) (tw_k h) rfl rfl (Nat.le_of_ble_eq_true rfl) (by decide) (fun v I2 F2 hq => ?_)
  have hv := hq.1
  subst hv
  exact pw_iret dX7_cancel_23 rfl ⟨rfl, I1, F1, hc, hq⟩

set_option maxRecDepth 4000 in
theorem sp_x_pass {σ : pT} {I : pI} {F : pF} {x nA nC n o z : Nat} {a : Int32} (h : isTW σ x) (hk : cOK x I nA nC n o z) : PR yX7_pass cX7_pass mX7_pass [.ref x, .int a] σ I F (actQ x o z I F (fun I F => passR I F (x + 1) nA n a)) := by
  have hb0 := hk.2.2.2.2.2.2.2.2.1
  refine PR.of oP_X7_pass (catOK rfl) (Nat.le_of_ble_eq_true rfl) ?_
  show PW _ _ _ 0 [.ref x, .int a] [] _ _ _ _
  refine pw_aload_n dX7_pass_0 rfl rfl ?_
  refine pw_getR (x := (x + 43)) dX7_pass_1 fd_RX7_16 (by decide) (tw_k h) rfl (tw_r1 h) ?_
  refine pw_aload_n dX7_pass_4 rfl rfl ?_
  refine pw_getR (x := (x + 1)) dX7_pass_5 fd_RX7_10 (by decide) (tw_k h) rfl (tw_r0 h) ?_
  refine pr_callV dX7_pass_8 oX_X5_copyFrom lk_RX7_40 (sp_copyFrom (tw_bef h) (tw_now h) (by omega) hb0) (pl_k (tw_bef h)) rfl rfl (Nat.le_of_ble_eq_true rfl) (by decide) (fun v I1 F1 hq => ?_)
  obtain ⟨rfl, hc⟩ := hq
  have hk1 := cOK_fr hk (fun i hi => (Cpy_fr hc (by omega)).1)
  obtain ⟨hA, hA8, hC, hC5, hn, hn4, hW, hKd, hb, ho, ho4, hz, hz4⟩ := hk1
  have hl := lc_pass (F := F1) (x := a) hn4 hW hA8
  refine pw_aload_n dX7_pass_11 rfl rfl ?_
  refine pw_aload_n dX7_pass_12 rfl rfl ?_
  refine pw_getR (x := (x + 1)) dX7_pass_13 fd_RX7_10 (by decide) (tw_k h) rfl (tw_r0 h) ?_
  refine pw_iload_n dX7_pass_16 rfl rfl ?_
  refine pe_callVi dX7_pass_17 oX_X5_passHours lk_RX7_84 (sp_passHours (tw_now h) hn hn4 hA hA8 hW) (pl_k (tw_now h)) rfl rfl (Nat.le_of_ble_eq_true rfl) (by decide) ?_
  refine pr_callV dX7_pass_20 oX_X7_recorded lk_RX7_48 (sp_recorded h ((congrFun (hl.1 _ (by omega)) 1).trans ho) ho4 ((congrFun (hl.1 _ (by omega)) 2).trans hz) hz4 (bef_b hc hb0 hl.1)) (tw_k h) rfl rfl (Nat.le_of_ble_eq_true rfl) (by decide) (fun v I2 F2 hq => ?_)
  have hv := hq.1
  subst hv
  exact pw_iret dX7_pass_23 rfl ⟨rfl, I1, F1, hc, hq⟩
end
section
set_option maxRecDepth 4000 in
theorem sp_x_undo {σ : pT} {I : pI} {F : pF} {x o z : Nat} (h : isTW σ x) (ho : I (x + 127) 1 = nI o) (ho4 : o < 4) (hz : I (x + 127) 2 = nI z) (hz4 : z ≤ 4) (hb : ∀ i, i < 4 → ∀ a, a < 8 → I (x + 127 + 2 + 42 * i + 5 + a) 4 = 0 ∨ I (x + 127 + 2 + 42 * i + 5 + a) 4 = 1) : PR yX7_undo cX7_undo mX7_undo [.ref x] σ I F fun v I' F' => (z = 0 ∧ v = some (.int (-5)) ∧ I' = I ∧ F' = F) ∨ (0 < z ∧ v = some (.int (nI (z - 1))) ∧ Cpy (x + 1) (x + 127 + 2 + 42 * ((o + (z - 1)) % 4)) (up2 I (x + 127) 2 (nI (z - 1))) F I' F') := by
  refine PR.of oP_X7_undo (catOK rfl) (Nat.le_of_ble_eq_true rfl) ?_
  show PW _ _ _ 0 [.ref x] [] _ _ _ _
  refine pw_aload_n dX7_undo_0 rfl rfl ?_
  refine pw_getR (x := (x + 127)) dX7_undo_1 fd_RX7_29 (by decide) (tw_k h) rfl (tw_r4 h) ?_
  refine pw_aload_n dX7_undo_4 rfl rfl ?_
  refine pw_getR (x := (x + 1)) dX7_undo_5 fd_RX7_10 (by decide) (tw_k h) rfl (tw_r0 h) ?_
  refine pr_callV dX7_undo_8 oX_X2_takeBack lk_RX7_110 (sp_takeBack (tw_hi h) (tw_now h) (by omega) ho ho4 hz hz4 hb) (hi_k (tw_hi h)) rfl rfl (Nat.le_of_ble_eq_true rfl) (by decide) (fun v I1 F1 hq => ?_)
  rcases hq with ⟨hz0, rfl, rfl, rfl⟩ | ⟨hz0, rfl, hc⟩
  · exact pw_iret dX7_undo_11 rfl ⟨rfl, Or.inl ⟨hz0, rfl, rfl, rfl⟩⟩
  exact pw_iret dX7_undo_11 rfl ⟨rfl, Or.inr ⟨hz0, rfl, hc⟩⟩

set_option maxRecDepth 4000 in
theorem sp_x_keep {σ : pT} {I : pI} {F : pF} {x : Nat} (h : isTW σ x) (hb : ∀ a, a < 8 → I (x + 1 + 5 + a) 4 = 0 ∨ I (x + 1 + 5 + a) 4 = 1) : PR yX7_keep cX7_keep mX7_keep [.ref x] σ I F fun v I' F' => v = some (.int (I (x + 1) 7)) ∧ ∃ I1, Cpy (x + 85) (x + 1) I F I1 F' ∧ I' = up2 I1 x 3 1 := by
  refine PR.of oP_X7_keep (catOK rfl) (Nat.le_of_ble_eq_true rfl) ?_
  show PW _ _ _ 0 [.ref x] [] _ _ _ _
  refine pw_aload_n dX7_keep_0 rfl rfl ?_
  refine pw_getR (x := (x + 85)) dX7_keep_1 fd_RX7_19 (by decide) (tw_k h) rfl (tw_r2 h) ?_
  refine pw_aload_n dX7_keep_4 rfl rfl ?_
  refine pw_getR (x := (x + 1)) dX7_keep_5 fd_RX7_10 (by decide) (tw_k h) rfl (tw_r0 h) ?_
  refine pr_callV dX7_keep_8 oX_X5_copyFrom lk_RX7_40 (sp_copyFrom (tw_kept h) (tw_now h) (by omega) hb) (pl_k (tw_kept h)) rfl rfl (Nat.le_of_ble_eq_true rfl) (by decide) (fun v I1 F1 hq => ?_)
  obtain ⟨rfl, hc⟩ := hq
  refine pw_aload_n dX7_keep_11 rfl rfl ?_
  refine pw_iconst (v := 1) dX7_keep_12 (by decide) ?_
  refine pw_putI dX7_keep_13 fd_RX7_22 (by decide) rfl ⟨by decide, by decide, rfl⟩ (tw_k h) ?_
  refine pw_aload_n dX7_keep_16 rfl rfl ?_
  refine pw_getR (x := (x + 1)) dX7_keep_17 fd_RX7_10 (by decide) (tw_k h) rfl (tw_r0 h) ?_
  refine pw_getI dX7_keep_20 fd_RX7_114 (by decide) (pl_k (tw_now h)) rfl ?_
  rw [up2_ni (by omega), congrFun (Cpy_fr hc (by omega)).1 7]
  exact pw_iret dX7_keep_23 rfl ⟨rfl, rfl, I1, hc, rfl⟩

set_option maxRecDepth 4000 in
theorem sp_x_restore {σ : pT} {I : pI} {F : pF} {x o z : Nat} (h : isTW σ x) (ho : I (x + 127) 1 = nI o) (ho4 : o < 4) (hz : I (x + 127) 2 = nI z) (hz4 : z ≤ 4) (hb : ∀ a, a < 8 → I (x + 1 + 5 + a) 4 = 0 ∨ I (x + 1 + 5 + a) 4 = 1) (hbk : ∀ a, a < 8 → I (x + 85 + 5 + a) 4 = 0 ∨ I (x + 85 + 5 + a) 4 = 1) : PR yX7_restore cX7_restore mX7_restore [.ref x] σ I F fun v I' F' => (I x 3 = 0 ∧ v = some (.int (-5)) ∧ I' = I ∧ F' = F) ∨ (¬ I x 3 = 0 ∧ ∃ I1 F1 I2 F2, Cpy (x + 43) (x + 1) I F I1 F1 ∧ Cpy (x + 1) (x + 85) I1 F1 I2 F2 ∧ recQ x o z (I2 (x + 1) 7) I2 F2 v I' F') := by
  refine PR.of oP_X7_restore (catOK rfl) (Nat.le_of_ble_eq_true rfl) ?_
  show PW _ _ _ 0 [.ref x] [] _ _ _ _
  refine pw_aload_n dX7_restore_0 rfl rfl ?_
  refine pw_getI dX7_restore_1 fd_RX7_22 (by decide) (tw_k h) rfl ?_
  refine pw_if_ne (tgt := 10) dX7_restore_4 (by decide) (fun c_4 => ?_) (fun c_4 => ?_)
  · refine pw_aload_n dX7_restore_10 rfl rfl ?_
    refine pw_getR (x := (x + 43)) dX7_restore_11 fd_RX7_16 (by decide) (tw_k h) rfl (tw_r1 h) ?_
    refine pw_aload_n dX7_restore_14 rfl rfl ?_
    refine pw_getR (x := (x + 1)) dX7_restore_15 fd_RX7_10 (by decide) (tw_k h) rfl (tw_r0 h) ?_
    refine pr_callV dX7_restore_18 oX_X5_copyFrom lk_RX7_40 (sp_copyFrom (tw_bef h) (tw_now h) (by omega) hb) (pl_k (tw_bef h)) rfl rfl (Nat.le_of_ble_eq_true rfl) (by decide) (fun v I1 F1 hq => ?_)
    obtain ⟨rfl, hc⟩ := hq
    refine pw_aload_n dX7_restore_21 rfl rfl ?_
    refine pw_getR (x := (x + 1)) dX7_restore_22 fd_RX7_10 (by decide) (tw_k h) rfl (tw_r0 h) ?_
    refine pw_aload_n dX7_restore_25 rfl rfl ?_
    refine pw_getR (x := (x + 85)) dX7_restore_26 fd_RX7_19 (by decide) (tw_k h) rfl (tw_r2 h) ?_
    refine pr_callV dX7_restore_29 oX_X5_copyFrom lk_RX7_40 (sp_copyFrom (tw_now h) (tw_kept h) (by omega) (fun a ha => by rw [congrFun (Cpy_fr hc (by omega)).1 4]; exact hbk a ha)) (pl_k (tw_now h)) rfl rfl (Nat.le_of_ble_eq_true rfl) (by decide) (fun v I2 F2 hq => ?_)
    obtain ⟨rfl, hc2⟩ := hq
    refine pw_aload_n dX7_restore_32 rfl rfl ?_
    refine pw_aload_n dX7_restore_33 rfl rfl ?_
    refine pw_getR (x := (x + 1)) dX7_restore_34 fd_RX7_10 (by decide) (tw_k h) rfl (tw_r0 h) ?_
    refine pw_getI dX7_restore_37 fd_RX7_114 (by decide) (pl_k (tw_now h)) rfl ?_
    refine pr_callV dX7_restore_40 oX_X7_recorded lk_RX7_48 (sp_recorded h ((congrFun (Cpy_fr hc2 (by omega)).1 1).trans ((congrFun (Cpy_fr hc (by omega)).1 1).trans ho)) ho4 ((congrFun (Cpy_fr hc2 (by omega)).1 2).trans ((congrFun (Cpy_fr hc (by omega)).1 2).trans hz)) hz4 (fun a ha => by rw [congrFun (Cpy_fr hc2 (by omega)).1 4, (hc.1.2.1 a ha).2.1]; exact hb a ha)) (tw_k h) rfl rfl (Nat.le_of_ble_eq_true rfl) (by decide) (fun v I3 F3 hq => ?_)
    have hv := hq.1
    subst hv
    exact pw_iret dX7_restore_43 rfl ⟨rfl, Or.inr ⟨c_4, I1, F1, I2, F2, hc, hc2, hq⟩⟩
  · refine pw_bipush (v := (-5)) dX7_restore_7 (by decide) ?_
    exact pw_iret dX7_restore_9 rfl ⟨rfl, Or.inl ⟨c_4, rfl, rfl, rfl⟩⟩

/-! orders followed -/
end
section
/-! what is told -/
def swV {α : Type} (w : Int32) (fs : List α) (d : α) : α := if 0 ≤ w.toInt ∧ w.toInt < fs.length then fs.getD w.toInt.toNat d else d
theorem swV_in {α : Type} {k : Nat} {fs : List α} {d : α} (h : k < fs.length) (h2 : fs.length < 100) : swV (nI k) fs d = fs.getD k d := by
  unfold swV
  rw [nI_toInt (by omega), if_pos ⟨by omega, by omega⟩]
  rfl
theorem swV_out {α : Type} {w : Int32} {fs : List α} {d : α} {hi : Nat} (h : w.toInt < 0 ∨ (hi : Int) < w.toInt) (h2 : fs.length ≤ hi + 1) : swV w fs d = d := by
  unfold swV
  rw [if_neg (by omega)]
theorem sw_cases (w : Int32) (hi : Nat) (h : hi < 100) : (∃ k, k ≤ hi ∧ w = nI k) ∨ (w.toInt < 0 ∨ (hi : Int) < w.toInt) := by
  by_cases h1 : w.toInt < 0
  · exact Or.inr (Or.inl h1)
  · by_cases h2 : (hi : Int) < w.toInt
    · exact Or.inr (Or.inr h2)
    · refine Or.inl ?_
      have h3 : (0 : Int32).toInt = 0 := by decide
      obtain ⟨j, hj, rfl⟩ := nI_of (x := w) (by rw [Int32.lt_iff_toInt_lt, h3]; omega)
      rw [nI_toInt hj] at h2
      exact ⟨j, by omega, rfl⟩

def realV (F : pF) (I : pI) (p : Nat) (a w : Int32) : UInt32 := if 0 ≤ a ∧ a < I p 4 then swV w [F (p + 5 + a.toNatClampNeg) 2, F (p + 5 + a.toNatClampNeg) 3, F (p + 5 + a.toNatClampNeg) 1] 2143289344 else 2143289344
def healthInV (F : pF) (I : pI) (p : Nat) (a w : Int32) : UInt32 := if (0 ≤ a ∧ a < I p 4) ∧ (0 ≤ w ∧ w ≤ 200) then wornN (F (p + 5 + a.toNatClampNeg) 1) w.toNatClampNeg (F (p + 5 + a.toNatClampNeg) 2) else 2143289344
def hoursToV (F : pF) (I : pI) (p : Nat) (a w : Int32) : Int32 := if 0 ≤ a ∧ a < I p 4 then (if 1 ≤ w ∧ w ≤ 100 then untilB (F (p + 5 + a.toNatClampNeg) 1) (FP.fdiv (FP.i2f w) 1120403456) 201 0 (F (p + 5 + a.toNatClampNeg) 2) else -2) else -1
def atC (I : pI) (p n : Nat) (a f l : Int32) : Nat := cntT (fun t => decide (I (p + 18 + t) 0 = a) && decide (f ≤ I (p + 18 + t) 7 ∧ I (p + 18 + t) 7 ≤ l)) n
def ofC (I : pI) (p n : Nat) (a f l : Int32) : Nat := cntT (fun t => decide (I (p + 18 + t) 8 = a) && decide (f ≤ I (p + 18 + t) 7 ∧ I (p + 18 + t) 7 ≤ l)) n
def inC (I : pI) (p n : Nat) (f l : Int32) : Nat := cntT (fun t => decide (f ≤ I (p + 18 + t) 7 ∧ I (p + 18 + t) 7 ≤ l)) n
def slipsC (I : pI) (p n : Nat) : Int32 := sumT (fun t => I (p + 18 + t) 10) n
def allBusyC (I : pI) (p n : Nat) : Int32 := sumT (fun t => if decide (1 ≤ I (p + 18 + t) 7 ∧ I (p + 18 + t) 7 ≤ 3) = true then I (p + 18 + t) 2 else 0) n
def assetV (I : pI) (F : pF) (p n : Nat) (a w : Int32) : Int32 := if 0 ≤ a ∧ a < I p 4 then swV w [(if I (p + 5 + a.toNatClampNeg) 4 = 0 then 0 else 1), nI (tagsC I p n a), tagC I p n a 0, I (p + 5 + a.toNatClampNeg) 5, nI (atC I p n a 0 3), nI (atC I p n a 4 4), FP.f2i (FP.fmul (F (p + 5 + a.toNatClampNeg) 2) 1148846080), FP.f2i (F (p + 5 + a.toNatClampNeg) 3)] (-2) else -1
def tagAtV (I : pI) (p n : Nat) (a w : Int32) : Int32 := if 0 ≤ a ∧ a < I p 4 then (if 0 ≤ w then tagC I p n a w else -2) else -1
def crewV (I : pI) (p n : Nat) (a w : Int32) : Int32 := if 0 ≤ a ∧ a < I p 5 then swV w [I (p + 13 + a.toNatClampNeg) 0, I (p + 13 + a.toNatClampNeg) 1, busyC I p n a, nI (ofC I p n a 1 3), nI (ofC I p n a 4 4)] (-2) else -1
def taskV (I : pI) (p n : Nat) (a w : Int32) : Int32 := if 0 ≤ a ∧ a < I p 6 then swV w [I (p + 18 + a.toNatClampNeg) 0, I (p + 18 + a.toNatClampNeg) 7, I (p + 18 + a.toNatClampNeg) 1, I (p + 18 + a.toNatClampNeg) 2, I (p + 18 + a.toNatClampNeg) 3, I (p + 18 + a.toNatClampNeg) 4, I (p + 18 + a.toNatClampNeg) 5, I (p + 18 + a.toNatClampNeg) 6, I (p + 18 + a.toNatClampNeg) 8, (if I (p + 18 + a.toNatClampNeg) 7 = 2 then I (p + 18 + a.toNatClampNeg) 9 else -5), I (p + 18 + a.toNatClampNeg) 10, reasC I p n a.toNatClampNeg (I (p + 18 + a.toNatClampNeg) 3).toNatClampNeg (I (p + 18 + a.toNatClampNeg) 0).toNatClampNeg, barrC I p n a.toNatClampNeg (I (p + 18 + a.toNatClampNeg) 3).toNatClampNeg (I (p + 18 + a.toNatClampNeg) 0).toNatClampNeg] (-2) else -1
def crewForV (I : pI) (p nC n : Nat) (a : Int32) : Int32 := if 0 ≤ a ∧ a < I p 6 then crewC I p nC n a.toNatClampNeg else -1
def countV (I : pI) (x nA n : Nat) (w : Int32) : Int32 := swV w [I (x + 1) 7, I (x + 1) 4, nI (runsC I (x + 1) nA), I (x + 1) 5, I (x + 1) 6, nI (inC I (x + 1) n (w - 5) (w - 5)), nI (inC I (x + 1) n (w - 5) (w - 5)), nI (inC I (x + 1) n (w - 5) (w - 5)), nI (inC I (x + 1) n (w - 5) (w - 5)), nI (inC I (x + 1) n (w - 5) (w - 5)), nI (inC I (x + 1) n (w - 5) (w - 5)), nI (inC I (x + 1) n (w - 5) (w - 5)), nI (inC I (x + 1) n 1 3), slipsC I (x + 1) n, allBusyC I (x + 1) n, I (x + 127) 2, I (x + 297) 1] (-2)

set_option maxRecDepth 4000 in
theorem sp_x_real {σ : pT} {I : pI} {F : pF} {x nA : Nat} {a w : Int32} (h : isTW σ x) (hA : I (x + 1) 4 = nI nA) (hA8 : nA ≤ 8)  : PE yX7_real cX7_real mX7_real [.ref x, .int a, .int w] σ I F (some (.float (realV F I (x + 1) a w))) I F := by
  refine PE.of oP_X7_real (catOK rfl) (Nat.le_of_ble_eq_true rfl) ?_
  show PW _ _ _ 0 [.ref x, .int a, .int w, pJ] [] _ _ _ _
  refine pw_aload_n dX7_real_0 rfl rfl ?_
  refine pw_getR (x := (x + 1)) dX7_real_1 fd_RX7_10 (by decide) (tw_k h) rfl (tw_r0 h) ?_
  refine pw_iload_n dX7_real_4 rfl rfl ?_
  refine pe_callVi dX7_real_5 oX_X5_hasAsset lk_RX7_117 (sp_hasAsset (tw_now h)) (pl_k (tw_now h)) rfl rfl (Nat.le_of_ble_eq_true rfl) (by decide) ?_
  refine pw_ifB_ne (tgt := 14) dX7_real_8 (by decide) (fun c_8 => ?_) (fun c_8 => ?_)
  · obtain ⟨i, hi, rfl⟩ := has_nat c_8 hA (by omega)
    refine pw_aload_n dX7_real_14 rfl rfl ?_
    refine pw_getR (x := (x + 1)) dX7_real_15 fd_RX7_10 (by decide) (tw_k h) rfl (tw_r0 h) ?_
    refine pw_getR (x := ((x + 1) + 1)) dX7_real_18 fd_RX7_122 (by decide) (pl_k (tw_now h)) rfl (pl_rA (tw_now h)) ?_
    refine pw_iload_n dX7_real_21 rfl rfl ?_
    refine pw_aaldN (j := i) (x := ((x + 1) + 5 + i)) dX7_real_22 (pl_kA (tw_now h)) (by omega) (by decide) (by decide) (pl_eA (tw_now h) (by omega)) ?_
    refine pw_astore_n dX7_real_23 rfl (by decide) rfl ?_
    refine pw_iload_n dX7_real_24 rfl rfl ?_
    rcases sw_cases w 2 (by decide) with ⟨kw, hkw, rfl⟩ | hout
    · rcases (show kw = 0 ∨ kw = 1 ∨ kw = 2 by omega) with rfl | rfl | rfl
      · refine pw_tableIn (x := nI 0) (off := 27) (tgt := 52) dX7_real_25 (by decide) (by decide) (by decide) (by decide) ?_
        refine pw_aload_n dX7_real_52 rfl rfl ?_
        refine pw_getF dX7_real_53 fd_RX7_126 (by decide) (pl_oA (tw_now h) (by omega)) rfl ?_
        exact pw_fret dX7_real_56 rfl ⟨by rw [realV, if_pos (of_decide_eq_true c_8), nI_clamp (show i < 2 ^ 31 by omega), swV_in (Nat.le_of_ble_eq_true rfl) (Nat.le_of_ble_eq_true rfl)]; rfl, rfl, rfl, rfl⟩
      · refine pw_tableIn (x := nI 1) (off := 32) (tgt := 57) dX7_real_25 (by decide) (by decide) (by decide) (by decide) ?_
        refine pw_aload_n dX7_real_57 rfl rfl ?_
        refine pw_getF dX7_real_58 fd_RX7_132 (by decide) (pl_oA (tw_now h) (by omega)) rfl ?_
        exact pw_fret dX7_real_61 rfl ⟨by rw [realV, if_pos (of_decide_eq_true c_8), nI_clamp (show i < 2 ^ 31 by omega), swV_in (Nat.le_of_ble_eq_true rfl) (Nat.le_of_ble_eq_true rfl)]; rfl, rfl, rfl, rfl⟩
      · refine pw_tableIn (x := nI 2) (off := 37) (tgt := 62) dX7_real_25 (by decide) (by decide) (by decide) (by decide) ?_
        refine pw_aload_n dX7_real_62 rfl rfl ?_
        refine pw_getF dX7_real_63 fd_RX7_135 (by decide) (pl_oA (tw_now h) (by omega)) rfl ?_
        exact pw_fret dX7_real_66 rfl ⟨by rw [realV, if_pos (of_decide_eq_true c_8), nI_clamp (show i < 2 ^ 31 by omega), swV_in (Nat.le_of_ble_eq_true rfl) (Nat.le_of_ble_eq_true rfl)]; rfl, rfl, rfl, rfl⟩
    · refine pw_tableOut (tgt := 67) dX7_real_25 hout (by decide) ?_
      refine pw_ldcf dX7_real_67 kc_RX7_121 ?_
      exact pw_fret dX7_real_69 rfl ⟨by rw [realV, if_pos (of_decide_eq_true c_8), nI_clamp (show i < 2 ^ 31 by omega), swV_out hout (Nat.le_of_ble_eq_true rfl)], rfl, rfl, rfl⟩
  · refine pw_ldcf dX7_real_11 kc_RX7_121 ?_
    exact pw_fret dX7_real_13 rfl ⟨by rw [realV, if_neg (of_decide_eq_false c_8)], rfl, rfl, rfl⟩

set_option maxRecDepth 4000 in
theorem sp_x_hoursTo {σ : pT} {I : pI} {F : pF} {x nA : Nat} {a w : Int32} (h : isTW σ x) (hA : I (x + 1) 4 = nI nA) (hA8 : nA ≤ 8)  : PE yX7_hoursTo cX7_hoursTo mX7_hoursTo [.ref x, .int a, .int w] σ I F (some (.int (hoursToV F I (x + 1) a w))) I F := by
  refine PE.of oP_X7_hoursTo (catOK rfl) (Nat.le_of_ble_eq_true rfl) ?_
  show PW _ _ _ 0 [.ref x, .int a, .int w] [] _ _ _ _
  refine pw_aload_n dX7_hoursTo_0 rfl rfl ?_
  refine pw_getR (x := (x + 1)) dX7_hoursTo_1 fd_RX7_10 (by decide) (tw_k h) rfl (tw_r0 h) ?_
  refine pw_iload_n dX7_hoursTo_4 rfl rfl ?_
  refine pe_callVi dX7_hoursTo_5 oX_X5_hasAsset lk_RX7_117 (sp_hasAsset (tw_now h)) (pl_k (tw_now h)) rfl rfl (Nat.le_of_ble_eq_true rfl) (by decide) ?_
  refine pw_ifB_ne (tgt := 13) dX7_hoursTo_8 (by decide) (fun c_8 => ?_) (fun c_8 => ?_)
  · obtain ⟨i, hi, rfl⟩ := has_nat c_8 hA (by omega)
    refine pw_iload_n dX7_hoursTo_13 rfl rfl ?_
    refine pw_iconst (v := 1) dX7_hoursTo_14 (by decide) ?_
    refine pw_bipush (v := 100) dX7_hoursTo_15 (by decide) ?_
    refine pe_callSi dX7_hoursTo_17 oX_X7_within lk_RX7_138 sp_within rfl rfl (Nat.le_of_ble_eq_true rfl) (by decide) ?_
    refine pw_ifB_ne (tgt := 26) dX7_hoursTo_20 (by decide) (fun c_20 => ?_) (fun c_20 => ?_)
    · refine pw_aload_n dX7_hoursTo_26 rfl rfl ?_
      refine pw_getR (x := (x + 1)) dX7_hoursTo_27 fd_RX7_10 (by decide) (tw_k h) rfl (tw_r0 h) ?_
      refine pw_getR (x := ((x + 1) + 1)) dX7_hoursTo_30 fd_RX7_122 (by decide) (pl_k (tw_now h)) rfl (pl_rA (tw_now h)) ?_
      refine pw_iload_n dX7_hoursTo_33 rfl rfl ?_
      refine pw_aaldN (j := i) (x := ((x + 1) + 5 + i)) dX7_hoursTo_34 (pl_kA (tw_now h)) (by omega) (by decide) (by decide) (pl_eA (tw_now h) (by omega)) ?_
      refine pw_iload_n dX7_hoursTo_35 rfl rfl ?_
      refine pw_i2f dX7_hoursTo_36 ?_
      refine pw_ldcf dX7_hoursTo_37 kc_RX7_146 ?_
      refine pw_fdiv dX7_hoursTo_39 ?_
      refine pe_callVi dX7_hoursTo_40 oX_X0_hoursUntilBelow lk_RX7_147 (sp_hoursUntil (pl_oA (tw_now h) (by omega))) (pl_oA (tw_now h) (by omega)) rfl rfl (Nat.le_of_ble_eq_true rfl) (by decide) ?_
      exact pw_iret dX7_hoursTo_43 rfl ⟨by rw [hoursToV, if_pos (of_decide_eq_true c_8), if_pos (of_decide_eq_true c_20), nI_clamp (show i < 2 ^ 31 by omega)], rfl, rfl, rfl⟩
    · refine pw_bipush (v := (-2)) dX7_hoursTo_23 (by decide) ?_
      exact pw_iret dX7_hoursTo_25 rfl ⟨by rw [hoursToV, if_pos (of_decide_eq_true c_8), if_neg (of_decide_eq_false c_20)], rfl, rfl, rfl⟩
  · refine pw_iconst (v := (-1)) dX7_hoursTo_11 (by decide) ?_
    exact pw_iret dX7_hoursTo_12 rfl ⟨by rw [hoursToV, if_neg (of_decide_eq_false c_8)], rfl, rfl, rfl⟩

set_option maxRecDepth 4000 in
theorem sp_x_asset {σ : pT} {I : pI} {F : pF} {x nA n : Nat} {a w : Int32} (h : isTW σ x) (hA : I (x + 1) 4 = nI nA) (hA8 : nA ≤ 8) (hn : I (x + 1) 6 = nI n) (hn4 : n ≤ 24)  : PE yX7_asset cX7_asset mX7_asset [.ref x, .int a, .int w] σ I F (some (.int (assetV I F (x + 1) n a w))) I F := by
  refine PE.of oP_X7_asset (catOK rfl) (Nat.le_of_ble_eq_true rfl) ?_
  show PW _ _ _ 0 [.ref x, .int a, .int w, pJ] [] _ _ _ _
  refine pw_aload_n dX7_asset_0 rfl rfl ?_
  refine pw_getR (x := (x + 1)) dX7_asset_1 fd_RX7_10 (by decide) (tw_k h) rfl (tw_r0 h) ?_
  refine pw_iload_n dX7_asset_4 rfl rfl ?_
  refine pe_callVi dX7_asset_5 oX_X5_hasAsset lk_RX7_117 (sp_hasAsset (tw_now h)) (pl_k (tw_now h)) rfl rfl (Nat.le_of_ble_eq_true rfl) (by decide) ?_
  refine pw_ifB_ne (tgt := 13) dX7_asset_8 (by decide) (fun c_8 => ?_) (fun c_8 => ?_)
  · obtain ⟨i, hi, rfl⟩ := has_nat c_8 hA (by omega)
    refine pw_aload_n dX7_asset_13 rfl rfl ?_
    refine pw_getR (x := (x + 1)) dX7_asset_14 fd_RX7_10 (by decide) (tw_k h) rfl (tw_r0 h) ?_
    refine pw_getR (x := ((x + 1) + 1)) dX7_asset_17 fd_RX7_122 (by decide) (pl_k (tw_now h)) rfl (pl_rA (tw_now h)) ?_
    refine pw_iload_n dX7_asset_20 rfl rfl ?_
    refine pw_aaldN (j := i) (x := ((x + 1) + 5 + i)) dX7_asset_21 (pl_kA (tw_now h)) (by omega) (by decide) (by decide) (pl_eA (tw_now h) (by omega)) ?_
    refine pw_astore_n dX7_asset_22 rfl (by decide) rfl ?_
    refine pw_iload_n dX7_asset_23 rfl rfl ?_
    rcases sw_cases w 7 (by decide) with ⟨kw, hkw, rfl⟩ | hout
    · rcases (show kw = 0 ∨ kw = 1 ∨ kw = 2 ∨ kw = 3 ∨ kw = 4 ∨ kw = 5 ∨ kw = 6 ∨ kw = 7 by omega) with rfl | rfl | rfl | rfl | rfl | rfl | rfl | rfl
      · refine pw_tableIn (x := nI 0) (off := 48) (tgt := 72) dX7_asset_24 (by decide) (by decide) (by decide) (by decide) ?_
        refine pw_aload_n dX7_asset_72 rfl rfl ?_
        refine pw_getI dX7_asset_73 fd_RX7_151 (by decide) (pl_oA (tw_now h) (by omega)) rfl ?_
        refine pw_if_eq (tgt := 83) dX7_asset_76 (by decide) (fun c_76 => ?_) (fun c_76 => ?_)
        · refine pw_iconst (v := 0) dX7_asset_83 (by decide) ?_
          exact pw_iret dX7_asset_84 rfl ⟨by rw [assetV, if_pos (of_decide_eq_true c_8), nI_clamp (show i < 2 ^ 31 by omega), swV_in (Nat.le_of_ble_eq_true rfl) (Nat.le_of_ble_eq_true rfl)]; simp [c_76], rfl, rfl, rfl⟩
        · refine pw_iconst (v := 1) dX7_asset_79 (by decide) ?_
          refine pw_goto (tgt := 84) dX7_asset_80 (by decide) ?_
          exact pw_iret dX7_asset_84 rfl ⟨by rw [assetV, if_pos (of_decide_eq_true c_8), nI_clamp (show i < 2 ^ 31 by omega), swV_in (Nat.le_of_ble_eq_true rfl) (Nat.le_of_ble_eq_true rfl)]; simp [c_76], rfl, rfl, rfl⟩
      · refine pw_tableIn (x := nI 1) (off := 61) (tgt := 85) dX7_asset_24 (by decide) (by decide) (by decide) (by decide) ?_
        refine pw_aload_n dX7_asset_85 rfl rfl ?_
        refine pw_getR (x := (x + 1)) dX7_asset_86 fd_RX7_10 (by decide) (tw_k h) rfl (tw_r0 h) ?_
        refine pw_iload_n dX7_asset_89 rfl rfl ?_
        refine pe_callVi dX7_asset_90 oX_X5_tagsHanging lk_RX7_154 (sp_tagsHanging (tw_now h) hn hn4) (pl_k (tw_now h)) rfl rfl (Nat.le_of_ble_eq_true rfl) (by decide) ?_
        exact pw_iret dX7_asset_93 rfl ⟨by rw [assetV, if_pos (of_decide_eq_true c_8), nI_clamp (show i < 2 ^ 31 by omega), swV_in (Nat.le_of_ble_eq_true rfl) (Nat.le_of_ble_eq_true rfl)]; rfl, rfl, rfl, rfl⟩
      · refine pw_tableIn (x := nI 2) (off := 70) (tgt := 94) dX7_asset_24 (by decide) (by decide) (by decide) (by decide) ?_
        refine pw_aload_n dX7_asset_94 rfl rfl ?_
        refine pw_getR (x := (x + 1)) dX7_asset_95 fd_RX7_10 (by decide) (tw_k h) rfl (tw_r0 h) ?_
        refine pw_iload_n dX7_asset_98 rfl rfl ?_
        refine pw_iconst (v := 0) dX7_asset_99 (by decide) ?_
        refine pe_callVi dX7_asset_100 oX_X5_taskOfTag lk_RX7_157 (sp_taskOfTag (tw_now h) hn hn4) (pl_k (tw_now h)) rfl rfl (Nat.le_of_ble_eq_true rfl) (by decide) ?_
        exact pw_iret dX7_asset_103 rfl ⟨by rw [assetV, if_pos (of_decide_eq_true c_8), nI_clamp (show i < 2 ^ 31 by omega), swV_in (Nat.le_of_ble_eq_true rfl) (Nat.le_of_ble_eq_true rfl)]; rfl, rfl, rfl, rfl⟩
      · refine pw_tableIn (x := nI 3) (off := 80) (tgt := 104) dX7_asset_24 (by decide) (by decide) (by decide) (by decide) ?_
        refine pw_aload_n dX7_asset_104 rfl rfl ?_
        refine pw_getI dX7_asset_105 fd_RX7_160 (by decide) (pl_oA (tw_now h) (by omega)) rfl ?_
        exact pw_iret dX7_asset_108 rfl ⟨by rw [assetV, if_pos (of_decide_eq_true c_8), nI_clamp (show i < 2 ^ 31 by omega), swV_in (Nat.le_of_ble_eq_true rfl) (Nat.le_of_ble_eq_true rfl)]; rfl, rfl, rfl, rfl⟩
      · refine pw_tableIn (x := nI 4) (off := 85) (tgt := 109) dX7_asset_24 (by decide) (by decide) (by decide) (by decide) ?_
        refine pw_aload_n dX7_asset_109 rfl rfl ?_
        refine pw_getR (x := (x + 1)) dX7_asset_110 fd_RX7_10 (by decide) (tw_k h) rfl (tw_r0 h) ?_
        refine pw_iload_n dX7_asset_113 rfl rfl ?_
        refine pw_iconst (v := 0) dX7_asset_114 (by decide) ?_
        refine pw_iconst (v := 3) dX7_asset_115 (by decide) ?_
        refine pe_callVi dX7_asset_116 oX_X5_tasksOfAsset lk_RX7_163 (sp_tasksOfAsset (tw_now h) hn hn4) (pl_k (tw_now h)) rfl rfl (Nat.le_of_ble_eq_true rfl) (by decide) ?_
        exact pw_iret dX7_asset_119 rfl ⟨by rw [assetV, if_pos (of_decide_eq_true c_8), nI_clamp (show i < 2 ^ 31 by omega), swV_in (Nat.le_of_ble_eq_true rfl) (Nat.le_of_ble_eq_true rfl)]; rfl, rfl, rfl, rfl⟩
      · refine pw_tableIn (x := nI 5) (off := 96) (tgt := 120) dX7_asset_24 (by decide) (by decide) (by decide) (by decide) ?_
        refine pw_aload_n dX7_asset_120 rfl rfl ?_
        refine pw_getR (x := (x + 1)) dX7_asset_121 fd_RX7_10 (by decide) (tw_k h) rfl (tw_r0 h) ?_
        refine pw_iload_n dX7_asset_124 rfl rfl ?_
        refine pw_iconst (v := 4) dX7_asset_125 (by decide) ?_
        refine pw_iconst (v := 4) dX7_asset_126 (by decide) ?_
        refine pe_callVi dX7_asset_127 oX_X5_tasksOfAsset lk_RX7_163 (sp_tasksOfAsset (tw_now h) hn hn4) (pl_k (tw_now h)) rfl rfl (Nat.le_of_ble_eq_true rfl) (by decide) ?_
        exact pw_iret dX7_asset_130 rfl ⟨by rw [assetV, if_pos (of_decide_eq_true c_8), nI_clamp (show i < 2 ^ 31 by omega), swV_in (Nat.le_of_ble_eq_true rfl) (Nat.le_of_ble_eq_true rfl)]; rfl, rfl, rfl, rfl⟩
      · refine pw_tableIn (x := nI 6) (off := 107) (tgt := 131) dX7_asset_24 (by decide) (by decide) (by decide) (by decide) ?_
        refine pw_aload_n dX7_asset_131 rfl rfl ?_
        refine pw_getF dX7_asset_132 fd_RX7_126 (by decide) (pl_oA (tw_now h) (by omega)) rfl ?_
        refine pw_ldcf dX7_asset_135 kc_RX7_167 ?_
        refine pw_fmul dX7_asset_137 ?_
        refine pw_f2i dX7_asset_138 ?_
        exact pw_iret dX7_asset_139 rfl ⟨by rw [assetV, if_pos (of_decide_eq_true c_8), nI_clamp (show i < 2 ^ 31 by omega), swV_in (Nat.le_of_ble_eq_true rfl) (Nat.le_of_ble_eq_true rfl)]; rfl, rfl, rfl, rfl⟩
      · refine pw_tableIn (x := nI 7) (off := 116) (tgt := 140) dX7_asset_24 (by decide) (by decide) (by decide) (by decide) ?_
        refine pw_aload_n dX7_asset_140 rfl rfl ?_
        refine pw_getF dX7_asset_141 fd_RX7_132 (by decide) (pl_oA (tw_now h) (by omega)) rfl ?_
        refine pw_f2i dX7_asset_144 ?_
        exact pw_iret dX7_asset_145 rfl ⟨by rw [assetV, if_pos (of_decide_eq_true c_8), nI_clamp (show i < 2 ^ 31 by omega), swV_in (Nat.le_of_ble_eq_true rfl) (Nat.le_of_ble_eq_true rfl)]; rfl, rfl, rfl, rfl⟩
    · refine pw_tableOut (tgt := 146) dX7_asset_24 hout (by decide) ?_
      refine pw_bipush (v := (-2)) dX7_asset_146 (by decide) ?_
      exact pw_iret dX7_asset_148 rfl ⟨by rw [assetV, if_pos (of_decide_eq_true c_8), nI_clamp (show i < 2 ^ 31 by omega), swV_out hout (Nat.le_of_ble_eq_true rfl)], rfl, rfl, rfl⟩
  · refine pw_iconst (v := (-1)) dX7_asset_11 (by decide) ?_
    exact pw_iret dX7_asset_12 rfl ⟨by rw [assetV, if_neg (of_decide_eq_false c_8)], rfl, rfl, rfl⟩

set_option maxRecDepth 4000 in
theorem sp_x_tagAt {σ : pT} {I : pI} {F : pF} {x nA n : Nat} {a w : Int32} (h : isTW σ x) (hA : I (x + 1) 4 = nI nA) (hA8 : nA ≤ 8) (hn : I (x + 1) 6 = nI n) (hn4 : n ≤ 24)  : PE yX7_tagAt cX7_tagAt mX7_tagAt [.ref x, .int a, .int w] σ I F (some (.int (tagAtV I (x + 1) n a w))) I F := by
  refine PE.of oP_X7_tagAt (catOK rfl) (Nat.le_of_ble_eq_true rfl) ?_
  show PW _ _ _ 0 [.ref x, .int a, .int w] [] _ _ _ _
  refine pw_aload_n dX7_tagAt_0 rfl rfl ?_
  refine pw_getR (x := (x + 1)) dX7_tagAt_1 fd_RX7_10 (by decide) (tw_k h) rfl (tw_r0 h) ?_
  refine pw_iload_n dX7_tagAt_4 rfl rfl ?_
  refine pe_callVi dX7_tagAt_5 oX_X5_hasAsset lk_RX7_117 (sp_hasAsset (tw_now h)) (pl_k (tw_now h)) rfl rfl (Nat.le_of_ble_eq_true rfl) (by decide) ?_
  refine pw_ifB_ne (tgt := 13) dX7_tagAt_8 (by decide) (fun c_8 => ?_) (fun c_8 => ?_)
  · obtain ⟨i, hi, rfl⟩ := has_nat c_8 hA (by omega)
    refine pw_iload_n dX7_tagAt_13 rfl rfl ?_
    refine pw_if_ge (tgt := 20) dX7_tagAt_14 (by decide) (fun c_14 => ?_) (fun c_14 => ?_)
    · refine pw_aload_n dX7_tagAt_20 rfl rfl ?_
      refine pw_getR (x := (x + 1)) dX7_tagAt_21 fd_RX7_10 (by decide) (tw_k h) rfl (tw_r0 h) ?_
      refine pw_iload_n dX7_tagAt_24 rfl rfl ?_
      refine pw_iload_n dX7_tagAt_25 rfl rfl ?_
      refine pe_callVi dX7_tagAt_26 oX_X5_taskOfTag lk_RX7_157 (sp_taskOfTag (tw_now h) hn hn4) (pl_k (tw_now h)) rfl rfl (Nat.le_of_ble_eq_true rfl) (by decide) ?_
      exact pw_iret dX7_tagAt_29 rfl ⟨by rw [tagAtV, if_pos (of_decide_eq_true c_8), if_pos c_14], rfl, rfl, rfl⟩
    · refine pw_bipush (v := (-2)) dX7_tagAt_17 (by decide) ?_
      exact pw_iret dX7_tagAt_19 rfl ⟨by rw [tagAtV, if_pos (of_decide_eq_true c_8), if_neg c_14], rfl, rfl, rfl⟩
  · refine pw_iconst (v := (-1)) dX7_tagAt_11 (by decide) ?_
    exact pw_iret dX7_tagAt_12 rfl ⟨by rw [tagAtV, if_neg (of_decide_eq_false c_8)], rfl, rfl, rfl⟩

set_option maxRecDepth 4000 in
theorem sp_x_crew {σ : pT} {I : pI} {F : pF} {x nC n : Nat} {a w : Int32} (h : isTW σ x) (hC : I (x + 1) 5 = nI nC) (hC5 : nC ≤ 5) (hn : I (x + 1) 6 = nI n) (hn4 : n ≤ 24)  : PE yX7_crew cX7_crew mX7_crew [.ref x, .int a, .int w] σ I F (some (.int (crewV I (x + 1) n a w))) I F := by
  refine PE.of oP_X7_crew (catOK rfl) (Nat.le_of_ble_eq_true rfl) ?_
  show PW _ _ _ 0 [.ref x, .int a, .int w, pJ] [] _ _ _ _
  refine pw_aload_n dX7_crew_0 rfl rfl ?_
  refine pw_getR (x := (x + 1)) dX7_crew_1 fd_RX7_10 (by decide) (tw_k h) rfl (tw_r0 h) ?_
  refine pw_iload_n dX7_crew_4 rfl rfl ?_
  refine pe_callVi dX7_crew_5 oX_X5_hasCrew lk_RX7_168 (sp_hasCrew (tw_now h)) (pl_k (tw_now h)) rfl rfl (Nat.le_of_ble_eq_true rfl) (by decide) ?_
  refine pw_ifB_ne (tgt := 13) dX7_crew_8 (by decide) (fun c_8 => ?_) (fun c_8 => ?_)
  · obtain ⟨i, hi, rfl⟩ := has_nat c_8 hC (by omega)
    refine pw_aload_n dX7_crew_13 rfl rfl ?_
    refine pw_getR (x := (x + 1)) dX7_crew_14 fd_RX7_10 (by decide) (tw_k h) rfl (tw_r0 h) ?_
    refine pw_getR (x := ((x + 1) + 2)) dX7_crew_17 fd_RX7_171 (by decide) (pl_k (tw_now h)) rfl (pl_rC (tw_now h)) ?_
    refine pw_iload_n dX7_crew_20 rfl rfl ?_
    refine pw_aaldN (j := i) (x := ((x + 1) + 13 + i)) dX7_crew_21 (pl_kC (tw_now h)) (by omega) (by decide) (by decide) (pl_eC (tw_now h) (by omega)) ?_
    refine pw_astore_n dX7_crew_22 rfl (by decide) rfl ?_
    refine pw_iload_n dX7_crew_23 rfl rfl ?_
    rcases sw_cases w 4 (by decide) with ⟨kw, hkw, rfl⟩ | hout
    · rcases (show kw = 0 ∨ kw = 1 ∨ kw = 2 ∨ kw = 3 ∨ kw = 4 by omega) with rfl | rfl | rfl | rfl | rfl
      · refine pw_tableIn (x := nI 0) (off := 36) (tgt := 60) dX7_crew_24 (by decide) (by decide) (by decide) (by decide) ?_
        refine pw_aload_n dX7_crew_60 rfl rfl ?_
        refine pw_getI dX7_crew_61 fd_RX7_175 (by decide) (pl_oC (tw_now h) (by omega)) rfl ?_
        exact pw_iret dX7_crew_64 rfl ⟨by rw [crewV, if_pos (of_decide_eq_true c_8), nI_clamp (show i < 2 ^ 31 by omega), swV_in (Nat.le_of_ble_eq_true rfl) (Nat.le_of_ble_eq_true rfl)]; rfl, rfl, rfl, rfl⟩
      · refine pw_tableIn (x := nI 1) (off := 41) (tgt := 65) dX7_crew_24 (by decide) (by decide) (by decide) (by decide) ?_
        refine pw_aload_n dX7_crew_65 rfl rfl ?_
        refine pw_getI dX7_crew_66 fd_RX7_180 (by decide) (pl_oC (tw_now h) (by omega)) rfl ?_
        exact pw_iret dX7_crew_69 rfl ⟨by rw [crewV, if_pos (of_decide_eq_true c_8), nI_clamp (show i < 2 ^ 31 by omega), swV_in (Nat.le_of_ble_eq_true rfl) (Nat.le_of_ble_eq_true rfl)]; rfl, rfl, rfl, rfl⟩
      · refine pw_tableIn (x := nI 2) (off := 46) (tgt := 70) dX7_crew_24 (by decide) (by decide) (by decide) (by decide) ?_
        refine pw_aload_n dX7_crew_70 rfl rfl ?_
        refine pw_getR (x := (x + 1)) dX7_crew_71 fd_RX7_10 (by decide) (tw_k h) rfl (tw_r0 h) ?_
        refine pw_iload_n dX7_crew_74 rfl rfl ?_
        refine pe_callVi dX7_crew_75 oX_X5_busyPeople lk_RX7_183 (sp_busyC (tw_now h) hn hn4) (pl_k (tw_now h)) rfl rfl (Nat.le_of_ble_eq_true rfl) (by decide) ?_
        exact pw_iret dX7_crew_78 rfl ⟨by rw [crewV, if_pos (of_decide_eq_true c_8), nI_clamp (show i < 2 ^ 31 by omega), swV_in (Nat.le_of_ble_eq_true rfl) (Nat.le_of_ble_eq_true rfl)]; rfl, rfl, rfl, rfl⟩
      · refine pw_tableIn (x := nI 3) (off := 55) (tgt := 79) dX7_crew_24 (by decide) (by decide) (by decide) (by decide) ?_
        refine pw_aload_n dX7_crew_79 rfl rfl ?_
        refine pw_getR (x := (x + 1)) dX7_crew_80 fd_RX7_10 (by decide) (tw_k h) rfl (tw_r0 h) ?_
        refine pw_iload_n dX7_crew_83 rfl rfl ?_
        refine pw_iconst (v := 1) dX7_crew_84 (by decide) ?_
        refine pw_iconst (v := 3) dX7_crew_85 (by decide) ?_
        refine pe_callVi dX7_crew_86 oX_X5_tasksOfCrew lk_RX7_186 (sp_tasksOfCrew (tw_now h) hn hn4) (pl_k (tw_now h)) rfl rfl (Nat.le_of_ble_eq_true rfl) (by decide) ?_
        exact pw_iret dX7_crew_89 rfl ⟨by rw [crewV, if_pos (of_decide_eq_true c_8), nI_clamp (show i < 2 ^ 31 by omega), swV_in (Nat.le_of_ble_eq_true rfl) (Nat.le_of_ble_eq_true rfl)]; rfl, rfl, rfl, rfl⟩
      · refine pw_tableIn (x := nI 4) (off := 66) (tgt := 90) dX7_crew_24 (by decide) (by decide) (by decide) (by decide) ?_
        refine pw_aload_n dX7_crew_90 rfl rfl ?_
        refine pw_getR (x := (x + 1)) dX7_crew_91 fd_RX7_10 (by decide) (tw_k h) rfl (tw_r0 h) ?_
        refine pw_iload_n dX7_crew_94 rfl rfl ?_
        refine pw_iconst (v := 4) dX7_crew_95 (by decide) ?_
        refine pw_iconst (v := 4) dX7_crew_96 (by decide) ?_
        refine pe_callVi dX7_crew_97 oX_X5_tasksOfCrew lk_RX7_186 (sp_tasksOfCrew (tw_now h) hn hn4) (pl_k (tw_now h)) rfl rfl (Nat.le_of_ble_eq_true rfl) (by decide) ?_
        exact pw_iret dX7_crew_100 rfl ⟨by rw [crewV, if_pos (of_decide_eq_true c_8), nI_clamp (show i < 2 ^ 31 by omega), swV_in (Nat.le_of_ble_eq_true rfl) (Nat.le_of_ble_eq_true rfl)]; rfl, rfl, rfl, rfl⟩
    · refine pw_tableOut (tgt := 101) dX7_crew_24 hout (by decide) ?_
      refine pw_bipush (v := (-2)) dX7_crew_101 (by decide) ?_
      exact pw_iret dX7_crew_103 rfl ⟨by rw [crewV, if_pos (of_decide_eq_true c_8), nI_clamp (show i < 2 ^ 31 by omega), swV_out hout (Nat.le_of_ble_eq_true rfl)], rfl, rfl, rfl⟩
  · refine pw_iconst (v := (-1)) dX7_crew_11 (by decide) ?_
    exact pw_iret dX7_crew_12 rfl ⟨by rw [crewV, if_neg (of_decide_eq_false c_8)], rfl, rfl, rfl⟩

set_option maxRecDepth 4000 in
theorem sp_x_task {σ : pT} {I : pI} {F : pF} {x nA n : Nat} {a w : Int32} (h : isTW σ x) (hA : I (x + 1) 4 = nI nA) (hA8 : nA ≤ 8) (hn : I (x + 1) 6 = nI n) (hn4 : n ≤ 24) (hW : ∀ t, t < n → ∃ a, a < nA ∧ I (x + 1 + 18 + t) 0 = nI a) (hKd : ∀ t, t < n → ∃ k, k < 5 ∧ I (x + 1 + 18 + t) 3 = nI k)  : PE yX7_task cX7_task mX7_task [.ref x, .int a, .int w] σ I F (some (.int (taskV I (x + 1) n a w))) I F := by
  refine PE.of oP_X7_task (catOK rfl) (Nat.le_of_ble_eq_true rfl) ?_
  show PW _ _ _ 0 [.ref x, .int a, .int w, pJ] [] _ _ _ _
  refine pw_aload_n dX7_task_0 rfl rfl ?_
  refine pw_getR (x := (x + 1)) dX7_task_1 fd_RX7_10 (by decide) (tw_k h) rfl (tw_r0 h) ?_
  refine pw_iload_n dX7_task_4 rfl rfl ?_
  refine pe_callVi dX7_task_5 oX_X5_hasTask lk_RX7_189 (sp_hasTask (tw_now h)) (pl_k (tw_now h)) rfl rfl (Nat.le_of_ble_eq_true rfl) (by decide) ?_
  refine pw_ifB_ne (tgt := 13) dX7_task_8 (by decide) (fun c_8 => ?_) (fun c_8 => ?_)
  · obtain ⟨i, hi, rfl⟩ := has_nat c_8 hn (by omega)
    obtain ⟨at_, haA, hat⟩ := hW i hi
    obtain ⟨kt, hk5, hkd⟩ := hKd i hi
    refine pw_aload_n dX7_task_13 rfl rfl ?_
    refine pw_getR (x := (x + 1)) dX7_task_14 fd_RX7_10 (by decide) (tw_k h) rfl (tw_r0 h) ?_
    refine pw_getR (x := ((x + 1) + 3)) dX7_task_17 fd_RX7_192 (by decide) (pl_k (tw_now h)) rfl (pl_rT (tw_now h)) ?_
    refine pw_iload_n dX7_task_20 rfl rfl ?_
    refine pw_aaldN (j := i) (x := ((x + 1) + 18 + i)) dX7_task_21 (pl_kT (tw_now h)) (by omega) (by decide) (by decide) (pl_eT (tw_now h) (by omega)) ?_
    refine pw_astore_n dX7_task_22 rfl (by decide) rfl ?_
    refine pw_iload_n dX7_task_23 rfl rfl ?_
    rcases sw_cases w 12 (by decide) with ⟨kw, hkw, rfl⟩ | hout
    · rcases (show kw = 0 ∨ kw = 1 ∨ kw = 2 ∨ kw = 3 ∨ kw = 4 ∨ kw = 5 ∨ kw = 6 ∨ kw = 7 ∨ kw = 8 ∨ kw = 9 ∨ kw = 10 ∨ kw = 11 ∨ kw = 12 by omega) with rfl | rfl | rfl | rfl | rfl | rfl | rfl | rfl | rfl | rfl | rfl | rfl | rfl
      · refine pw_tableIn (x := nI 0) (off := 68) (tgt := 92) dX7_task_24 (by decide) (by decide) (by decide) (by decide) ?_
        refine pw_aload_n dX7_task_92 rfl rfl ?_
        refine pw_getI dX7_task_93 fd_RX7_196 (by decide) (pl_oT (tw_now h) (by omega)) rfl ?_
        exact pw_iret dX7_task_96 rfl ⟨by rw [taskV, if_pos (of_decide_eq_true c_8), nI_clamp (show i < 2 ^ 31 by omega), swV_in (Nat.le_of_ble_eq_true rfl) (Nat.le_of_ble_eq_true rfl)]; rfl, rfl, rfl, rfl⟩
      · refine pw_tableIn (x := nI 1) (off := 73) (tgt := 97) dX7_task_24 (by decide) (by decide) (by decide) (by decide) ?_
        refine pw_aload_n dX7_task_97 rfl rfl ?_
        refine pw_getI dX7_task_98 fd_RX7_201 (by decide) (pl_oT (tw_now h) (by omega)) rfl ?_
        exact pw_iret dX7_task_101 rfl ⟨by rw [taskV, if_pos (of_decide_eq_true c_8), nI_clamp (show i < 2 ^ 31 by omega), swV_in (Nat.le_of_ble_eq_true rfl) (Nat.le_of_ble_eq_true rfl)]; rfl, rfl, rfl, rfl⟩
      · refine pw_tableIn (x := nI 2) (off := 78) (tgt := 102) dX7_task_24 (by decide) (by decide) (by decide) (by decide) ?_
        refine pw_aload_n dX7_task_102 rfl rfl ?_
        refine pw_getI dX7_task_103 fd_RX7_204 (by decide) (pl_oT (tw_now h) (by omega)) rfl ?_
        exact pw_iret dX7_task_106 rfl ⟨by rw [taskV, if_pos (of_decide_eq_true c_8), nI_clamp (show i < 2 ^ 31 by omega), swV_in (Nat.le_of_ble_eq_true rfl) (Nat.le_of_ble_eq_true rfl)]; rfl, rfl, rfl, rfl⟩
      · refine pw_tableIn (x := nI 3) (off := 83) (tgt := 107) dX7_task_24 (by decide) (by decide) (by decide) (by decide) ?_
        refine pw_aload_n dX7_task_107 rfl rfl ?_
        refine pw_getI dX7_task_108 fd_RX7_207 (by decide) (pl_oT (tw_now h) (by omega)) rfl ?_
        exact pw_iret dX7_task_111 rfl ⟨by rw [taskV, if_pos (of_decide_eq_true c_8), nI_clamp (show i < 2 ^ 31 by omega), swV_in (Nat.le_of_ble_eq_true rfl) (Nat.le_of_ble_eq_true rfl)]; rfl, rfl, rfl, rfl⟩
      · refine pw_tableIn (x := nI 4) (off := 88) (tgt := 112) dX7_task_24 (by decide) (by decide) (by decide) (by decide) ?_
        refine pw_aload_n dX7_task_112 rfl rfl ?_
        refine pw_getI dX7_task_113 fd_RX7_208 (by decide) (pl_oT (tw_now h) (by omega)) rfl ?_
        exact pw_iret dX7_task_116 rfl ⟨by rw [taskV, if_pos (of_decide_eq_true c_8), nI_clamp (show i < 2 ^ 31 by omega), swV_in (Nat.le_of_ble_eq_true rfl) (Nat.le_of_ble_eq_true rfl)]; rfl, rfl, rfl, rfl⟩
      · refine pw_tableIn (x := nI 5) (off := 93) (tgt := 117) dX7_task_24 (by decide) (by decide) (by decide) (by decide) ?_
        refine pw_aload_n dX7_task_117 rfl rfl ?_
        refine pw_getI dX7_task_118 fd_RX7_211 (by decide) (pl_oT (tw_now h) (by omega)) rfl ?_
        exact pw_iret dX7_task_121 rfl ⟨by rw [taskV, if_pos (of_decide_eq_true c_8), nI_clamp (show i < 2 ^ 31 by omega), swV_in (Nat.le_of_ble_eq_true rfl) (Nat.le_of_ble_eq_true rfl)]; rfl, rfl, rfl, rfl⟩
      · refine pw_tableIn (x := nI 6) (off := 98) (tgt := 122) dX7_task_24 (by decide) (by decide) (by decide) (by decide) ?_
        refine pw_aload_n dX7_task_122 rfl rfl ?_
        refine pw_getI dX7_task_123 fd_RX7_214 (by decide) (pl_oT (tw_now h) (by omega)) rfl ?_
        exact pw_iret dX7_task_126 rfl ⟨by rw [taskV, if_pos (of_decide_eq_true c_8), nI_clamp (show i < 2 ^ 31 by omega), swV_in (Nat.le_of_ble_eq_true rfl) (Nat.le_of_ble_eq_true rfl)]; rfl, rfl, rfl, rfl⟩
      · refine pw_tableIn (x := nI 7) (off := 103) (tgt := 127) dX7_task_24 (by decide) (by decide) (by decide) (by decide) ?_
        refine pw_aload_n dX7_task_127 rfl rfl ?_
        refine pw_getI dX7_task_128 fd_RX7_217 (by decide) (pl_oT (tw_now h) (by omega)) rfl ?_
        exact pw_iret dX7_task_131 rfl ⟨by rw [taskV, if_pos (of_decide_eq_true c_8), nI_clamp (show i < 2 ^ 31 by omega), swV_in (Nat.le_of_ble_eq_true rfl) (Nat.le_of_ble_eq_true rfl)]; rfl, rfl, rfl, rfl⟩
      · refine pw_tableIn (x := nI 8) (off := 108) (tgt := 132) dX7_task_24 (by decide) (by decide) (by decide) (by decide) ?_
        refine pw_aload_n dX7_task_132 rfl rfl ?_
        refine pw_getI dX7_task_133 fd_RX7_220 (by decide) (pl_oT (tw_now h) (by omega)) rfl ?_
        exact pw_iret dX7_task_136 rfl ⟨by rw [taskV, if_pos (of_decide_eq_true c_8), nI_clamp (show i < 2 ^ 31 by omega), swV_in (Nat.le_of_ble_eq_true rfl) (Nat.le_of_ble_eq_true rfl)]; rfl, rfl, rfl, rfl⟩
      · refine pw_tableIn (x := nI 9) (off := 113) (tgt := 137) dX7_task_24 (by decide) (by decide) (by decide) (by decide) ?_
        refine pw_aload_n dX7_task_137 rfl rfl ?_
        refine pw_getI dX7_task_138 fd_RX7_201 (by decide) (pl_oT (tw_now h) (by omega)) rfl ?_
        refine pw_iconst (v := 2) dX7_task_141 (by decide) ?_
        refine pw_icmp_ne (tgt := 152) dX7_task_142 (by decide) (fun c_142 => ?_) (fun c_142 => ?_)
        · refine pw_bipush (v := (-5)) dX7_task_152 (by decide) ?_
          exact pw_iret dX7_task_154 rfl ⟨by rw [taskV, if_pos (of_decide_eq_true c_8), nI_clamp (show i < 2 ^ 31 by omega), swV_in (Nat.le_of_ble_eq_true rfl) (Nat.le_of_ble_eq_true rfl)]; simp [c_142], rfl, rfl, rfl⟩
        · refine pw_aload_n dX7_task_145 rfl rfl ?_
          refine pw_getI dX7_task_146 fd_RX7_223 (by decide) (pl_oT (tw_now h) (by omega)) rfl ?_
          refine pw_goto (tgt := 154) dX7_task_149 (by decide) ?_
          exact pw_iret dX7_task_154 rfl ⟨by rw [taskV, if_pos (of_decide_eq_true c_8), nI_clamp (show i < 2 ^ 31 by omega), swV_in (Nat.le_of_ble_eq_true rfl) (Nat.le_of_ble_eq_true rfl)]; simp [c_142], rfl, rfl, rfl⟩
      · refine pw_tableIn (x := nI 10) (off := 131) (tgt := 155) dX7_task_24 (by decide) (by decide) (by decide) (by decide) ?_
        refine pw_aload_n dX7_task_155 rfl rfl ?_
        refine pw_getI dX7_task_156 fd_RX7_226 (by decide) (pl_oT (tw_now h) (by omega)) rfl ?_
        exact pw_iret dX7_task_159 rfl ⟨by rw [taskV, if_pos (of_decide_eq_true c_8), nI_clamp (show i < 2 ^ 31 by omega), swV_in (Nat.le_of_ble_eq_true rfl) (Nat.le_of_ble_eq_true rfl)]; rfl, rfl, rfl, rfl⟩
      · refine pw_tableIn (x := nI 11) (off := 136) (tgt := 160) dX7_task_24 (by decide) (by decide) (by decide) (by decide) ?_
        refine pw_aload_n dX7_task_160 rfl rfl ?_
        refine pw_getR (x := (x + 1)) dX7_task_161 fd_RX7_10 (by decide) (tw_k h) rfl (tw_r0 h) ?_
        refine pw_iload_n dX7_task_164 rfl rfl ?_
        refine pe_callVi dX7_task_165 oX_X5_reasonAgainst lk_RX7_229 (sp_reasonAgainst (tw_now h) hn hn4 hA hA8 hkd hk5 hat haA hi) (pl_k (tw_now h)) rfl rfl (Nat.le_of_ble_eq_true rfl) (by decide) ?_
        exact pw_iret dX7_task_168 rfl ⟨by rw [taskV, if_pos (of_decide_eq_true c_8), nI_clamp (show i < 2 ^ 31 by omega), swV_in (Nat.le_of_ble_eq_true rfl) (Nat.le_of_ble_eq_true rfl)]; rw [hkd, hat, nI_clamp (show kt < 2 ^ 31 by omega), nI_clamp (show at_ < 2 ^ 31 by omega)]; rfl, rfl, rfl, rfl⟩
      · refine pw_tableIn (x := nI 12) (off := 145) (tgt := 169) dX7_task_24 (by decide) (by decide) (by decide) (by decide) ?_
        refine pw_aload_n dX7_task_169 rfl rfl ?_
        refine pw_getR (x := (x + 1)) dX7_task_170 fd_RX7_10 (by decide) (tw_k h) rfl (tw_r0 h) ?_
        refine pw_iload_n dX7_task_173 rfl rfl ?_
        refine pe_callVi dX7_task_174 oX_X5_barrierOf lk_RX7_232 (sp_barrierOf (tw_now h) hn hn4 hA hA8 hkd hk5 hat haA hi) (pl_k (tw_now h)) rfl rfl (Nat.le_of_ble_eq_true rfl) (by decide) ?_
        exact pw_iret dX7_task_177 rfl ⟨by rw [taskV, if_pos (of_decide_eq_true c_8), nI_clamp (show i < 2 ^ 31 by omega), swV_in (Nat.le_of_ble_eq_true rfl) (Nat.le_of_ble_eq_true rfl)]; rw [hkd, hat, nI_clamp (show kt < 2 ^ 31 by omega), nI_clamp (show at_ < 2 ^ 31 by omega)]; rfl, rfl, rfl, rfl⟩
    · refine pw_tableOut (tgt := 178) dX7_task_24 hout (by decide) ?_
      refine pw_bipush (v := (-2)) dX7_task_178 (by decide) ?_
      exact pw_iret dX7_task_180 rfl ⟨by rw [taskV, if_pos (of_decide_eq_true c_8), nI_clamp (show i < 2 ^ 31 by omega), swV_out hout (Nat.le_of_ble_eq_true rfl)], rfl, rfl, rfl⟩
  · refine pw_iconst (v := (-1)) dX7_task_11 (by decide) ?_
    exact pw_iret dX7_task_12 rfl ⟨by rw [taskV, if_neg (of_decide_eq_false c_8)], rfl, rfl, rfl⟩

set_option maxRecDepth 4000 in
theorem sp_x_crewFor {σ : pT} {I : pI} {F : pF} {x nC n : Nat} {a : Int32} (h : isTW σ x) (hC : I (x + 1) 5 = nI nC) (hC5 : nC ≤ 5) (hn : I (x + 1) 6 = nI n) (hn4 : n ≤ 24)  : PE yX7_crewFor cX7_crewFor mX7_crewFor [.ref x, .int a] σ I F (some (.int (crewForV I (x + 1) nC n a))) I F := by
  refine PE.of oP_X7_crewFor (catOK rfl) (Nat.le_of_ble_eq_true rfl) ?_
  show PW _ _ _ 0 [.ref x, .int a] [] _ _ _ _
  refine pw_aload_n dX7_crewFor_0 rfl rfl ?_
  refine pw_getR (x := (x + 1)) dX7_crewFor_1 fd_RX7_10 (by decide) (tw_k h) rfl (tw_r0 h) ?_
  refine pw_iload_n dX7_crewFor_4 rfl rfl ?_
  refine pe_callVi dX7_crewFor_5 oX_X5_hasTask lk_RX7_189 (sp_hasTask (tw_now h)) (pl_k (tw_now h)) rfl rfl (Nat.le_of_ble_eq_true rfl) (by decide) ?_
  refine pw_ifB_ne (tgt := 13) dX7_crewFor_8 (by decide) (fun c_8 => ?_) (fun c_8 => ?_)
  · obtain ⟨i, hi, rfl⟩ := has_nat c_8 hn (by omega)
    refine pw_aload_n dX7_crewFor_13 rfl rfl ?_
    refine pw_getR (x := (x + 1)) dX7_crewFor_14 fd_RX7_10 (by decide) (tw_k h) rfl (tw_r0 h) ?_
    refine pw_iload_n dX7_crewFor_17 rfl rfl ?_
    refine pe_callVi dX7_crewFor_18 oX_X5_firstCrewFor lk_RX7_235 (sp_firstCrewFor (tw_now h) hn hn4 hC hC5 hi) (pl_k (tw_now h)) rfl rfl (Nat.le_of_ble_eq_true rfl) (by decide) ?_
    exact pw_iret dX7_crewFor_21 rfl ⟨by rw [crewForV, if_pos (of_decide_eq_true c_8), nI_clamp (show i < 2 ^ 31 by omega)], rfl, rfl, rfl⟩
  · refine pw_iconst (v := (-1)) dX7_crewFor_11 (by decide) ?_
    exact pw_iret dX7_crewFor_12 rfl ⟨by rw [crewForV, if_neg (of_decide_eq_false c_8)], rfl, rfl, rfl⟩

theorem cnt_no {w : Int32} (h : w.toInt < 0 ∨ (16 : Nat) < w.toInt) (h2 : 5 ≤ w ∧ w ≤ 11) : False := by
  obtain ⟨h3, h4⟩ := h2
  rw [Int32.le_iff_toInt_le] at h3 h4
  have h5 : (5 : Int32).toInt = 5 := by decide
  have h6 : (11 : Int32).toInt = 11 := by decide
  rw [h5] at h3
  rw [h6] at h4
  omega

set_option maxRecDepth 4000 in
theorem sp_x_count {σ : pT} {I : pI} {F : pF} {x nA n : Nat} {w : Int32} (h : isTW σ x) (hA : I (x + 1) 4 = nI nA) (hA8 : nA ≤ 8) (hn : I (x + 1) 6 = nI n) (hn4 : n ≤ 24)  : PE yX7_count cX7_count mX7_count [.ref x, .int w] σ I F (some (.int (countV I x nA n w))) I F := by
  refine PE.of oP_X7_count (catOK rfl) (Nat.le_of_ble_eq_true rfl) ?_
  show PW _ _ _ 0 [.ref x, .int w] [] _ _ _ _
  refine pw_iload_n dX7_count_0 rfl rfl ?_
  rcases sw_cases w 16 (by decide) with ⟨kw, hkw, rfl⟩ | hout
  · rcases (show kw = 0 ∨ kw = 1 ∨ kw = 2 ∨ kw = 3 ∨ kw = 4 ∨ kw = 5 ∨ kw = 6 ∨ kw = 7 ∨ kw = 8 ∨ kw = 9 ∨ kw = 10 ∨ kw = 11 ∨ kw = 12 ∨ kw = 13 ∨ kw = 14 ∨ kw = 15 ∨ kw = 16 by omega) with rfl | rfl | rfl | rfl | rfl | rfl | rfl | rfl | rfl | rfl | rfl | rfl | rfl | rfl | rfl | rfl | rfl
    · refine pw_tableIn (x := nI 0) (off := 83) (tgt := 84) dX7_count_1 (by decide) (by decide) (by decide) (by decide) ?_
      refine pw_aload_n dX7_count_84 rfl rfl ?_
      refine pw_getR (x := (x + 1)) dX7_count_85 fd_RX7_10 (by decide) (tw_k h) rfl (tw_r0 h) ?_
      refine pw_getI dX7_count_88 fd_RX7_114 (by decide) (pl_k (tw_now h)) rfl ?_
      exact pw_iret dX7_count_91 rfl ⟨by rw [countV, swV_in (Nat.le_of_ble_eq_true rfl) (Nat.le_of_ble_eq_true rfl)]; rfl, rfl, rfl, rfl⟩
    · refine pw_tableIn (x := nI 1) (off := 91) (tgt := 92) dX7_count_1 (by decide) (by decide) (by decide) (by decide) ?_
      refine pw_aload_n dX7_count_92 rfl rfl ?_
      refine pw_getR (x := (x + 1)) dX7_count_93 fd_RX7_10 (by decide) (tw_k h) rfl (tw_r0 h) ?_
      refine pw_getI dX7_count_96 fd_RX7_238 (by decide) (pl_k (tw_now h)) rfl ?_
      exact pw_iret dX7_count_99 rfl ⟨by rw [countV, swV_in (Nat.le_of_ble_eq_true rfl) (Nat.le_of_ble_eq_true rfl)]; rfl, rfl, rfl, rfl⟩
    · refine pw_tableIn (x := nI 2) (off := 99) (tgt := 100) dX7_count_1 (by decide) (by decide) (by decide) (by decide) ?_
      refine pw_aload_n dX7_count_100 rfl rfl ?_
      refine pw_getR (x := (x + 1)) dX7_count_101 fd_RX7_10 (by decide) (tw_k h) rfl (tw_r0 h) ?_
      refine pe_callVi dX7_count_104 oX_X5_assetsRunning lk_RX7_241 (sp_assetsRunning (tw_now h) hA hA8) (pl_k (tw_now h)) rfl rfl (Nat.le_of_ble_eq_true rfl) (by decide) ?_
      exact pw_iret dX7_count_107 rfl ⟨by rw [countV, swV_in (Nat.le_of_ble_eq_true rfl) (Nat.le_of_ble_eq_true rfl)]; rfl, rfl, rfl, rfl⟩
    · refine pw_tableIn (x := nI 3) (off := 107) (tgt := 108) dX7_count_1 (by decide) (by decide) (by decide) (by decide) ?_
      refine pw_aload_n dX7_count_108 rfl rfl ?_
      refine pw_getR (x := (x + 1)) dX7_count_109 fd_RX7_10 (by decide) (tw_k h) rfl (tw_r0 h) ?_
      refine pw_getI dX7_count_112 fd_RX7_244 (by decide) (pl_k (tw_now h)) rfl ?_
      exact pw_iret dX7_count_115 rfl ⟨by rw [countV, swV_in (Nat.le_of_ble_eq_true rfl) (Nat.le_of_ble_eq_true rfl)]; rfl, rfl, rfl, rfl⟩
    · refine pw_tableIn (x := nI 4) (off := 115) (tgt := 116) dX7_count_1 (by decide) (by decide) (by decide) (by decide) ?_
      refine pw_aload_n dX7_count_116 rfl rfl ?_
      refine pw_getR (x := (x + 1)) dX7_count_117 fd_RX7_10 (by decide) (tw_k h) rfl (tw_r0 h) ?_
      refine pw_getI dX7_count_120 fd_RX7_247 (by decide) (pl_k (tw_now h)) rfl ?_
      exact pw_iret dX7_count_123 rfl ⟨by rw [countV, swV_in (Nat.le_of_ble_eq_true rfl) (Nat.le_of_ble_eq_true rfl)]; rfl, rfl, rfl, rfl⟩
    · refine pw_tableIn (x := nI 5) (off := 165) (tgt := 166) dX7_count_1 (by decide) (by decide) (by decide) (by decide) ?_
      refine pw_iload_n dX7_count_166 rfl rfl ?_
      refine pw_iconst (v := 5) dX7_count_167 (by decide) ?_
      refine pw_bipush (v := 11) dX7_count_168 (by decide) ?_
      refine pe_callSi dX7_count_170 oX_X7_within lk_RX7_138 sp_within rfl rfl (Nat.le_of_ble_eq_true rfl) (by decide) ?_
      refine pw_ifB_eq (tgt := 190) dX7_count_173 (by decide) (fun c_173 => ?_) (fun c_173 => ?_)
      · refine pw_bipush (v := (-2)) dX7_count_190 (by decide) ?_
        exact pw_iret dX7_count_192 rfl ⟨absurd c_173 (by decide), rfl, rfl, rfl⟩
      · refine pw_aload_n dX7_count_176 rfl rfl ?_
        refine pw_getR (x := (x + 1)) dX7_count_177 fd_RX7_10 (by decide) (tw_k h) rfl (tw_r0 h) ?_
        refine pw_iload_n dX7_count_180 rfl rfl ?_
        refine pw_iconst (v := 5) dX7_count_181 (by decide) ?_
        refine pw_isub dX7_count_182 ?_
        refine pw_iload_n dX7_count_183 rfl rfl ?_
        refine pw_iconst (v := 5) dX7_count_184 (by decide) ?_
        refine pw_isub dX7_count_185 ?_
        refine pe_callVi dX7_count_186 oX_X5_tasksIn lk_RX7_250 (sp_tasksIn (tw_now h) hn hn4) (pl_k (tw_now h)) rfl rfl (Nat.le_of_ble_eq_true rfl) (by decide) ?_
        exact pw_iret dX7_count_189 rfl ⟨by rw [countV, swV_in (Nat.le_of_ble_eq_true rfl) (Nat.le_of_ble_eq_true rfl)]; rfl, rfl, rfl, rfl⟩
    · refine pw_tableIn (x := nI 6) (off := 165) (tgt := 166) dX7_count_1 (by decide) (by decide) (by decide) (by decide) ?_
      refine pw_iload_n dX7_count_166 rfl rfl ?_
      refine pw_iconst (v := 5) dX7_count_167 (by decide) ?_
      refine pw_bipush (v := 11) dX7_count_168 (by decide) ?_
      refine pe_callSi dX7_count_170 oX_X7_within lk_RX7_138 sp_within rfl rfl (Nat.le_of_ble_eq_true rfl) (by decide) ?_
      refine pw_ifB_eq (tgt := 190) dX7_count_173 (by decide) (fun c_173 => ?_) (fun c_173 => ?_)
      · refine pw_bipush (v := (-2)) dX7_count_190 (by decide) ?_
        exact pw_iret dX7_count_192 rfl ⟨absurd c_173 (by decide), rfl, rfl, rfl⟩
      · refine pw_aload_n dX7_count_176 rfl rfl ?_
        refine pw_getR (x := (x + 1)) dX7_count_177 fd_RX7_10 (by decide) (tw_k h) rfl (tw_r0 h) ?_
        refine pw_iload_n dX7_count_180 rfl rfl ?_
        refine pw_iconst (v := 5) dX7_count_181 (by decide) ?_
        refine pw_isub dX7_count_182 ?_
        refine pw_iload_n dX7_count_183 rfl rfl ?_
        refine pw_iconst (v := 5) dX7_count_184 (by decide) ?_
        refine pw_isub dX7_count_185 ?_
        refine pe_callVi dX7_count_186 oX_X5_tasksIn lk_RX7_250 (sp_tasksIn (tw_now h) hn hn4) (pl_k (tw_now h)) rfl rfl (Nat.le_of_ble_eq_true rfl) (by decide) ?_
        exact pw_iret dX7_count_189 rfl ⟨by rw [countV, swV_in (Nat.le_of_ble_eq_true rfl) (Nat.le_of_ble_eq_true rfl)]; rfl, rfl, rfl, rfl⟩
    · refine pw_tableIn (x := nI 7) (off := 165) (tgt := 166) dX7_count_1 (by decide) (by decide) (by decide) (by decide) ?_
      refine pw_iload_n dX7_count_166 rfl rfl ?_
      refine pw_iconst (v := 5) dX7_count_167 (by decide) ?_
      refine pw_bipush (v := 11) dX7_count_168 (by decide) ?_
      refine pe_callSi dX7_count_170 oX_X7_within lk_RX7_138 sp_within rfl rfl (Nat.le_of_ble_eq_true rfl) (by decide) ?_
      refine pw_ifB_eq (tgt := 190) dX7_count_173 (by decide) (fun c_173 => ?_) (fun c_173 => ?_)
      · refine pw_bipush (v := (-2)) dX7_count_190 (by decide) ?_
        exact pw_iret dX7_count_192 rfl ⟨absurd c_173 (by decide), rfl, rfl, rfl⟩
      · refine pw_aload_n dX7_count_176 rfl rfl ?_
        refine pw_getR (x := (x + 1)) dX7_count_177 fd_RX7_10 (by decide) (tw_k h) rfl (tw_r0 h) ?_
        refine pw_iload_n dX7_count_180 rfl rfl ?_
        refine pw_iconst (v := 5) dX7_count_181 (by decide) ?_
        refine pw_isub dX7_count_182 ?_
        refine pw_iload_n dX7_count_183 rfl rfl ?_
        refine pw_iconst (v := 5) dX7_count_184 (by decide) ?_
        refine pw_isub dX7_count_185 ?_
        refine pe_callVi dX7_count_186 oX_X5_tasksIn lk_RX7_250 (sp_tasksIn (tw_now h) hn hn4) (pl_k (tw_now h)) rfl rfl (Nat.le_of_ble_eq_true rfl) (by decide) ?_
        exact pw_iret dX7_count_189 rfl ⟨by rw [countV, swV_in (Nat.le_of_ble_eq_true rfl) (Nat.le_of_ble_eq_true rfl)]; rfl, rfl, rfl, rfl⟩
    · refine pw_tableIn (x := nI 8) (off := 165) (tgt := 166) dX7_count_1 (by decide) (by decide) (by decide) (by decide) ?_
      refine pw_iload_n dX7_count_166 rfl rfl ?_
      refine pw_iconst (v := 5) dX7_count_167 (by decide) ?_
      refine pw_bipush (v := 11) dX7_count_168 (by decide) ?_
      refine pe_callSi dX7_count_170 oX_X7_within lk_RX7_138 sp_within rfl rfl (Nat.le_of_ble_eq_true rfl) (by decide) ?_
      refine pw_ifB_eq (tgt := 190) dX7_count_173 (by decide) (fun c_173 => ?_) (fun c_173 => ?_)
      · refine pw_bipush (v := (-2)) dX7_count_190 (by decide) ?_
        exact pw_iret dX7_count_192 rfl ⟨absurd c_173 (by decide), rfl, rfl, rfl⟩
      · refine pw_aload_n dX7_count_176 rfl rfl ?_
        refine pw_getR (x := (x + 1)) dX7_count_177 fd_RX7_10 (by decide) (tw_k h) rfl (tw_r0 h) ?_
        refine pw_iload_n dX7_count_180 rfl rfl ?_
        refine pw_iconst (v := 5) dX7_count_181 (by decide) ?_
        refine pw_isub dX7_count_182 ?_
        refine pw_iload_n dX7_count_183 rfl rfl ?_
        refine pw_iconst (v := 5) dX7_count_184 (by decide) ?_
        refine pw_isub dX7_count_185 ?_
        refine pe_callVi dX7_count_186 oX_X5_tasksIn lk_RX7_250 (sp_tasksIn (tw_now h) hn hn4) (pl_k (tw_now h)) rfl rfl (Nat.le_of_ble_eq_true rfl) (by decide) ?_
        exact pw_iret dX7_count_189 rfl ⟨by rw [countV, swV_in (Nat.le_of_ble_eq_true rfl) (Nat.le_of_ble_eq_true rfl)]; rfl, rfl, rfl, rfl⟩
    · refine pw_tableIn (x := nI 9) (off := 165) (tgt := 166) dX7_count_1 (by decide) (by decide) (by decide) (by decide) ?_
      refine pw_iload_n dX7_count_166 rfl rfl ?_
      refine pw_iconst (v := 5) dX7_count_167 (by decide) ?_
      refine pw_bipush (v := 11) dX7_count_168 (by decide) ?_
      refine pe_callSi dX7_count_170 oX_X7_within lk_RX7_138 sp_within rfl rfl (Nat.le_of_ble_eq_true rfl) (by decide) ?_
      refine pw_ifB_eq (tgt := 190) dX7_count_173 (by decide) (fun c_173 => ?_) (fun c_173 => ?_)
      · refine pw_bipush (v := (-2)) dX7_count_190 (by decide) ?_
        exact pw_iret dX7_count_192 rfl ⟨absurd c_173 (by decide), rfl, rfl, rfl⟩
      · refine pw_aload_n dX7_count_176 rfl rfl ?_
        refine pw_getR (x := (x + 1)) dX7_count_177 fd_RX7_10 (by decide) (tw_k h) rfl (tw_r0 h) ?_
        refine pw_iload_n dX7_count_180 rfl rfl ?_
        refine pw_iconst (v := 5) dX7_count_181 (by decide) ?_
        refine pw_isub dX7_count_182 ?_
        refine pw_iload_n dX7_count_183 rfl rfl ?_
        refine pw_iconst (v := 5) dX7_count_184 (by decide) ?_
        refine pw_isub dX7_count_185 ?_
        refine pe_callVi dX7_count_186 oX_X5_tasksIn lk_RX7_250 (sp_tasksIn (tw_now h) hn hn4) (pl_k (tw_now h)) rfl rfl (Nat.le_of_ble_eq_true rfl) (by decide) ?_
        exact pw_iret dX7_count_189 rfl ⟨by rw [countV, swV_in (Nat.le_of_ble_eq_true rfl) (Nat.le_of_ble_eq_true rfl)]; rfl, rfl, rfl, rfl⟩
    · refine pw_tableIn (x := nI 10) (off := 165) (tgt := 166) dX7_count_1 (by decide) (by decide) (by decide) (by decide) ?_
      refine pw_iload_n dX7_count_166 rfl rfl ?_
      refine pw_iconst (v := 5) dX7_count_167 (by decide) ?_
      refine pw_bipush (v := 11) dX7_count_168 (by decide) ?_
      refine pe_callSi dX7_count_170 oX_X7_within lk_RX7_138 sp_within rfl rfl (Nat.le_of_ble_eq_true rfl) (by decide) ?_
      refine pw_ifB_eq (tgt := 190) dX7_count_173 (by decide) (fun c_173 => ?_) (fun c_173 => ?_)
      · refine pw_bipush (v := (-2)) dX7_count_190 (by decide) ?_
        exact pw_iret dX7_count_192 rfl ⟨absurd c_173 (by decide), rfl, rfl, rfl⟩
      · refine pw_aload_n dX7_count_176 rfl rfl ?_
        refine pw_getR (x := (x + 1)) dX7_count_177 fd_RX7_10 (by decide) (tw_k h) rfl (tw_r0 h) ?_
        refine pw_iload_n dX7_count_180 rfl rfl ?_
        refine pw_iconst (v := 5) dX7_count_181 (by decide) ?_
        refine pw_isub dX7_count_182 ?_
        refine pw_iload_n dX7_count_183 rfl rfl ?_
        refine pw_iconst (v := 5) dX7_count_184 (by decide) ?_
        refine pw_isub dX7_count_185 ?_
        refine pe_callVi dX7_count_186 oX_X5_tasksIn lk_RX7_250 (sp_tasksIn (tw_now h) hn hn4) (pl_k (tw_now h)) rfl rfl (Nat.le_of_ble_eq_true rfl) (by decide) ?_
        exact pw_iret dX7_count_189 rfl ⟨by rw [countV, swV_in (Nat.le_of_ble_eq_true rfl) (Nat.le_of_ble_eq_true rfl)]; rfl, rfl, rfl, rfl⟩
    · refine pw_tableIn (x := nI 11) (off := 165) (tgt := 166) dX7_count_1 (by decide) (by decide) (by decide) (by decide) ?_
      refine pw_iload_n dX7_count_166 rfl rfl ?_
      refine pw_iconst (v := 5) dX7_count_167 (by decide) ?_
      refine pw_bipush (v := 11) dX7_count_168 (by decide) ?_
      refine pe_callSi dX7_count_170 oX_X7_within lk_RX7_138 sp_within rfl rfl (Nat.le_of_ble_eq_true rfl) (by decide) ?_
      refine pw_ifB_eq (tgt := 190) dX7_count_173 (by decide) (fun c_173 => ?_) (fun c_173 => ?_)
      · refine pw_bipush (v := (-2)) dX7_count_190 (by decide) ?_
        exact pw_iret dX7_count_192 rfl ⟨absurd c_173 (by decide), rfl, rfl, rfl⟩
      · refine pw_aload_n dX7_count_176 rfl rfl ?_
        refine pw_getR (x := (x + 1)) dX7_count_177 fd_RX7_10 (by decide) (tw_k h) rfl (tw_r0 h) ?_
        refine pw_iload_n dX7_count_180 rfl rfl ?_
        refine pw_iconst (v := 5) dX7_count_181 (by decide) ?_
        refine pw_isub dX7_count_182 ?_
        refine pw_iload_n dX7_count_183 rfl rfl ?_
        refine pw_iconst (v := 5) dX7_count_184 (by decide) ?_
        refine pw_isub dX7_count_185 ?_
        refine pe_callVi dX7_count_186 oX_X5_tasksIn lk_RX7_250 (sp_tasksIn (tw_now h) hn hn4) (pl_k (tw_now h)) rfl rfl (Nat.le_of_ble_eq_true rfl) (by decide) ?_
        exact pw_iret dX7_count_189 rfl ⟨by rw [countV, swV_in (Nat.le_of_ble_eq_true rfl) (Nat.le_of_ble_eq_true rfl)]; rfl, rfl, rfl, rfl⟩
    · refine pw_tableIn (x := nI 12) (off := 123) (tgt := 124) dX7_count_1 (by decide) (by decide) (by decide) (by decide) ?_
      refine pw_aload_n dX7_count_124 rfl rfl ?_
      refine pw_getR (x := (x + 1)) dX7_count_125 fd_RX7_10 (by decide) (tw_k h) rfl (tw_r0 h) ?_
      refine pw_iconst (v := 1) dX7_count_128 (by decide) ?_
      refine pw_iconst (v := 3) dX7_count_129 (by decide) ?_
      refine pe_callVi dX7_count_130 oX_X5_tasksIn lk_RX7_250 (sp_tasksIn (tw_now h) hn hn4) (pl_k (tw_now h)) rfl rfl (Nat.le_of_ble_eq_true rfl) (by decide) ?_
      exact pw_iret dX7_count_133 rfl ⟨by rw [countV, swV_in (Nat.le_of_ble_eq_true rfl) (Nat.le_of_ble_eq_true rfl)]; rfl, rfl, rfl, rfl⟩
    · refine pw_tableIn (x := nI 13) (off := 133) (tgt := 134) dX7_count_1 (by decide) (by decide) (by decide) (by decide) ?_
      refine pw_aload_n dX7_count_134 rfl rfl ?_
      refine pw_getR (x := (x + 1)) dX7_count_135 fd_RX7_10 (by decide) (tw_k h) rfl (tw_r0 h) ?_
      refine pe_callVi dX7_count_138 oX_X5_slipsSoFar lk_RX7_253 (sp_slipsSoFar (tw_now h) hn hn4) (pl_k (tw_now h)) rfl rfl (Nat.le_of_ble_eq_true rfl) (by decide) ?_
      exact pw_iret dX7_count_141 rfl ⟨by rw [countV, swV_in (Nat.le_of_ble_eq_true rfl) (Nat.le_of_ble_eq_true rfl)]; rfl, rfl, rfl, rfl⟩
    · refine pw_tableIn (x := nI 14) (off := 141) (tgt := 142) dX7_count_1 (by decide) (by decide) (by decide) (by decide) ?_
      refine pw_aload_n dX7_count_142 rfl rfl ?_
      refine pw_getR (x := (x + 1)) dX7_count_143 fd_RX7_10 (by decide) (tw_k h) rfl (tw_r0 h) ?_
      refine pe_callVi dX7_count_146 oX_X5_allBusyPeople lk_RX7_256 (sp_allBusyPeople (tw_now h) hn hn4) (pl_k (tw_now h)) rfl rfl (Nat.le_of_ble_eq_true rfl) (by decide) ?_
      exact pw_iret dX7_count_149 rfl ⟨by rw [countV, swV_in (Nat.le_of_ble_eq_true rfl) (Nat.le_of_ble_eq_true rfl)]; rfl, rfl, rfl, rfl⟩
    · refine pw_tableIn (x := nI 15) (off := 149) (tgt := 150) dX7_count_1 (by decide) (by decide) (by decide) (by decide) ?_
      refine pw_aload_n dX7_count_150 rfl rfl ?_
      refine pw_getR (x := (x + 127)) dX7_count_151 fd_RX7_29 (by decide) (tw_k h) rfl (tw_r4 h) ?_
      refine pw_getI dX7_count_154 fd_RX7_259 (by decide) (hi_k (tw_hi h)) rfl ?_
      exact pw_iret dX7_count_157 rfl ⟨by rw [countV, swV_in (Nat.le_of_ble_eq_true rfl) (Nat.le_of_ble_eq_true rfl)]; rfl, rfl, rfl, rfl⟩
    · refine pw_tableIn (x := nI 16) (off := 157) (tgt := 158) dX7_count_1 (by decide) (by decide) (by decide) (by decide) ?_
      refine pw_aload_n dX7_count_158 rfl rfl ?_
      refine pw_getR (x := (x + 297)) dX7_count_159 fd_RX7_36 (by decide) (tw_k h) rfl (tw_r5 h) ?_
      refine pw_getI dX7_count_162 fd_RX7_262 (by decide) (or_k (tw_or h)) rfl ?_
      exact pw_iret dX7_count_165 rfl ⟨by rw [countV, swV_in (Nat.le_of_ble_eq_true rfl) (Nat.le_of_ble_eq_true rfl)]; rfl, rfl, rfl, rfl⟩
  · refine pw_tableOut (tgt := 166) dX7_count_1 hout (by decide) ?_
    refine pw_iload_n dX7_count_166 rfl rfl ?_
    refine pw_iconst (v := 5) dX7_count_167 (by decide) ?_
    refine pw_bipush (v := 11) dX7_count_168 (by decide) ?_
    refine pe_callSi dX7_count_170 oX_X7_within lk_RX7_138 sp_within rfl rfl (Nat.le_of_ble_eq_true rfl) (by decide) ?_
    refine pw_ifB_eq (tgt := 190) dX7_count_173 (by decide) (fun c_173 => ?_) (fun c_173 => ?_)
    · refine pw_bipush (v := (-2)) dX7_count_190 (by decide) ?_
      exact pw_iret dX7_count_192 rfl ⟨by rw [countV, swV_out hout (Nat.le_of_ble_eq_true rfl)], rfl, rfl, rfl⟩
    · refine pw_aload_n dX7_count_176 rfl rfl ?_
      refine pw_getR (x := (x + 1)) dX7_count_177 fd_RX7_10 (by decide) (tw_k h) rfl (tw_r0 h) ?_
      refine pw_iload_n dX7_count_180 rfl rfl ?_
      refine pw_iconst (v := 5) dX7_count_181 (by decide) ?_
      refine pw_isub dX7_count_182 ?_
      refine pw_iload_n dX7_count_183 rfl rfl ?_
      refine pw_iconst (v := 5) dX7_count_184 (by decide) ?_
      refine pw_isub dX7_count_185 ?_
      refine pe_callVi dX7_count_186 oX_X5_tasksIn lk_RX7_250 (sp_tasksIn (tw_now h) hn hn4) (pl_k (tw_now h)) rfl rfl (Nat.le_of_ble_eq_true rfl) (by decide) ?_
      exact pw_iret dX7_count_189 rfl ⟨absurd (of_decide_eq_true c_173) (fun z9 => cnt_no hout z9), rfl, rfl, rfl⟩
end
section
def RepB (p : Nat) (I : pI) : Prop := ∀ a, a < 8 → I (p + 5 + a) 4 = 0 ∨ I (p + 5 + a) 4 = 1
theorem RepB_eq {p : Nat} {I I' : pI} (h : RepB p I) (hI : ∀ i, p + 5 ≤ i → i < p + 13 → I' i = I i) : RepB p I' := fun a ha => by
  rw [hI _ (by omega) (by omega)]
  exact h a ha
/-! THE CONSTRUCTORS -/
section PB2
variable {cc : ByteArray} {Y : mB} {Z : pZ} {pc : Nat} {ls st : List Value} {σ : pT} {I : pI} {F : pF} {β : Nat × Nat}
theorem pr_callI {y : MethodName} {cy : ByteArray} {Yy : mB} {n idx q : Nat} {as : List Value} {Q : Option Value → pI → pF → Prop} {stk : List Value} (hdg : decode cc pc = .ok (.invokespecial idx, 3)) (hy : mOKI y cy Yy n) (hl : Cond.methodLink Y.1 idx y ∈ wsA) (hM : PR y cy Yy (.ref q :: as) σ I F Q)
    (hn : as.length = n) (hst : stk = as.reverse ++ .ref q :: st) (hcat : (st.map fun v => v.category).sum ≤ 8) (hR : Yy.2.2.2.1 + 1 ≤ Y.2.2.2.1 ∧ 8 + (Yy.2.1 + 11) + Yy.2.2.2.2.1 ≤ Y.2.2.2.2.1)
    (k : ∀ v I' F', Q v I' F' → PW cc Y Z (pc + 3) ls (v.toList ++ st) σ I' F' β) : PW cc Y Z pc ls stk σ I F β :=
  pw_callI hdg hy hl hM hn hst hcat hR ⟨Nat.zero_le _, Nat.zero_le _⟩ (by rintro v _ I' F' ⟨rfl, h⟩; exact k v I' F' h)
theorem pr_callIN {y : MethodName} {cy : ByteArray} {Yy : mB} {n idx q : Nat} {as : List Value} {Q : Option Value → pI → pF → Prop} {stk : List Value} (hdg : decode cc pc = .ok (.invokespecial idx, 3)) (hy : mOKI y cy Yy n) {host : String} (hl : (Y.1, idx, y, host) ∈ spN) (hM : PR y cy Yy (.ref q :: as) σ I F Q)
    (hn : as.length = n) (hst : stk = as.reverse ++ .ref q :: st) (hcat : (st.map fun v => v.category).sum ≤ 8) (hR : Yy.2.2.2.1 + 1 ≤ Y.2.2.2.1 ∧ 8 + (Yy.2.1 + 11) + Yy.2.2.2.2.1 ≤ Y.2.2.2.2.1)
    (k : ∀ v I' F', Q v I' F' → PW cc Y Z (pc + 3) ls (v.toList ++ st) σ I' F' β) : PW cc Y Z pc ls stk σ I F β :=
  pw_callIN hdg hy hl hM hn hst hcat hR ⟨Nat.zero_le _, Nat.zero_le _⟩ (by rintro v _ I' F' ⟨rfl, h⟩; exact k v I' F' h)
theorem pw_mono {β' : Nat × Nat} (h : β'.1 ≤ β.1 ∧ β'.2 ≤ β.2) (k : PW cc Y Z pc ls st σ I F β') : PW cc Y Z pc ls st σ I F β := by
  intro p l e R s m args below meth c D base b al0 l0 d0 H locs cells slots lsM stM hc hd hls hs hw hS hk1 hk2
  exact k p l e R s m args below meth c D base b al0 l0 d0 H locs cells slots lsM stM hc hd hls hs hw hS (by omega) (by omega)
end PB2
theorem fN_0 : fN 0 = 6 := rfl
theorem fN_1 : fN 1 = 2 := rfl
theorem fN_2 : fN 2 = 3 := rfl
theorem fN_3 : fN 3 = 3 := rfl
theorem fN_4 : fN 4 = 5 := rfl
theorem fN_5 : fN 5 = 8 := rfl
theorem fN_6 : fN 6 = 12 := rfl
/-- what lies below b is as it was -/
def ext (b : Nat) (σ σ' : pT) (I I' : pI) (F F' : pF) : Prop := ∀ i, i < b → σ'.2.1 i = σ.2.1 i ∧ σ'.2.2 i = σ.2.2 i ∧ I' i = I i ∧ F' i = F i
theorem ext_t {b b' : Nat} {σ σ1 σ' : pT} {I I1 I' : pI} {F F1 F' : pF} (h : ext b σ σ1 I I1 F F1) (h2 : ext b' σ1 σ' I1 I' F1 F') (hb : b ≤ b') : ext b σ σ' I I' F F' := fun i hi => by
  obtain ⟨a1, a2, a3, a4⟩ := h i hi
  obtain ⟨b1, b2, b3, b4⟩ := h2 i (by omega)
  exact ⟨b1.trans a1, b2.trans a2, b3.trans a3, b4.trans a4⟩
/-- a constructor's end: s cells more, what lay below p is as it was -/
def nwQ (p s : Nat) (σ : pT) (I : pI) (F : pF) (Q : pT → pI → Prop) : pQ := fun v σ' I' F' => v = none ∧ σ'.1 = p + s ∧ ext p σ σ' I I' F F' ∧ Q σ' I'
theorem isPl_fr {σ σ' : pT} {p : Nat} (h : isPl σ p) (hf : ∀ i, p ≤ i → i < p + 42 → σ'.2.1 i = σ.2.1 i ∧ σ'.2.2 i = σ.2.2 i) : isPl σ' p := by
  obtain ⟨a1, a2, a3, a4, a5, a6, a7, a8, a9, b1, b2, b3, b4, b5, b6⟩ := h
  refine ⟨by rw [(hf p (by omega) (by omega)).1]; exact a1, by rw [(hf p (by omega) (by omega)).2]; exact a2, by rw [(hf p (by omega) (by omega)).2]; exact a3, by rw [(hf p (by omega) (by omega)).2]; exact a4, by rw [(hf p (by omega) (by omega)).2]; exact a5,
    by rw [(hf (p + 1) (by omega) (by omega)).1]; exact a6, by rw [(hf (p + 2) (by omega) (by omega)).1]; exact a7, by rw [(hf (p + 3) (by omega) (by omega)).1]; exact a8, by rw [(hf (p + 4) (by omega) (by omega)).1]; exact a9,
    fun i hi => by rw [(hf (p + 1) (by omega) (by omega)).2]; exact b1 i hi, fun i hi => by rw [(hf (p + 5 + i) (by omega) (by omega)).1]; exact b2 i hi,
    fun i hi => by rw [(hf (p + 2) (by omega) (by omega)).2]; exact b3 i hi, fun i hi => by rw [(hf (p + 13 + i) (by omega) (by omega)).1]; exact b4 i hi,
    fun i hi => by rw [(hf (p + 3) (by omega) (by omega)).2]; exact b5 i hi, fun i hi => by rw [(hf (p + 18 + i) (by omega) (by omega)).1]; exact b6 i hi⟩
theorem isHi_fr {σ σ' : pT} {q : Nat} (h : isHi σ q) (hf : ∀ i, q ≤ i → i < q + 170 → σ'.2.1 i = σ.2.1 i ∧ σ'.2.2 i = σ.2.2 i) : isHi σ' q := by
  obtain ⟨a1, a2, a3, a4, a5⟩ := h
  exact ⟨by rw [(hf q (by omega) (by omega)).1]; exact a1, by rw [(hf q (by omega) (by omega)).2]; exact a2, by rw [(hf (q + 1) (by omega) (by omega)).1]; exact a3, fun i hi => by rw [(hf (q + 1) (by omega) (by omega)).2]; exact a4 i hi, fun i hi => isPl_fr (a5 i hi) (fun j h1 h2 => hf j (by omega) (by omega))⟩
theorem isOr_fr {σ σ' : pT} {q : Nat} (h : isOr σ q) (hf : ∀ i, q ≤ i → i < q + 23 → σ'.2.1 i = σ.2.1 i ∧ σ'.2.2 i = σ.2.2 i) : isOr σ' q := by
  obtain ⟨a1, a2, a3, a4, a5, a6, a7⟩ := h
  exact ⟨by rw [(hf q (by omega) (by omega)).1]; exact a1, by rw [(hf q (by omega) (by omega)).2]; exact a2, by rw [(hf q (by omega) (by omega)).2]; exact a3, by rw [(hf (q + 1) (by omega) (by omega)).1]; exact a4, by rw [(hf (q + 2) (by omega) (by omega)).1]; exact a5, fun i hi => by rw [(hf (q + 2) (by omega) (by omega)).2]; exact a6 i hi, fun i hi => by rw [(hf (q + 3 + i) (by omega) (by omega)).1]; exact a7 i hi⟩
/-- an object's rows, made one after the other: their slots, kinds, lengths -/
def MkS (x kx : Nat) (σ0 : pT) (I0 : pI) (F0 : pF) (ks : List (Nat × Nat × Nat)) (j : Nat) (σ : pT) (I : pI) (F : pF) : Prop :=
  σ.1 = x + j ∧ (σ.2.1 x).1 = kx ∧ (∀ t, I x t = 0) ∧ ext x σ0 σ I0 I F0 F ∧ ∀ (i : Nat) (a : Nat × Nat × Nat), i < j → ks[i]? = some a → σ.2.2 x a.1 = some (x + 1 + i) ∧ σ.2.1 (x + 1 + i) = (a.2.1, a.2.2) ∧ ∀ t, I (x + 1 + i) t = 0
section MK
variable {x kx j : Nat} {σ0 σ : pT} {I0 I : pI} {F0 F : pF} {ks : List (Nat × Nat × Nat)}
theorem mk_0 (h1 : σ.1 = x) (h2 : (σ.2.1 x).1 = kx) (h3 : ∀ t, I x t = 0) : MkS x kx σ I F ks 0 σ I F := ⟨h1, h2, h3, fun _ _ => ⟨rfl, rfl, rfl, rfl⟩, fun _ _ h => absurd h (Nat.not_lt_zero _)⟩
theorem mk_k (h : MkS x kx σ0 I0 F0 ks j σ I F) {kd n : Nat} : ((σnew σ kd n).2.1 x).1 = kx := by
  have h1 := h.1
  show ((upr σ.2.1 (σ.1 + 1) (kd, n)) x).1 = kx
  rw [upr_n (by omega)]
  exact h.2.1
theorem mk_put {k : Nat} (h : MkS x kx σ0 I0 F0 ks j σ I F) : MkS x kx σ0 I0 F0 ks j σ (up2 I x k 0) F := by
  obtain ⟨h1, h2, h3, h4, h5⟩ := h
  refine ⟨h1, h2, fun t => ?_, fun i hi => ?_, fun i a hi ha => ?_⟩
  · by_cases ht : t = k
    · subst ht
      exact up2_s
    · rw [up2_nj ht]
      exact h3 t
  · obtain ⟨b1, b2, b3, b4⟩ := h4 i hi
    exact ⟨b1, b2, (up2_row (by omega)).trans b3, b4⟩
  · obtain ⟨b1, b2, b3⟩ := h5 i a hi ha
    exact ⟨b1, b2, fun t => (up2_ni (by omega)).trans (b3 t)⟩
theorem mk_arr (h : MkS x kx σ0 I0 F0 ks j σ I F) {k kd n : Nat} (hj : ks[j]? = some (k, kd, n)) (hd : (ks.take j).all (fun a => a.1 != k) = true) : MkS x kx σ0 I0 F0 ks (j + 1) ((σnew σ kd n).1, (σnew σ kd n).2.1, up2 (σnew σ kd n).2.2 x k (some (σ.1 + 1))) (Inew σ I) (Fnew σ F) := by
  obtain ⟨h1, h2, h3, h4, h5⟩ := h
  have e : σ.1 + 1 = x + 1 + j := by omega
  refine ⟨by show σ.1 + 1 = _; omega, ?_, fun t => ?_, fun i hi => ?_, fun i a hi ha => ?_⟩
  · show ((upr σ.2.1 (σ.1 + 1) (kd, n)) x).1 = kx
    rw [upr_n (by omega)]
    exact h2
  · show upr I (σ.1 + 1) (fun _ => 0) x t = 0
    rw [upr_n (by omega)]
    exact h3 t
  · obtain ⟨b1, b2, b3, b4⟩ := h4 i hi
    exact ⟨(upr_n (by omega)).trans b1, (up2_row (by omega)).trans ((upr_n (by omega)).trans b2), (upr_n (by omega)).trans b3, (upr_n (by omega)).trans b4⟩
  · by_cases hc : i = j
    · subst hc
      rw [hj] at ha
      cases ha
      refine ⟨?_, ?_, fun t => ?_⟩
      · show up2 _ x k (some (σ.1 + 1)) x k = _
        rw [up2_s, e]
      · show upr σ.2.1 (σ.1 + 1) (kd, n) (x + 1 + i) = _
        rw [e, upr_s]
      · show upr I (σ.1 + 1) (fun _ => 0) (x + 1 + i) t = 0
        rw [e, upr_s]
    · obtain ⟨b1, b2, b3⟩ := h5 i a (by omega) ha
      have hne : a.1 ≠ k := by
        have hm : a ∈ ks.take j := List.mem_of_getElem? (i := i) (by rw [List.getElem?_take_of_lt (by omega)]; exact ha)
        have := List.all_eq_true.mp hd a hm
        simpa using this
      refine ⟨?_, ?_, fun t => ?_⟩
      · show up2 (upr σ.2.2 (σ.1 + 1) (fun _ => none)) x k (some (σ.1 + 1)) x a.1 = _
        rw [up2_nj hne, upr_n (by omega)]
        exact b1
      · show upr σ.2.1 (σ.1 + 1) (kd, n) (x + 1 + i) = _
        rw [upr_n (by omega)]
        exact b2
      · show upr I (σ.1 + 1) (fun _ => 0) (x + 1 + i) t = 0
        rw [upr_n (by omega)]
        exact b3 t
end MK

theorem sp_i0 {σ : pT} {I : pI} {F : pF} {q : Nat} (h : (σ.2.1 q).1 = 0 + 1) : PR yX0_init cX0_init mX0_init [.ref q] σ I F fun v I' F' => v = none ∧ (∀ i, i ≠ q → I' i = I i ∧ F' i = F i) ∧ I' q 4 = 0 := by
  refine PR.of oP_X0_init (catOK rfl) (Nat.le_of_ble_eq_true rfl) ?_
  show PW _ _ _ 0 [.ref q] [] _ _ _ _
  refine pw_aload_n dX0_init_0 rfl rfl ?_
  refine pw_objInit dX0_init_1 lk_RX0_3 oi_inst oi_code ⟨by decide, by decide⟩ ?_
  refine pw_aload_n dX0_init_4 rfl rfl ?_
  refine pw_iconst (v := 0) dX0_init_5 (by decide) ?_
  refine pw_putI dX0_init_6 fd_RX0_9 (by decide) rfl ⟨rfl, rfl, rfl⟩ h ?_
  refine pw_aload_n dX0_init_9 rfl rfl ?_
  refine pw_fconst0 dX0_init_10 ?_
  refine pw_putF dX0_init_11 fd_RX0_15 (by decide) rfl rfl h ?_
  refine pw_aload_n dX0_init_14 rfl rfl ?_
  refine pw_fconst1 dX0_init_15 ?_
  refine pw_putF dX0_init_16 fd_RX0_19 (by decide) rfl rfl h ?_
  refine pw_aload_n dX0_init_19 rfl rfl ?_
  refine pw_fconst0 dX0_init_20 ?_
  refine pw_putF dX0_init_21 fd_RX0_22 (by decide) rfl rfl h ?_
  refine pw_aload_n dX0_init_24 rfl rfl ?_
  refine pw_iconst (v := 0) dX0_init_25 (by decide) ?_
  refine pw_putI dX0_init_26 fd_RX0_25 (by decide) rfl ⟨by decide, by decide, rfl⟩ h ?_
  refine pw_aload_n dX0_init_29 rfl rfl ?_
  refine pw_iconst (v := 0) dX0_init_30 (by decide) ?_
  refine pw_putI dX0_init_31 fd_RX0_29 (by decide) rfl ⟨rfl, rfl, rfl⟩ h ?_
  exact pw_vret dX0_init_34 rfl ⟨rfl, rfl, fun i hi => ⟨by rw [up2_row hi, up2_row hi, up2_row hi], by rw [up2_row hi, up2_row hi, up2_row hi]⟩, by simp [up2]⟩

theorem sp_i1 {σ : pT} {I : pI} {F : pF} {q : Nat} (h : (σ.2.1 q).1 = 1 + 1) : PR yX1_init cX1_init mX1_init [.ref q] σ I F fun v I' F' => v = none ∧ (∀ i, i ≠ q → I' i = I i ∧ F' i = F i) := by
  refine PR.of oP_X1_init (catOK rfl) (Nat.le_of_ble_eq_true rfl) ?_
  show PW _ _ _ 0 [.ref q] [] _ _ _ _
  refine pw_aload_n dX1_init_0 rfl rfl ?_
  refine pw_objInit dX1_init_1 lk_RX1_1 oi_inst oi_code ⟨by decide, by decide⟩ ?_
  refine pw_aload_n dX1_init_4 rfl rfl ?_
  refine pw_iconst (v := 0) dX1_init_5 (by decide) ?_
  refine pw_putI dX1_init_6 fd_RX1_7 (by decide) rfl ⟨rfl, rfl, rfl⟩ h ?_
  refine pw_aload_n dX1_init_9 rfl rfl ?_
  refine pw_iconst (v := 0) dX1_init_10 (by decide) ?_
  refine pw_putI dX1_init_11 fd_RX1_13 (by decide) rfl ⟨rfl, rfl, rfl⟩ h ?_
  exact pw_vret dX1_init_14 rfl ⟨rfl, rfl, fun i hi => ⟨by rw [up2_row hi, up2_row hi], rfl⟩⟩

theorem sp_i3 {σ : pT} {I : pI} {F : pF} {q : Nat} (h : (σ.2.1 q).1 = 3 + 1) : PR yX3_init cX3_init mX3_init [.ref q] σ I F fun v I' F' => v = none ∧ (∀ i, i ≠ q → I' i = I i ∧ F' i = F i) := by
  refine PR.of oP_X3_init (catOK rfl) (Nat.le_of_ble_eq_true rfl) ?_
  show PW _ _ _ 0 [.ref q] [] _ _ _ _
  refine pw_aload_n dX3_init_0 rfl rfl ?_
  refine pw_objInit dX3_init_1 lk_RX3_1 oi_inst oi_code ⟨by decide, by decide⟩ ?_
  refine pw_aload_n dX3_init_4 rfl rfl ?_
  refine pw_bipush (v := 112) dX3_init_5 (by decide) ?_
  refine pw_putI dX3_init_7 fd_RX3_7 (by decide) rfl ⟨by decide, by decide, rfl⟩ h ?_
  refine pw_aload_n dX3_init_10 rfl rfl ?_
  refine pw_iconst (v := 0) dX3_init_11 (by decide) ?_
  refine pw_putI dX3_init_12 fd_RX3_13 (by decide) rfl ⟨rfl, rfl, rfl⟩ h ?_
  refine pw_aload_n dX3_init_15 rfl rfl ?_
  refine pw_iconst (v := 0) dX3_init_16 (by decide) ?_
  refine pw_putI dX3_init_17 fd_RX3_17 (by decide) rfl ⟨rfl, rfl, rfl⟩ h ?_
  exact pw_vret dX3_init_20 rfl ⟨rfl, rfl, fun i hi => ⟨by rw [up2_row hi, up2_row hi, up2_row hi], rfl⟩⟩

theorem sp_i6 {σ : pT} {I : pI} {F : pF} {q : Nat} (h : (σ.2.1 q).1 = 6 + 1) : PR yX6_init cX6_init mX6_init [.ref q] σ I F fun v I' F' => v = none ∧ (∀ i, i ≠ q → I' i = I i ∧ F' i = F i) := by
  refine PR.of oP_X6_init (catOK rfl) (Nat.le_of_ble_eq_true rfl) ?_
  show PW _ _ _ 0 [.ref q] [] _ _ _ _
  refine pw_aload_n dX6_init_0 rfl rfl ?_
  refine pw_objInit dX6_init_1 lk_RX6_3 oi_inst oi_code ⟨by decide, by decide⟩ ?_
  refine pw_aload_n dX6_init_4 rfl rfl ?_
  refine pw_iconst (v := 0) dX6_init_5 (by decide) ?_
  refine pw_putI dX6_init_6 fd_RX6_9 (by decide) rfl ⟨rfl, rfl, rfl⟩ h ?_
  refine pw_aload_n dX6_init_9 rfl rfl ?_
  refine pw_iconst (v := 0) dX6_init_10 (by decide) ?_
  refine pw_putI dX6_init_11 fd_RX6_15 (by decide) rfl ⟨rfl, rfl, rfl⟩ h ?_
  refine pw_aload_n dX6_init_14 rfl rfl ?_
  refine pw_iconst (v := 0) dX6_init_15 (by decide) ?_
  refine pw_putI dX6_init_16 fd_RX6_18 (by decide) rfl ⟨rfl, rfl, rfl⟩ h ?_
  refine pw_aload_n dX6_init_19 rfl rfl ?_
  refine pw_iconst (v := 0) dX6_init_20 (by decide) ?_
  refine pw_putI dX6_init_21 fd_RX6_21 (by decide) rfl ⟨rfl, rfl, rfl⟩ h ?_
  refine pw_aload_n dX6_init_24 rfl rfl ?_
  refine pw_iconst (v := 0) dX6_init_25 (by decide) ?_
  refine pw_putI dX6_init_26 fd_RX6_24 (by decide) rfl ⟨rfl, rfl, rfl⟩ h ?_
  refine pw_aload_n dX6_init_29 rfl rfl ?_
  refine pw_iconst (v := 0) dX6_init_30 (by decide) ?_
  refine pw_putI dX6_init_31 fd_RX6_27 (by decide) rfl ⟨rfl, rfl, rfl⟩ h ?_
  refine pw_aload_n dX6_init_34 rfl rfl ?_
  refine pw_iconst (v := 0) dX6_init_35 (by decide) ?_
  refine pw_putI dX6_init_36 fd_RX6_30 (by decide) rfl ⟨rfl, rfl, rfl⟩ h ?_
  refine pw_aload_n dX6_init_39 rfl rfl ?_
  refine pw_iconst (v := 0) dX6_init_40 (by decide) ?_
  refine pw_putI dX6_init_41 fd_RX6_33 (by decide) rfl ⟨rfl, rfl, rfl⟩ h ?_
  refine pw_aload_n dX6_init_44 rfl rfl ?_
  refine pw_bipush (v := (-5)) dX6_init_45 (by decide) ?_
  refine pw_putI dX6_init_47 fd_RX6_36 (by decide) rfl ⟨rfl, rfl, rfl⟩ h ?_
  refine pw_aload_n dX6_init_50 rfl rfl ?_
  refine pw_iconst (v := 0) dX6_init_51 (by decide) ?_
  refine pw_putI dX6_init_52 fd_RX6_39 (by decide) rfl ⟨rfl, rfl, rfl⟩ h ?_
  refine pw_aload_n dX6_init_55 rfl rfl ?_
  refine pw_iconst (v := 0) dX6_init_56 (by decide) ?_
  refine pw_putI dX6_init_57 fd_RX6_42 (by decide) rfl ⟨rfl, rfl, rfl⟩ h ?_
  refine pw_aload_n dX6_init_60 rfl rfl ?_
  refine pw_iconst (v := 0) dX6_init_61 (by decide) ?_
  refine pw_putI dX6_init_62 fd_RX6_45 (by decide) rfl ⟨rfl, rfl, rfl⟩ h ?_
  exact pw_vret dX6_init_65 rfl ⟨rfl, rfl, fun i hi => ⟨by rw [up2_row hi, up2_row hi, up2_row hi, up2_row hi, up2_row hi, up2_row hi, up2_row hi, up2_row hi, up2_row hi, up2_row hi, up2_row hi, up2_row hi], rfl⟩⟩

def ksPl : List (Nat × Nat × Nat) := [(0, 30, 8), (1, 31, 5), (2, 36, 24), (3, 20, 5)]
/-- a plant's cells being made: a assets, c crews, t tasks -/
def PlL (p : Nat) (σ0 : pT) (I0 : pI) (F0 : pF) (a c t : Nat) (σ : pT) (I : pI) (F : pF) : Prop :=
  σ.1 = p + 4 + a + c + t ∧ ((σ.2.1 p).1 = 6 ∧ σ.2.2 p 0 = some (p + 1) ∧ σ.2.2 p 1 = some (p + 2) ∧ σ.2.2 p 2 = some (p + 3) ∧ σ.2.2 p 3 = some (p + 4) ∧ σ.2.1 (p + 1) = (0 + 30, 8) ∧ σ.2.1 (p + 2) = (1 + 30, 5) ∧ σ.2.1 (p + 3) = (6 + 30, 24) ∧ σ.2.1 (p + 4) = (20, 5)) ∧
  ((∀ i, i < a → σ.2.2 (p + 1) i = some (p + 5 + i)) ∧ (∀ i, i < a → (σ.2.1 (p + 5 + i)).1 = 0 + 1) ∧ (∀ i, i < c → σ.2.2 (p + 2) i = some (p + 13 + i)) ∧ (∀ i, i < c → (σ.2.1 (p + 13 + i)).1 = 1 + 1) ∧ (∀ i, i < t → σ.2.2 (p + 3) i = some (p + 18 + i)) ∧ (∀ i, i < t → (σ.2.1 (p + 18 + i)).1 = 6 + 1)) ∧
  ext p σ0 σ I0 I F0 F ∧ (∀ t, I p t = 0) ∧ (∀ k, I (p + 4) k = 0) ∧ ∀ i, i < a → I (p + 5 + i) 4 = 0
theorem PlL_0 {p : Nat} {σ0 σ : pT} {I0 I : pI} {F0 F : pF} (h : MkS p 6 σ0 I0 F0 ksPl 4 σ I F) : PlL p σ0 I0 F0 0 0 0 σ I F := by
  obtain ⟨h1, h2, h3, h4, h5⟩ := h
  obtain ⟨a1, a2, -⟩ := h5 0 (0, 30, 8) (by decide) rfl
  obtain ⟨b1, b2, -⟩ := h5 1 (1, 31, 5) (by decide) rfl
  obtain ⟨c1, c2, -⟩ := h5 2 (2, 36, 24) (by decide) rfl
  obtain ⟨d1, d2, d3⟩ := h5 3 (3, 20, 5) (by decide) rfl
  exact ⟨h1, ⟨h2, a1, b1, c1, d1, a2, b2, c2, d2⟩, ⟨fun _ h => absurd h (Nat.not_lt_zero _), fun _ h => absurd h (Nat.not_lt_zero _), fun _ h => absurd h (Nat.not_lt_zero _), fun _ h => absurd h (Nat.not_lt_zero _), fun _ h => absurd h (Nat.not_lt_zero _), fun _ h => absurd h (Nat.not_lt_zero _)⟩, h4, h3, d3, fun _ h => absurd h (Nat.not_lt_zero _)⟩
/-- a plant that was just made: nothing is there -/
def plZ (p : Nat) (I : pI) : Prop := (∀ t, I p t = 0) ∧ (∀ k, I (p + 4) k = 0) ∧ RepB p I
theorem PlL_e {p : Nat} {σ0 σ : pT} {I0 I : pI} {F0 F : pF} (h : PlL p σ0 I0 F0 8 5 24 σ I F) : nwQ p 41 σ0 I0 F0 (fun σ I => isPl σ p ∧ plZ p I) none σ I F := by
  obtain ⟨h1, ⟨a1, a2, a3, a4, a5, a6, a7, a8, a9⟩, ⟨b1, b2, b3, b4, b5, b6⟩, h4, h5, h6, h7⟩ := h
  exact ⟨rfl, by omega, h4, ⟨a1, a2, a3, a4, a5, a6, a7, a8, a9, b1, b2, b3, b4, b5, b6⟩, h5, h6, fun a ha => Or.inl (h7 a ha)⟩

theorem PlL_A_ {p a : Nat} {σ0 σ σ' : pT} {I0 I I' : pI} {F0 F F' : pF} (h : PlL p σ0 I0 F0 a 0 0 σ I F) (hv : a < 8) (e1 : σ'.1 = σ.1 + 1) (K : ∀ i, i ≠ σ.1 + 1 → σ'.2.1 i = σ.2.1 i) (Kn : σ'.2.1 (σ.1 + 1) = (1, 6)) (R : ∀ i, i ≠ σ.1 + 1 → i ≠ p + 1 → σ'.2.2 i = σ.2.2 i) (Rn : σ'.2.2 (p + 1) a = some (σ.1 + 1)) (Ro : ∀ j, j ≠ a → σ'.2.2 (p + 1) j = σ.2.2 (p + 1) j) (J : ∀ i, i ≠ σ.1 + 1 → I' i = I i ∧ F' i = F i) (h4 : I' (σ.1 + 1) 4 = 0) : PlL p σ0 I0 F0 (a + 1) 0 0 σ' I' F' := by
  obtain ⟨h1, ⟨a1, a2, a3, a4, a5, a6, a7, a8, a9⟩, ⟨b1, b2, b3, b4, b5, b6⟩, g4, g5, g6, g7⟩ := h
  have e : σ.1 + 1 = p + 5 + a := by omega
  refine ⟨by omega, ⟨?_, ?_, ?_, ?_, ?_, ?_, ?_, ?_, ?_⟩, ⟨fun i hi => ?_, fun i hi => ?_, fun i hi => ?_, fun i hi => ?_, fun i hi => ?_, fun i hi => ?_⟩, fun i hi => ?_, fun t => ?_, fun k => ?_, fun i hi => ?_⟩
  · rw [K p (by omega)]; exact a1
  · rw [R p (by omega) (by omega)]; exact a2
  · rw [R p (by omega) (by omega)]; exact a3
  · rw [R p (by omega) (by omega)]; exact a4
  · rw [R p (by omega) (by omega)]; exact a5
  · rw [K _ (by omega)]; exact a6
  · rw [K _ (by omega)]; exact a7
  · rw [K _ (by omega)]; exact a8
  · rw [K _ (by omega)]; exact a9
  · by_cases hc : i = a
    · subst hc
      rw [Rn, e]
    · rw [Ro i hc]
      exact b1 i (by omega)
  · by_cases hc : i = a
    · subst hc
      rw [← e, Kn]
    · rw [K _ (by omega)]
      exact b2 i (by omega)
  · rw [R _ (by omega) (by omega)]; exact b3 i hi
  · rw [K _ (by omega)]; exact b4 i hi
  · rw [R _ (by omega) (by omega)]; exact b5 i hi
  · rw [K _ (by omega)]; exact b6 i hi
  · obtain ⟨c1, c2, c3, c4⟩ := g4 i hi
    exact ⟨(K i (by omega)).trans c1, (R i (by omega) (by omega)).trans c2, (J i (by omega)).1.trans c3, (J i (by omega)).2.trans c4⟩
  · rw [(J p (by omega)).1]; exact g5 t
  · rw [(J (p + 4) (by omega)).1]; exact g6 k
  · by_cases hc : i = a
    · subst hc
      rw [← e]
      exact h4
    · rw [(J _ (by omega)).1]
      exact g7 i (by omega)

theorem PlL_A {p a : Nat} {σ0 σ : pT} {I0 I I' : pI} {F0 F F' : pF} (h : PlL p σ0 I0 F0 a 0 0 σ I F) (hv : a < 8) (hI : ∀ i, i ≠ σ.1 + 1 → I' i = Inew σ I i ∧ F' i = Fnew σ F i) (h4 : I' (σ.1 + 1) 4 = 0) : PlL p σ0 I0 F0 (a + 1) 0 0 ((σnew σ 1 6).1, (σnew σ 1 6).2.1, up2 (σnew σ 1 6).2.2 (p + 1) a (some (σ.1 + 1))) I' F' :=
  PlL_A_ h hv rfl (fun i hi => upr_n hi) upr_s (fun i hi h2 => (up2_row h2).trans (upr_n hi)) up2_s (fun j hj => (up2_nj hj).trans (congrFun (upr_n (by have := h.1; omega)) j)) (fun i hi => ⟨(hI i hi).1.trans (upr_n hi), (hI i hi).2.trans (upr_n hi)⟩) h4

theorem PlL_C_ {p c : Nat} {σ0 σ σ' : pT} {I0 I I' : pI} {F0 F F' : pF} (h : PlL p σ0 I0 F0 8 c 0 σ I F) (hv : c < 5) (e1 : σ'.1 = σ.1 + 1) (K : ∀ i, i ≠ σ.1 + 1 → σ'.2.1 i = σ.2.1 i) (Kn : σ'.2.1 (σ.1 + 1) = (2, 2)) (R : ∀ i, i ≠ σ.1 + 1 → i ≠ p + 2 → σ'.2.2 i = σ.2.2 i) (Rn : σ'.2.2 (p + 2) c = some (σ.1 + 1)) (Ro : ∀ j, j ≠ c → σ'.2.2 (p + 2) j = σ.2.2 (p + 2) j) (J : ∀ i, i ≠ σ.1 + 1 → I' i = I i ∧ F' i = F i) : PlL p σ0 I0 F0 8 (c + 1) 0 σ' I' F' := by
  obtain ⟨h1, ⟨a1, a2, a3, a4, a5, a6, a7, a8, a9⟩, ⟨b1, b2, b3, b4, b5, b6⟩, g4, g5, g6, g7⟩ := h
  have e : σ.1 + 1 = p + 13 + c := by omega
  refine ⟨by omega, ⟨?_, ?_, ?_, ?_, ?_, ?_, ?_, ?_, ?_⟩, ⟨fun i hi => ?_, fun i hi => ?_, fun i hi => ?_, fun i hi => ?_, fun i hi => ?_, fun i hi => ?_⟩, fun i hi => ?_, fun t => ?_, fun k => ?_, fun i hi => ?_⟩
  · rw [K p (by omega)]; exact a1
  · rw [R p (by omega) (by omega)]; exact a2
  · rw [R p (by omega) (by omega)]; exact a3
  · rw [R p (by omega) (by omega)]; exact a4
  · rw [R p (by omega) (by omega)]; exact a5
  · rw [K _ (by omega)]; exact a6
  · rw [K _ (by omega)]; exact a7
  · rw [K _ (by omega)]; exact a8
  · rw [K _ (by omega)]; exact a9
  · rw [R _ (by omega) (by omega)]; exact b1 i hi
  · rw [K _ (by omega)]; exact b2 i hi
  · by_cases hc : i = c
    · subst hc
      rw [Rn, e]
    · rw [Ro i hc]
      exact b3 i (by omega)
  · by_cases hc : i = c
    · subst hc
      rw [← e, Kn]
    · rw [K _ (by omega)]
      exact b4 i (by omega)
  · rw [R _ (by omega) (by omega)]; exact b5 i hi
  · rw [K _ (by omega)]; exact b6 i hi
  · obtain ⟨c1, c2, c3, c4⟩ := g4 i hi
    exact ⟨(K i (by omega)).trans c1, (R i (by omega) (by omega)).trans c2, (J i (by omega)).1.trans c3, (J i (by omega)).2.trans c4⟩
  · rw [(J p (by omega)).1]; exact g5 t
  · rw [(J (p + 4) (by omega)).1]; exact g6 k
  · rw [(J _ (by omega)).1]
    exact g7 i hi

theorem PlL_C {p c : Nat} {σ0 σ : pT} {I0 I I' : pI} {F0 F F' : pF} (h : PlL p σ0 I0 F0 8 c 0 σ I F) (hv : c < 5) (hI : ∀ i, i ≠ σ.1 + 1 → I' i = Inew σ I i ∧ F' i = Fnew σ F i) : PlL p σ0 I0 F0 8 (c + 1) 0 ((σnew σ 2 2).1, (σnew σ 2 2).2.1, up2 (σnew σ 2 2).2.2 (p + 2) c (some (σ.1 + 1))) I' F' :=
  PlL_C_ h hv rfl (fun i hi => upr_n hi) upr_s (fun i hi h2 => (up2_row h2).trans (upr_n hi)) up2_s (fun j hj => (up2_nj hj).trans (congrFun (upr_n (by have := h.1; omega)) j)) (fun i hi => ⟨(hI i hi).1.trans (upr_n hi), (hI i hi).2.trans (upr_n hi)⟩)

theorem PlL_T_ {p t : Nat} {σ0 σ σ' : pT} {I0 I I' : pI} {F0 F F' : pF} (h : PlL p σ0 I0 F0 8 5 t σ I F) (hv : t < 24) (e1 : σ'.1 = σ.1 + 1) (K : ∀ i, i ≠ σ.1 + 1 → σ'.2.1 i = σ.2.1 i) (Kn : σ'.2.1 (σ.1 + 1) = (7, 12)) (R : ∀ i, i ≠ σ.1 + 1 → i ≠ p + 3 → σ'.2.2 i = σ.2.2 i) (Rn : σ'.2.2 (p + 3) t = some (σ.1 + 1)) (Ro : ∀ j, j ≠ t → σ'.2.2 (p + 3) j = σ.2.2 (p + 3) j) (J : ∀ i, i ≠ σ.1 + 1 → I' i = I i ∧ F' i = F i) : PlL p σ0 I0 F0 8 5 (t + 1) σ' I' F' := by
  obtain ⟨h1, ⟨a1, a2, a3, a4, a5, a6, a7, a8, a9⟩, ⟨b1, b2, b3, b4, b5, b6⟩, g4, g5, g6, g7⟩ := h
  have e : σ.1 + 1 = p + 18 + t := by omega
  refine ⟨by omega, ⟨?_, ?_, ?_, ?_, ?_, ?_, ?_, ?_, ?_⟩, ⟨fun i hi => ?_, fun i hi => ?_, fun i hi => ?_, fun i hi => ?_, fun i hi => ?_, fun i hi => ?_⟩, fun i hi => ?_, fun t => ?_, fun k => ?_, fun i hi => ?_⟩
  · rw [K p (by omega)]; exact a1
  · rw [R p (by omega) (by omega)]; exact a2
  · rw [R p (by omega) (by omega)]; exact a3
  · rw [R p (by omega) (by omega)]; exact a4
  · rw [R p (by omega) (by omega)]; exact a5
  · rw [K _ (by omega)]; exact a6
  · rw [K _ (by omega)]; exact a7
  · rw [K _ (by omega)]; exact a8
  · rw [K _ (by omega)]; exact a9
  · rw [R _ (by omega) (by omega)]; exact b1 i hi
  · rw [K _ (by omega)]; exact b2 i hi
  · rw [R _ (by omega) (by omega)]; exact b3 i hi
  · rw [K _ (by omega)]; exact b4 i hi
  · by_cases hc : i = t
    · subst hc
      rw [Rn, e]
    · rw [Ro i hc]
      exact b5 i (by omega)
  · by_cases hc : i = t
    · subst hc
      rw [← e, Kn]
    · rw [K _ (by omega)]
      exact b6 i (by omega)
  · obtain ⟨c1, c2, c3, c4⟩ := g4 i hi
    exact ⟨(K i (by omega)).trans c1, (R i (by omega) (by omega)).trans c2, (J i (by omega)).1.trans c3, (J i (by omega)).2.trans c4⟩
  · rw [(J p (by omega)).1]; exact g5 t
  · rw [(J (p + 4) (by omega)).1]; exact g6 k
  · rw [(J _ (by omega)).1]
    exact g7 i hi

theorem PlL_T {p t : Nat} {σ0 σ : pT} {I0 I I' : pI} {F0 F F' : pF} (h : PlL p σ0 I0 F0 8 5 t σ I F) (hv : t < 24) (hI : ∀ i, i ≠ σ.1 + 1 → I' i = Inew σ I i ∧ F' i = Fnew σ F i) : PlL p σ0 I0 F0 8 5 (t + 1) ((σnew σ 7 12).1, (σnew σ 7 12).2.1, up2 (σnew σ 7 12).2.2 (p + 3) t (some (σ.1 + 1))) I' F' :=
  PlL_T_ h hv rfl (fun i hi => upr_n hi) upr_s (fun i hi h2 => (up2_row h2).trans (upr_n hi)) up2_s (fun j hj => (up2_nj hj).trans (congrFun (upr_n (by have := h.1; omega)) j)) (fun i hi => ⟨(hI i hi).1.trans (upr_n hi), (hI i hi).2.trans (upr_n hi)⟩)

set_option maxRecDepth 4000 in
theorem sp_i5 {σ0 : pT} {I0 : pI} {F0 : pF} {p : Nat} (hp : σ0.1 = p) (hk : (σ0.2.1 p).1 = 6) (hz : ∀ t, I0 p t = 0) : PM yX5_init cX5_init mX5_init (41, 400) [.ref p] σ0 I0 F0 (nwQ p 41 σ0 I0 F0 (fun σ I => isPl σ p ∧ plZ p I)) := by
  refine PM.of oP_X5_init (catOK rfl) (Nat.le_of_ble_eq_true rfl) ?_
  show PW _ _ _ 0 [.ref p, pJ] [] _ _ _ _
  have L119 : ∀ k, k ≤ 24 → ∀ (σ : pT) (I : pI) (F : pF), PlL p σ0 I0 F0 8 5 k σ I F → PW cX5_init mX5_init (fM (nwQ p 41 σ0 I0 F0 (fun σ I => isPl σ p ∧ plZ p I))) 119 [.ref p, .int (nI k)] [] σ I F (24 - k, (24 - k) * 12) := by
    refine dn (fun k => ∀ (σ : pT) (I : pI) (F : pF), PlL p σ0 I0 F0 8 5 k σ I F → PW cX5_init mX5_init (fM (nwQ p 41 σ0 I0 F0 (fun σ I => isPl σ p ∧ plZ p I))) 119 [.ref p, .int (nI k)] [] σ I F (24 - k, (24 - k) * 12)) 24 ?_ ?_
    · intro σ I F h
      refine pw_iload_n dX5_init_119 rfl rfl ?_
      refine pw_aload_n dX5_init_120 rfl rfl ?_
      refine pw_getR (x := (p + 3)) dX5_init_121 fd_RX5_25 (by decide) h.2.1.1 rfl h.2.1.2.2.2.1 ?_
      refine pw_alenR dX5_init_124 h.2.1.2.2.2.2.2.2.2.1 (by decide) ?_
      refine pw_icmp_ge (tgt := 147) dX5_init_125 (by decide) (fun c_125 => ?_) (fun c_125 => absurd (Int32.le_refl _) c_125)
      exact pw_vret dX5_init_147 rfl (PlL_e h)
    · intro k hk ih σ I F h
      refine pw_iload_n dX5_init_119 rfl rfl ?_
      refine pw_aload_n dX5_init_120 rfl rfl ?_
      refine pw_getR (x := (p + 3)) dX5_init_121 fd_RX5_25 (by decide) h.2.1.1 rfl h.2.1.2.2.2.1 ?_
      refine pw_alenR dX5_init_124 h.2.1.2.2.2.2.2.2.2.1 (by decide) ?_
      refine pw_icmp_ge (tgt := 147) dX5_init_125 (by decide) (fun c_125 => absurd c_125 (nI_ge (b := 24) (by omega) (by decide))) (fun c_125 => ?_)
      refine pw_aload_n dX5_init_128 rfl rfl ?_
      refine pw_getR (x := (p + 3)) dX5_init_129 fd_RX5_25 (by decide) h.2.1.1 rfl h.2.1.2.2.2.1 ?_
      refine pw_iload_n dX5_init_132 rfl rfl ?_
      refine pw_new (ci := 6) dX5_init_133 (by decide) fd_RX6_9 cl_RX5_23 in_RX6 ii_RX6 (by constructor <;> (try simp only [fN_0, fN_1, fN_2, fN_3, fN_4, fN_5, fN_6]) <;> (try dsimp only) <;> omega) ?_
      refine pw_dup dX5_init_136 rfl ?_
      refine pr_callIN dX5_init_137 oX_X6_init nk_RX5_48 (sp_i6 (q := σ.1 + 1) (by show (upr σ.2.1 (σ.1 + 1) (6 + 1, 12) (σ.1 + 1)).1 = _; rw [upr_s])) rfl rfl (Nat.le_of_ble_eq_true rfl) (by decide) (fun v I1 F1 hq => ?_)
      obtain ⟨rfl, hI⟩ := hq
      refine pw_aastN (j := k) dX5_init_140 (by show upr σ.2.1 (σ.1 + 1) (6 + 1, 12) (p + 3) = _; rw [upr_n (by have := h.1; omega)]; exact h.2.1.2.2.2.2.2.2.2.1) (by omega) (by decide) (by decide) (by show (upr σ.2.1 (σ.1 + 1) (6 + 1, 12) (σ.1 + 1)).1 = _; rw [upr_s]) ?_
      refine pw_iinc (v := nI (k + 1)) dX5_init_141 rfl (nI_add _ _) rfl ?_
      refine pw_goto (tgt := 119) dX5_init_144 (by decide) ?_
      exact pw_mono (by constructor <;> (try simp only [fN_0, fN_1, fN_2, fN_3, fN_4, fN_5, fN_6]) <;> (try dsimp only) <;> omega) (ih _ _ _ (PlL_T h hk hI))
  have L89 : ∀ k, k ≤ 5 → ∀ (σ : pT) (I : pI) (F : pF), PlL p σ0 I0 F0 8 k 0 σ I F → PW cX5_init mX5_init (fM (nwQ p 41 σ0 I0 F0 (fun σ I => isPl σ p ∧ plZ p I))) 89 [.ref p, .int (nI k)] [] σ I F (5 - k + 24, (5 - k) * 2 + 288) := by
    refine dn (fun k => ∀ (σ : pT) (I : pI) (F : pF), PlL p σ0 I0 F0 8 k 0 σ I F → PW cX5_init mX5_init (fM (nwQ p 41 σ0 I0 F0 (fun σ I => isPl σ p ∧ plZ p I))) 89 [.ref p, .int (nI k)] [] σ I F (5 - k + 24, (5 - k) * 2 + 288)) 5 ?_ ?_
    · intro σ I F h
      refine pw_iload_n dX5_init_89 rfl rfl ?_
      refine pw_aload_n dX5_init_90 rfl rfl ?_
      refine pw_getR (x := (p + 2)) dX5_init_91 fd_RX5_19 (by decide) h.2.1.1 rfl h.2.1.2.2.1 ?_
      refine pw_alenR dX5_init_94 h.2.1.2.2.2.2.2.2.1 (by decide) ?_
      refine pw_icmp_ge (tgt := 117) dX5_init_95 (by decide) (fun c_95 => ?_) (fun c_95 => absurd (Int32.le_refl _) c_95)
      refine pw_iconst (v := 0) dX5_init_117 (by decide) ?_
      refine pw_istore_n dX5_init_118 rfl (by decide) rfl ?_
      exact pw_mono (by constructor <;> (try simp only [fN_0, fN_1, fN_2, fN_3, fN_4, fN_5, fN_6]) <;> (try dsimp only) <;> omega) (L119 0 (Nat.zero_le _) _ _ _ h)
    · intro k hk ih σ I F h
      refine pw_iload_n dX5_init_89 rfl rfl ?_
      refine pw_aload_n dX5_init_90 rfl rfl ?_
      refine pw_getR (x := (p + 2)) dX5_init_91 fd_RX5_19 (by decide) h.2.1.1 rfl h.2.1.2.2.1 ?_
      refine pw_alenR dX5_init_94 h.2.1.2.2.2.2.2.2.1 (by decide) ?_
      refine pw_icmp_ge (tgt := 117) dX5_init_95 (by decide) (fun c_95 => absurd c_95 (nI_ge (b := 5) (by omega) (by decide))) (fun c_95 => ?_)
      refine pw_aload_n dX5_init_98 rfl rfl ?_
      refine pw_getR (x := (p + 2)) dX5_init_99 fd_RX5_19 (by decide) h.2.1.1 rfl h.2.1.2.2.1 ?_
      refine pw_iload_n dX5_init_102 rfl rfl ?_
      refine pw_new (ci := 1) dX5_init_103 (by decide) fd_RX1_7 cl_RX5_17 in_RX1 ii_RX1 (by constructor <;> (try simp only [fN_0, fN_1, fN_2, fN_3, fN_4, fN_5, fN_6]) <;> (try dsimp only) <;> omega) ?_
      refine pw_dup dX5_init_106 rfl ?_
      refine pr_callIN dX5_init_107 oX_X1_init nk_RX5_47 (sp_i1 (q := σ.1 + 1) (by show (upr σ.2.1 (σ.1 + 1) (1 + 1, 2) (σ.1 + 1)).1 = _; rw [upr_s])) rfl rfl (Nat.le_of_ble_eq_true rfl) (by decide) (fun v I1 F1 hq => ?_)
      obtain ⟨rfl, hI⟩ := hq
      refine pw_aastN (j := k) dX5_init_110 (by show upr σ.2.1 (σ.1 + 1) (1 + 1, 2) (p + 2) = _; rw [upr_n (by have := h.1; omega)]; exact h.2.1.2.2.2.2.2.2.1) (by omega) (by decide) (by decide) (by show (upr σ.2.1 (σ.1 + 1) (1 + 1, 2) (σ.1 + 1)).1 = _; rw [upr_s]) ?_
      refine pw_iinc (v := nI (k + 1)) dX5_init_111 rfl (nI_add _ _) rfl ?_
      refine pw_goto (tgt := 89) dX5_init_114 (by decide) ?_
      exact pw_mono (by constructor <;> (try simp only [fN_0, fN_1, fN_2, fN_3, fN_4, fN_5, fN_6]) <;> (try dsimp only) <;> omega) (ih _ _ _ (PlL_C h hk hI))
  have L59 : ∀ k, k ≤ 8 → ∀ (σ : pT) (I : pI) (F : pF), PlL p σ0 I0 F0 k 0 0 σ I F → PW cX5_init mX5_init (fM (nwQ p 41 σ0 I0 F0 (fun σ I => isPl σ p ∧ plZ p I))) 59 [.ref p, .int (nI k)] [] σ I F (8 - k + 29, (8 - k) * 6 + 298) := by
    refine dn (fun k => ∀ (σ : pT) (I : pI) (F : pF), PlL p σ0 I0 F0 k 0 0 σ I F → PW cX5_init mX5_init (fM (nwQ p 41 σ0 I0 F0 (fun σ I => isPl σ p ∧ plZ p I))) 59 [.ref p, .int (nI k)] [] σ I F (8 - k + 29, (8 - k) * 6 + 298)) 8 ?_ ?_
    · intro σ I F h
      refine pw_iload_n dX5_init_59 rfl rfl ?_
      refine pw_aload_n dX5_init_60 rfl rfl ?_
      refine pw_getR (x := (p + 1)) dX5_init_61 fd_RX5_11 (by decide) h.2.1.1 rfl h.2.1.2.1 ?_
      refine pw_alenR dX5_init_64 h.2.1.2.2.2.2.2.1 (by decide) ?_
      refine pw_icmp_ge (tgt := 87) dX5_init_65 (by decide) (fun c_65 => ?_) (fun c_65 => absurd (Int32.le_refl _) c_65)
      refine pw_iconst (v := 0) dX5_init_87 (by decide) ?_
      refine pw_istore_n dX5_init_88 rfl (by decide) rfl ?_
      exact pw_mono (by constructor <;> (try simp only [fN_0, fN_1, fN_2, fN_3, fN_4, fN_5, fN_6]) <;> (try dsimp only) <;> omega) (L89 0 (Nat.zero_le _) _ _ _ h)
    · intro k hk ih σ I F h
      refine pw_iload_n dX5_init_59 rfl rfl ?_
      refine pw_aload_n dX5_init_60 rfl rfl ?_
      refine pw_getR (x := (p + 1)) dX5_init_61 fd_RX5_11 (by decide) h.2.1.1 rfl h.2.1.2.1 ?_
      refine pw_alenR dX5_init_64 h.2.1.2.2.2.2.2.1 (by decide) ?_
      refine pw_icmp_ge (tgt := 87) dX5_init_65 (by decide) (fun c_65 => absurd c_65 (nI_ge (b := 8) (by omega) (by decide))) (fun c_65 => ?_)
      refine pw_aload_n dX5_init_68 rfl rfl ?_
      refine pw_getR (x := (p + 1)) dX5_init_69 fd_RX5_11 (by decide) h.2.1.1 rfl h.2.1.2.1 ?_
      refine pw_iload_n dX5_init_72 rfl rfl ?_
      refine pw_new (ci := 0) dX5_init_73 (by decide) fd_RX0_9 cl_RX5_9 in_RX0 ii_RX0 (by constructor <;> (try simp only [fN_0, fN_1, fN_2, fN_3, fN_4, fN_5, fN_6]) <;> (try dsimp only) <;> omega) ?_
      refine pw_dup dX5_init_76 rfl ?_
      refine pr_callIN dX5_init_77 oX_X0_init nk_RX5_46 (sp_i0 (q := σ.1 + 1) (by show (upr σ.2.1 (σ.1 + 1) (0 + 1, 6) (σ.1 + 1)).1 = _; rw [upr_s])) rfl rfl (Nat.le_of_ble_eq_true rfl) (by decide) (fun v I1 F1 hq => ?_)
      obtain ⟨rfl, hI, h4⟩ := hq
      refine pw_aastN (j := k) dX5_init_80 (by show upr σ.2.1 (σ.1 + 1) (0 + 1, 6) (p + 1) = _; rw [upr_n (by have := h.1; omega)]; exact h.2.1.2.2.2.2.2.1) (by omega) (by decide) (by decide) (by show (upr σ.2.1 (σ.1 + 1) (0 + 1, 6) (σ.1 + 1)).1 = _; rw [upr_s]) ?_
      refine pw_iinc (v := nI (k + 1)) dX5_init_81 rfl (nI_add _ _) rfl ?_
      refine pw_goto (tgt := 59) dX5_init_84 (by decide) ?_
      exact pw_mono (by constructor <;> (try simp only [fN_0, fN_1, fN_2, fN_3, fN_4, fN_5, fN_6]) <;> (try dsimp only) <;> omega) (ih _ _ _ (PlL_A h hk hI h4))
  have g0 := mk_0 (ks := ksPl) (F := F0) hp hk hz
  refine pw_aload_n dX5_init_0 rfl rfl ?_
  refine pw_objInit dX5_init_1 lk_RX5_3 oi_inst oi_code ⟨by decide, by decide⟩ ?_
  refine pw_aload_n dX5_init_4 rfl rfl ?_
  refine pw_bipush (v := 8) dX5_init_5 (by decide) ?_
  refine pw_newA (ci := 0) (N := 8) dX5_init_7 (by decide) cl_RX5_9 ao_RX0 (by decide) rfl (by decide) (by constructor <;> (try simp only [fN_0, fN_1, fN_2, fN_3, fN_4, fN_5, fN_6]) <;> (try dsimp only) <;> omega) ?_
  refine pw_putFR dX5_init_10 fd_RX5_11 (by decide) rfl rfl rfl rfl (mk_k g0) ?_
  have g1 := mk_arr (k := 0) g0 rfl rfl
  refine pw_aload_n dX5_init_13 rfl rfl ?_
  refine pw_iconst (v := 5) dX5_init_14 (by decide) ?_
  refine pw_newA (ci := 1) (N := 5) dX5_init_15 (by decide) cl_RX5_17 ao_RX1 (by decide) rfl (by decide) (by constructor <;> (try simp only [fN_0, fN_1, fN_2, fN_3, fN_4, fN_5, fN_6]) <;> (try dsimp only) <;> omega) ?_
  refine pw_putFR dX5_init_18 fd_RX5_19 (by decide) rfl rfl rfl rfl (mk_k g1) ?_
  have g2 := mk_arr (k := 1) g1 rfl rfl
  refine pw_aload_n dX5_init_21 rfl rfl ?_
  refine pw_bipush (v := 24) dX5_init_22 (by decide) ?_
  refine pw_newA (ci := 6) (N := 24) dX5_init_24 (by decide) cl_RX5_23 ao_RX6 (by decide) rfl (by decide) (by constructor <;> (try simp only [fN_0, fN_1, fN_2, fN_3, fN_4, fN_5, fN_6]) <;> (try dsimp only) <;> omega) ?_
  refine pw_putFR dX5_init_27 fd_RX5_25 (by decide) rfl rfl rfl rfl (mk_k g2) ?_
  have g3 := mk_arr (k := 2) g2 rfl rfl
  refine pw_aload_n dX5_init_30 rfl rfl ?_
  refine pw_iconst (v := 5) dX5_init_31 (by decide) ?_
  refine pw_newI (N := 5) dX5_init_32 ac_int (by decide) rfl (by decide) (by constructor <;> (try simp only [fN_0, fN_1, fN_2, fN_3, fN_4, fN_5, fN_6]) <;> (try dsimp only) <;> omega) ?_
  refine pw_putFR dX5_init_34 fd_RX5_29 (by decide) rfl rfl rfl rfl (mk_k g3) ?_
  have g4 := mk_arr (k := 3) g3 rfl rfl
  refine pw_aload_n dX5_init_37 rfl rfl ?_
  refine pw_iconst (v := 0) dX5_init_38 (by decide) ?_
  refine pw_putI dX5_init_39 fd_RX5_33 (by decide) rfl ⟨rfl, rfl, rfl⟩ g4.2.1 ?_
  have g5 := mk_put (k := 4) g4
  refine pw_aload_n dX5_init_42 rfl rfl ?_
  refine pw_iconst (v := 0) dX5_init_43 (by decide) ?_
  refine pw_putI dX5_init_44 fd_RX5_37 (by decide) rfl ⟨rfl, rfl, rfl⟩ g5.2.1 ?_
  have g6 := mk_put (k := 5) g5
  refine pw_aload_n dX5_init_47 rfl rfl ?_
  refine pw_iconst (v := 0) dX5_init_48 (by decide) ?_
  refine pw_putI dX5_init_49 fd_RX5_40 (by decide) rfl ⟨rfl, rfl, rfl⟩ g6.2.1 ?_
  have g7 := mk_put (k := 6) g6
  refine pw_aload_n dX5_init_52 rfl rfl ?_
  refine pw_iconst (v := 0) dX5_init_53 (by decide) ?_
  refine pw_putI dX5_init_54 fd_RX5_43 (by decide) rfl ⟨rfl, rfl, rfl⟩ g7.2.1 ?_
  have g8 := mk_put (k := 7) g7
  refine pw_iconst (v := 0) dX5_init_57 (by decide) ?_
  refine pw_istore_n dX5_init_58 rfl (by decide) rfl ?_
  exact pw_mono (by constructor <;> (try simp only [fN_0, fN_1, fN_2, fN_3, fN_4, fN_5, fN_6]) <;> (try dsimp only) <;> omega) (L59 0 (Nat.zero_le _) _ _ _ (PlL_0 g8))

def ksHi : List (Nat × Nat × Nat) := [(0, 35, 4)]
def HiL (q : Nat) (σ0 : pT) (I0 : pI) (F0 : pF) (k : Nat) (σ : pT) (I : pI) (F : pF) : Prop :=
  σ.1 = q + 1 + 42 * k ∧ (σ.2.1 q).1 = 3 ∧ σ.2.2 q 0 = some (q + 1) ∧ σ.2.1 (q + 1) = (5 + 30, 4) ∧ (∀ i, i < k → σ.2.2 (q + 1) i = some (q + 2 + 42 * i)) ∧ (∀ i, i < k → isPl σ (q + 2 + 42 * i)) ∧ ext q σ0 σ I0 I F0 F ∧ (∀ t, I q t = 0) ∧ ∀ i, i < k → RepB (q + 2 + 42 * i) I
def hiZ (q : Nat) (I : pI) : Prop := (∀ t, I q t = 0) ∧ ∀ i, i < 4 → RepB (q + 2 + 42 * i) I
theorem HiL_0 {q : Nat} {σ0 σ : pT} {I0 I : pI} {F0 F : pF} (h : MkS q 3 σ0 I0 F0 ksHi 1 σ I F) : HiL q σ0 I0 F0 0 σ I F := by
  obtain ⟨h1, h2, h3, h4, h5⟩ := h
  obtain ⟨a1, a2, -⟩ := h5 0 (0, 35, 4) (by decide) rfl
  exact ⟨h1, h2, a1, a2, fun _ h => absurd h (Nat.not_lt_zero _), fun _ h => absurd h (Nat.not_lt_zero _), h4, h3, fun _ h => absurd h (Nat.not_lt_zero _)⟩
theorem HiL_e {q : Nat} {σ0 σ : pT} {I0 I : pI} {F0 F : pF} (h : HiL q σ0 I0 F0 4 σ I F) : nwQ q 169 σ0 I0 F0 (fun σ I => isHi σ q ∧ hiZ q I) none σ I F := by
  obtain ⟨h1, a1, a2, a3, a4, a5, h4, h5, h6⟩ := h
  exact ⟨rfl, by omega, h4, ⟨a1, a2, a3, a4, a5⟩, h5, h6⟩
theorem HiL_s {q k : Nat} {σ0 σ σ1 : pT} {I0 I I1 : pI} {F0 F F1 : pF} (h : HiL q σ0 I0 F0 k σ I F) (hk : k < 4) (h1 : σ1.1 = σ.1 + 1 + 41) (he : ext (σ.1 + 1) (σnew σ (5 + 1) 8) σ1 (Inew σ I) I1 (Fnew σ F) F1) (hp : isPl σ1 (σ.1 + 1)) (hz : plZ (σ.1 + 1) I1) : HiL q σ0 I0 F0 (k + 1) (σ1.1, σ1.2.1, up2 σ1.2.2 (q + 1) k (some (σ.1 + 1))) I1 F1 := by
  obtain ⟨g1, a1, a2, a3, a4, a5, g4, g5, g6⟩ := h
  have e : σ.1 + 1 = q + 2 + 42 * k := by omega
  have J : ∀ i, i ≤ σ.1 → σ1.2.1 i = σ.2.1 i ∧ σ1.2.2 i = σ.2.2 i ∧ I1 i = I i ∧ F1 i = F i := fun i hi => by
    obtain ⟨b1, b2, b3, b4⟩ := he i (by omega)
    exact ⟨b1.trans (upr_n (by omega)), b2.trans (upr_n (by omega)), b3.trans (upr_n (by omega)), b4.trans (upr_n (by omega))⟩
  have U : ∀ i, i ≠ q + 1 → up2 σ1.2.2 (q + 1) k (some (σ.1 + 1)) i = σ1.2.2 i := fun i hi => up2_row hi
  refine ⟨by show σ1.1 = _; omega, ?_, ?_, ?_, fun i hi => ?_, fun i hi => ?_, fun i hi => ?_, fun t => ?_, fun i hi => ?_⟩
  · show (σ1.2.1 q).1 = 3
    rw [(J q (by omega)).1]; exact a1
  · exact (congrFun ((U q (by omega)).trans (J q (by omega)).2.1) 0).trans a2
  · show σ1.2.1 (q + 1) = _
    rw [(J _ (by omega)).1]; exact a3
  · by_cases hc : i = k
    · subst hc
      show up2 _ (q + 1) i (some (σ.1 + 1)) (q + 1) i = _
      rw [up2_s, e]
    · show up2 σ1.2.2 (q + 1) k (some (σ.1 + 1)) (q + 1) i = _
      rw [up2_nj hc, (J _ (by omega)).2.1]
      exact a4 i (by omega)
  · by_cases hc : i = k
    · subst hc
      rw [← e]
      exact isPl_fr hp (fun j h1 h2 => ⟨rfl, U j (by omega)⟩)
    · exact isPl_fr (a5 i (by omega)) (fun j h1 h2 => ⟨(J j (by omega)).1, (U j (by omega)).trans (J j (by omega)).2.1⟩)
  · obtain ⟨b1, b2, b3, b4⟩ := g4 i hi
    obtain ⟨c1, c2, c3, c4⟩ := J i (by omega)
    exact ⟨c1.trans b1, (U i (by omega)).trans (c2.trans b2), c3.trans b3, c4.trans b4⟩
  · rw [(J q (by omega)).2.2.1]; exact g5 t
  · by_cases hc : i = k
    · subst hc
      rw [← e]
      exact hz.2.2
    · exact RepB_eq (g6 i (by omega)) (fun j h1 h2 => (J j (by omega)).2.2.1)

set_option maxRecDepth 4000 in
theorem sp_i2 {σ0 : pT} {I0 : pI} {F0 : pF} {q : Nat} (hp : σ0.1 = q) (hk : (σ0.2.1 q).1 = 3) (hz : ∀ t, I0 q t = 0) : PM yX2_init cX2_init mX2_init (169, 1700) [.ref q] σ0 I0 F0 (nwQ q 169 σ0 I0 F0 (fun σ I => isHi σ q ∧ hiZ q I)) := by
  refine PM.of oP_X2_init (catOK rfl) (Nat.le_of_ble_eq_true rfl) ?_
  show PW _ _ _ 0 [.ref q, pJ] [] _ _ _ _
  have L24 : ∀ k, k ≤ 4 → ∀ (σ : pT) (I : pI) (F : pF), HiL q σ0 I0 F0 k σ I F → PW cX2_init mX2_init (fM (nwQ q 169 σ0 I0 F0 (fun σ I => isHi σ q ∧ hiZ q I))) 24 [.ref q, .int (nI k)] [] σ I F ((4 - k) * 42, (4 - k) * 408) := by
    refine dn (fun k => ∀ (σ : pT) (I : pI) (F : pF), HiL q σ0 I0 F0 k σ I F → PW cX2_init mX2_init (fM (nwQ q 169 σ0 I0 F0 (fun σ I => isHi σ q ∧ hiZ q I))) 24 [.ref q, .int (nI k)] [] σ I F ((4 - k) * 42, (4 - k) * 408)) 4 ?_ ?_
    · intro σ I F h
      refine pw_iload_n dX2_init_24 rfl rfl ?_
      refine pw_aload_n dX2_init_25 rfl rfl ?_
      refine pw_getR (x := (q + 1)) dX2_init_26 fd_RX2_11 (by decide) h.2.1 rfl h.2.2.1 ?_
      refine pw_alenR dX2_init_29 h.2.2.2.1 (by decide) ?_
      refine pw_icmp_ge (tgt := 52) dX2_init_30 (by decide) (fun c_30 => ?_) (fun c_30 => absurd (Int32.le_refl _) c_30)
      exact pw_vret dX2_init_52 rfl (HiL_e h)
    · intro k hk ih σ I F h
      refine pw_iload_n dX2_init_24 rfl rfl ?_
      refine pw_aload_n dX2_init_25 rfl rfl ?_
      refine pw_getR (x := (q + 1)) dX2_init_26 fd_RX2_11 (by decide) h.2.1 rfl h.2.2.1 ?_
      refine pw_alenR dX2_init_29 h.2.2.2.1 (by decide) ?_
      refine pw_icmp_ge (tgt := 52) dX2_init_30 (by decide) (fun c_30 => absurd c_30 (nI_ge (b := 4) (by omega) (by decide))) (fun c_30 => ?_)
      refine pw_aload_n dX2_init_33 rfl rfl ?_
      refine pw_getR (x := (q + 1)) dX2_init_34 fd_RX2_11 (by decide) h.2.1 rfl h.2.2.1 ?_
      refine pw_iload_n dX2_init_37 rfl rfl ?_
      refine pw_new (ci := 5) dX2_init_38 (by decide) fd_RX5_11 cl_RX2_9 in_RX5 ii_RX5 (by constructor <;> (try simp only [fN_0, fN_1, fN_2, fN_3, fN_4, fN_5, fN_6]) <;> (try dsimp only) <;> omega) ?_
      refine pw_dup dX2_init_41 rfl ?_
      refine pw_callI dX2_init_42 oX_X5_init lk_RX2_24 (sp_i5 (p := σ.1 + 1) rfl (by show (upr σ.2.1 (σ.1 + 1) (5 + 1, 8) (σ.1 + 1)).1 = _; rw [upr_s]) (fun t => by show upr I (σ.1 + 1) (fun _ => 0) (σ.1 + 1) t = 0; rw [upr_s])) rfl rfl (Nat.le_of_ble_eq_true rfl) (by decide) (by constructor <;> (try simp only [fN_0, fN_1, fN_2, fN_3, fN_4, fN_5, fN_6]) <;> (try dsimp only) <;> omega) (fun v σ1 I1 F1 hq => ?_)
      obtain ⟨rfl, h1, he, hpl, hzl⟩ := hq
      refine pw_aastN (j := k) dX2_init_45 (by rw [(he (q + 1) (by have := h.1; omega)).1]; show upr σ.2.1 (σ.1 + 1) (5 + 1, 8) (q + 1) = _; rw [upr_n (by have := h.1; omega)]; exact h.2.2.2.1) (by omega) (by decide) (by decide) hpl.1 ?_
      refine pw_iinc (v := nI (k + 1)) dX2_init_46 rfl (nI_add _ _) rfl ?_
      refine pw_goto (tgt := 24) dX2_init_49 (by decide) ?_
      exact pw_mono (by constructor <;> (try simp only [fN_0, fN_1, fN_2, fN_3, fN_4, fN_5, fN_6]) <;> (try dsimp only) <;> omega) (ih _ _ _ (HiL_s h hk h1 he hpl hzl))
  have g0 := mk_0 (ks := ksHi) (F := F0) hp hk hz
  refine pw_aload_n dX2_init_0 rfl rfl ?_
  refine pw_objInit dX2_init_1 lk_RX2_3 oi_inst oi_code ⟨by decide, by decide⟩ ?_
  refine pw_aload_n dX2_init_4 rfl rfl ?_
  refine pw_iconst (v := 4) dX2_init_5 (by decide) ?_
  refine pw_newA (ci := 5) (N := 4) dX2_init_6 (by decide) cl_RX2_9 ao_RX5 (by decide) rfl (by decide) (by constructor <;> (try simp only [fN_0, fN_1, fN_2, fN_3, fN_4, fN_5, fN_6]) <;> (try dsimp only) <;> omega) ?_
  refine pw_putFR dX2_init_9 fd_RX2_11 (by decide) rfl rfl rfl rfl (mk_k g0) ?_
  have g1 := mk_arr (k := 0) g0 rfl rfl
  refine pw_aload_n dX2_init_12 rfl rfl ?_
  refine pw_iconst (v := 0) dX2_init_13 (by decide) ?_
  refine pw_putI dX2_init_14 fd_RX2_17 (by decide) rfl ⟨rfl, rfl, rfl⟩ g1.2.1 ?_
  have g2 := mk_put (k := 1) g1
  refine pw_aload_n dX2_init_17 rfl rfl ?_
  refine pw_iconst (v := 0) dX2_init_18 (by decide) ?_
  refine pw_putI dX2_init_19 fd_RX2_21 (by decide) rfl ⟨rfl, rfl, rfl⟩ g2.2.1 ?_
  have g3 := mk_put (k := 2) g2
  refine pw_iconst (v := 0) dX2_init_22 (by decide) ?_
  refine pw_istore_n dX2_init_23 rfl (by decide) rfl ?_
  exact pw_mono (by constructor <;> (try simp only [fN_0, fN_1, fN_2, fN_3, fN_4, fN_5, fN_6]) <;> (try dsimp only) <;> omega) (L24 0 (Nat.zero_le _) _ _ _ (HiL_0 g3))

def ksOr : List (Nat × Nat × Nat) := [(0, 21, 60), (2, 33, 20)]
def OrL (q : Nat) (σ0 : pT) (I0 : pI) (F0 : pF) (k : Nat) (σ : pT) (I : pI) (F : pF) : Prop :=
  σ.1 = q + 2 + k ∧ (σ.2.1 q).1 = 5 ∧ σ.2.2 q 0 = some (q + 1) ∧ σ.2.2 q 2 = some (q + 2) ∧ σ.2.1 (q + 1) = (21, 60) ∧ σ.2.1 (q + 2) = (3 + 30, 20) ∧ (∀ i, i < k → σ.2.2 (q + 2) i = some (q + 3 + i)) ∧ (∀ i, i < k → (σ.2.1 (q + 3 + i)).1 = 3 + 1) ∧ ext q σ0 σ I0 I F0 F ∧ ∀ t, I q t = 0
theorem OrL_0 {q : Nat} {σ0 σ : pT} {I0 I : pI} {F0 F : pF} (h : MkS q 5 σ0 I0 F0 ksOr 2 σ I F) : OrL q σ0 I0 F0 0 σ I F := by
  obtain ⟨h1, h2, h3, h4, h5⟩ := h
  obtain ⟨a1, a2, -⟩ := h5 0 (0, 21, 60) (by decide) rfl
  obtain ⟨b1, b2, -⟩ := h5 1 (2, 33, 20) (by decide) rfl
  exact ⟨h1, h2, a1, b1, a2, b2, fun _ h => absurd h (Nat.not_lt_zero _), fun _ h => absurd h (Nat.not_lt_zero _), h4, h3⟩
theorem OrL_e {q : Nat} {σ0 σ : pT} {I0 I : pI} {F0 F : pF} (h : OrL q σ0 I0 F0 20 σ I F) : nwQ q 22 σ0 I0 F0 (fun σ I => isOr σ q ∧ ∀ t, I q t = 0) none σ I F := by
  obtain ⟨h1, a1, a2, a3, a4, a5, a6, a7, h4, h5⟩ := h
  exact ⟨rfl, by omega, h4, ⟨a1, a2, a3, a4, a5, a6, a7⟩, h5⟩
theorem OrL_s_ {q k : Nat} {σ0 σ σ' : pT} {I0 I I' : pI} {F0 F F' : pF} (h : OrL q σ0 I0 F0 k σ I F) (hk : k < 20) (e1 : σ'.1 = σ.1 + 1) (K : ∀ i, i ≠ σ.1 + 1 → σ'.2.1 i = σ.2.1 i) (Kn : σ'.2.1 (σ.1 + 1) = (3 + 1, 3)) (R : ∀ i, i ≠ σ.1 + 1 → i ≠ q + 2 → σ'.2.2 i = σ.2.2 i) (Rn : σ'.2.2 (q + 2) k = some (σ.1 + 1)) (Ro : ∀ j, j ≠ k → σ'.2.2 (q + 2) j = σ.2.2 (q + 2) j) (J : ∀ i, i ≠ σ.1 + 1 → I' i = I i ∧ F' i = F i) : OrL q σ0 I0 F0 (k + 1) σ' I' F' := by
  obtain ⟨h1, a1, a2, a3, a4, a5, a6, a7, g4, g5⟩ := h
  have e : σ.1 + 1 = q + 3 + k := by omega
  refine ⟨by omega, ?_, ?_, ?_, ?_, ?_, fun i hi => ?_, fun i hi => ?_, fun i hi => ?_, fun t => ?_⟩
  · rw [K q (by omega)]; exact a1
  · rw [R q (by omega) (by omega)]; exact a2
  · rw [R q (by omega) (by omega)]; exact a3
  · rw [K _ (by omega)]; exact a4
  · rw [K _ (by omega)]; exact a5
  · by_cases hc : i = k
    · subst hc
      rw [Rn, e]
    · rw [Ro i hc]
      exact a6 i (by omega)
  · by_cases hc : i = k
    · subst hc
      rw [← e, Kn]
    · rw [K _ (by omega)]
      exact a7 i (by omega)
  · obtain ⟨c1, c2, c3, c4⟩ := g4 i hi
    exact ⟨(K i (by omega)).trans c1, (R i (by omega) (by omega)).trans c2, (J i (by omega)).1.trans c3, (J i (by omega)).2.trans c4⟩
  · rw [(J q (by omega)).1]; exact g5 t
theorem OrL_s {q k : Nat} {σ0 σ : pT} {I0 I I' : pI} {F0 F F' : pF} (h : OrL q σ0 I0 F0 k σ I F) (hk : k < 20) (hI : ∀ i, i ≠ σ.1 + 1 → I' i = Inew σ I i ∧ F' i = Fnew σ F i) : OrL q σ0 I0 F0 (k + 1) ((σnew σ (3 + 1) 3).1, (σnew σ (3 + 1) 3).2.1, up2 (σnew σ (3 + 1) 3).2.2 (q + 2) k (some (σ.1 + 1))) I' F' :=
  OrL_s_ h hk rfl (fun i hi => upr_n hi) upr_s (fun i hi h2 => (up2_row h2).trans (upr_n hi)) up2_s (fun j hj => (up2_nj hj).trans (congrFun (upr_n (by have := h.1; omega)) j)) (fun i hi => ⟨(hI i hi).1.trans (upr_n hi), (hI i hi).2.trans (upr_n hi)⟩)

set_option maxRecDepth 4000 in
theorem sp_i4 {σ0 : pT} {I0 : pI} {F0 : pF} {q : Nat} (hp : σ0.1 = q) (hk : (σ0.2.1 q).1 = 5) (hz : ∀ t, I0 q t = 0) : PM yX4_init cX4_init mX4_init (22, 140) [.ref q] σ0 I0 F0 (nwQ q 22 σ0 I0 F0 (fun σ I => isOr σ q ∧ ∀ t, I q t = 0)) := by
  refine PM.of oP_X4_init (catOK rfl) (Nat.le_of_ble_eq_true rfl) ?_
  show PW _ _ _ 0 [.ref q, pJ] [] _ _ _ _
  have L38 : ∀ k, k ≤ 20 → ∀ (σ : pT) (I : pI) (F : pF), OrL q σ0 I0 F0 k σ I F → PW cX4_init mX4_init (fM (nwQ q 22 σ0 I0 F0 (fun σ I => isOr σ q ∧ ∀ t, I q t = 0))) 38 [.ref q, .int (nI k)] [] σ I F (20 - k, (20 - k) * 3) := by
    refine dn (fun k => ∀ (σ : pT) (I : pI) (F : pF), OrL q σ0 I0 F0 k σ I F → PW cX4_init mX4_init (fM (nwQ q 22 σ0 I0 F0 (fun σ I => isOr σ q ∧ ∀ t, I q t = 0))) 38 [.ref q, .int (nI k)] [] σ I F (20 - k, (20 - k) * 3)) 20 ?_ ?_
    · intro σ I F h
      refine pw_iload_n dX4_init_38 rfl rfl ?_
      refine pw_aload_n dX4_init_39 rfl rfl ?_
      refine pw_getR (x := (q + 2)) dX4_init_40 fd_RX4_21 (by decide) h.2.1 rfl h.2.2.2.1 ?_
      refine pw_alenR dX4_init_43 h.2.2.2.2.2.1 (by decide) ?_
      refine pw_icmp_ge (tgt := 66) dX4_init_44 (by decide) (fun c_44 => ?_) (fun c_44 => absurd (Int32.le_refl _) c_44)
      exact pw_vret dX4_init_66 rfl (OrL_e h)
    · intro k hk ih σ I F h
      refine pw_iload_n dX4_init_38 rfl rfl ?_
      refine pw_aload_n dX4_init_39 rfl rfl ?_
      refine pw_getR (x := (q + 2)) dX4_init_40 fd_RX4_21 (by decide) h.2.1 rfl h.2.2.2.1 ?_
      refine pw_alenR dX4_init_43 h.2.2.2.2.2.1 (by decide) ?_
      refine pw_icmp_ge (tgt := 66) dX4_init_44 (by decide) (fun c_44 => absurd c_44 (nI_ge (b := 20) (by omega) (by decide))) (fun c_44 => ?_)
      refine pw_aload_n dX4_init_47 rfl rfl ?_
      refine pw_getR (x := (q + 2)) dX4_init_48 fd_RX4_21 (by decide) h.2.1 rfl h.2.2.2.1 ?_
      refine pw_iload_n dX4_init_51 rfl rfl ?_
      refine pw_new (ci := 3) dX4_init_52 (by decide) fd_RX3_7 cl_RX4_19 in_RX3 ii_RX3 (by constructor <;> (try simp only [fN_0, fN_1, fN_2, fN_3, fN_4, fN_5, fN_6]) <;> (try dsimp only) <;> omega) ?_
      refine pw_dup dX4_init_55 rfl ?_
      refine pr_callIN dX4_init_56 oX_X3_init nk_RX4_31 (sp_i3 (q := σ.1 + 1) (by show (upr σ.2.1 (σ.1 + 1) (3 + 1, 3) (σ.1 + 1)).1 = _; rw [upr_s])) rfl rfl (Nat.le_of_ble_eq_true rfl) (by decide) (fun v I1 F1 hq => ?_)
      obtain ⟨rfl, hI⟩ := hq
      refine pw_aastN (j := k) dX4_init_59 (by show upr σ.2.1 (σ.1 + 1) (3 + 1, 3) (q + 2) = _; rw [upr_n (by have := h.1; omega)]; exact h.2.2.2.2.2.1) (by omega) (by decide) (by decide) (by show (upr σ.2.1 (σ.1 + 1) (3 + 1, 3) (σ.1 + 1)).1 = _; rw [upr_s]) ?_
      refine pw_iinc (v := nI (k + 1)) dX4_init_60 rfl (nI_add _ _) rfl ?_
      refine pw_goto (tgt := 38) dX4_init_63 (by decide) ?_
      exact pw_mono (by constructor <;> (try simp only [fN_0, fN_1, fN_2, fN_3, fN_4, fN_5, fN_6]) <;> (try dsimp only) <;> omega) (ih _ _ _ (OrL_s h hk hI))
  have g0 := mk_0 (ks := ksOr) (F := F0) hp hk hz
  refine pw_aload_n dX4_init_0 rfl rfl ?_
  refine pw_objInit dX4_init_1 lk_RX4_3 oi_inst oi_code ⟨by decide, by decide⟩ ?_
  refine pw_aload_n dX4_init_4 rfl rfl ?_
  refine pw_bipush (v := 60) dX4_init_5 (by decide) ?_
  refine pw_newC (N := 60) dX4_init_7 ac_char (by decide) rfl (by decide) (by constructor <;> (try simp only [fN_0, fN_1, fN_2, fN_3, fN_4, fN_5, fN_6]) <;> (try dsimp only) <;> omega) ?_
  refine pw_putFR dX4_init_9 fd_RX4_9 (by decide) rfl rfl rfl rfl (mk_k g0) ?_
  have g1 := mk_arr (k := 0) g0 rfl rfl
  refine pw_aload_n dX4_init_12 rfl rfl ?_
  refine pw_iconst (v := 0) dX4_init_13 (by decide) ?_
  refine pw_putI dX4_init_14 fd_RX4_15 (by decide) rfl ⟨rfl, rfl, rfl⟩ g1.2.1 ?_
  have g2 := mk_put (k := 1) g1
  refine pw_aload_n dX4_init_17 rfl rfl ?_
  refine pw_bipush (v := 20) dX4_init_18 (by decide) ?_
  refine pw_newA (ci := 3) (N := 20) dX4_init_20 (by decide) cl_RX4_19 ao_RX3 (by decide) rfl (by decide) (by constructor <;> (try simp only [fN_0, fN_1, fN_2, fN_3, fN_4, fN_5, fN_6]) <;> (try dsimp only) <;> omega) ?_
  refine pw_putFR dX4_init_23 fd_RX4_21 (by decide) rfl rfl rfl rfl (mk_k g2) ?_
  have g3 := mk_arr (k := 2) g2 rfl rfl
  refine pw_aload_n dX4_init_26 rfl rfl ?_
  refine pw_iconst (v := 0) dX4_init_27 (by decide) ?_
  refine pw_putI dX4_init_28 fd_RX4_25 (by decide) rfl ⟨rfl, rfl, rfl⟩ g3.2.1 ?_
  have g4 := mk_put (k := 3) g3
  refine pw_aload_n dX4_init_31 rfl rfl ?_
  refine pw_iconst (v := 0) dX4_init_32 (by decide) ?_
  refine pw_putI dX4_init_33 fd_RX4_28 (by decide) rfl ⟨rfl, rfl, rfl⟩ g4.2.1 ?_
  have g5 := mk_put (k := 4) g4
  refine pw_iconst (v := 0) dX4_init_36 (by decide) ?_
  refine pw_istore_n dX4_init_37 rfl (by decide) rfl ?_
  exact pw_mono (by constructor <;> (try simp only [fN_0, fN_1, fN_2, fN_3, fN_4, fN_5, fN_6]) <;> (try dsimp only) <;> omega) (L38 0 (Nat.zero_le _) _ _ _ (OrL_0 g5))
end
section
/-! the object made, and the start -/
def Fr (x s k : Nat) (σ σ' : pT) (I I' : pI) : Prop := (∀ i, i ≤ s → i ≠ x → σ'.2.1 i = σ.2.1 i ∧ σ'.2.2 i = σ.2.2 i ∧ I' i = I i) ∧ ∀ j, j ≠ k → σ'.2.2 x j = σ.2.2 x j
def Apl (x j o : Nat) (σ : pT) (I : pI) : Prop := σ.2.2 x j = some (x + o) ∧ isPl σ (x + o) ∧ plZ (x + o) I
def Ahi (x : Nat) (σ : pT) (I : pI) : Prop := σ.2.2 x 4 = some (x + 127) ∧ isHi σ (x + 127) ∧ hiZ (x + 127) I
def Aor (x : Nat) (σ : pT) (I : pI) : Prop := σ.2.2 x 5 = some (x + 297) ∧ isOr σ (x + 297) ∧ ∀ t, I (x + 297) t = 0
def Bx (x s : Nat) (σ0 : pT) (I0 : pI) (F0 : pF) (σ : pT) (I : pI) (F : pF) : Prop := σ.1 = s ∧ (σ.2.1 x).1 = 8 ∧ (∀ t, I x t = 0) ∧ ext x σ0 σ I0 I F0 F
section TW
variable {x s k j o s' kd n : Nat} {σ0 σ σ' σc : pT} {I0 I I' Ic : pI} {F0 F Fc : pF}
theorem fr_pl (h : Apl x j o σ I) (hf : Fr x s k σ σ' I I') (hj : j ≠ k) (ho : 1 ≤ o) (hs : x + o + 41 ≤ s) : Apl x j o σ' I' := by
  obtain ⟨h1, h2, h3, h4, h5⟩ := h
  obtain ⟨f1, f2⟩ := hf
  refine ⟨(f2 j hj).trans h1, isPl_fr h2 (fun i h6 h7 => ?_), fun t => ?_, fun t => ?_, RepB_eq h5 (fun i h6 h7 => (f1 i (by omega) (by omega)).2.2)⟩
  · obtain ⟨a, b, c⟩ := f1 i (by omega) (by omega)
    exact ⟨a, b⟩
  · rw [(f1 _ (by omega) (by omega)).2.2]; exact h3 t
  · rw [(f1 _ (by omega) (by omega)).2.2]; exact h4 t
theorem fr_hi (h : Ahi x σ I) (hf : Fr x s k σ σ' I I') (hj : 4 ≠ k) (hs : x + 296 ≤ s) : Ahi x σ' I' := by
  obtain ⟨h1, h2, h3, h4⟩ := h
  obtain ⟨f1, f2⟩ := hf
  refine ⟨(f2 _ hj).trans h1, isHi_fr h2 (fun i h6 h7 => ?_), fun t => ?_, fun i hi => RepB_eq (h4 i hi) (fun i h6 h7 => (f1 i (by omega) (by omega)).2.2)⟩
  · obtain ⟨a, b, c⟩ := f1 i (by omega) (by omega)
    exact ⟨a, b⟩
  · rw [(f1 _ (by omega) (by omega)).2.2]; exact h3 t
theorem tw_fr (hb : Bx x s σ0 I0 F0 σ I F) (hx : x ≤ s) (he : ext (σ.1 + 1) (σnew σ kd n) σc (Inew σ I) Ic (Fnew σ F) Fc) : Fr x s k σ (σc.1, σc.2.1, up2 σc.2.2 x k (some (σ.1 + 1))) I Ic := by
  have h1 := hb.1
  refine ⟨fun i hi hne => ?_, fun j hj => ?_⟩
  · obtain ⟨b1, b2, b3, b4⟩ := he i (by omega)
    exact ⟨b1.trans (upr_n (by omega)), (up2_row hne).trans (b2.trans (upr_n (by omega))), b3.trans (upr_n (by omega))⟩
  · show up2 σc.2.2 x k (some (σ.1 + 1)) x j = _
    rw [up2_nj hj, (he x (by omega)).2.1]
    exact congrFun (upr_n (by omega)) j
theorem tw_b (hb : Bx x s σ0 I0 F0 σ I F) (hx : x ≤ s) (he : ext (σ.1 + 1) (σnew σ kd n) σc (Inew σ I) Ic (Fnew σ F) Fc) (h1 : σc.1 = s') : Bx x s' σ0 I0 F0 (σc.1, σc.2.1, up2 σc.2.2 x k (some (σ.1 + 1))) Ic Fc := by
  obtain ⟨g1, g2, g3, g4⟩ := hb
  refine ⟨h1, ?_, fun t => ?_, fun i hi => ?_⟩
  · show (σc.2.1 x).1 = 8
    rw [(he x (by omega)).1]
    show (upr σ.2.1 (σ.1 + 1) (kd, n) x).1 = 8
    rw [upr_n (by omega)]
    exact g2
  · rw [(he x (by omega)).2.2.1]
    show upr I (σ.1 + 1) (fun _ => 0) x t = 0
    rw [upr_n (by omega)]
    exact g3 t
  · obtain ⟨b1, b2, b3, b4⟩ := he i (by omega)
    obtain ⟨c1, c2, c3, c4⟩ := g4 i hi
    exact ⟨b1.trans ((upr_n (by omega)).trans c1), (up2_row (by omega)).trans (b2.trans ((upr_n (by omega)).trans c2)), b3.trans ((upr_n (by omega)).trans c3), b4.trans ((upr_n (by omega)).trans c4)⟩
theorem tw_bk (hb : Bx x s σ0 I0 F0 σ I F) (hx : x ≤ s) (he : ext (σ.1 + 1) (σnew σ kd n) σc (Inew σ I) Ic (Fnew σ F) Fc) : (σc.2.1 x).1 = 8 := (tw_b (k := 0) hb hx he rfl).2.1
theorem tw_put (hb : Bx x s σ0 I0 F0 σ I F) : Bx x s σ0 I0 F0 σ (up2 I x k 0) F := by
  obtain ⟨g1, g2, g3, g4⟩ := hb
  refine ⟨g1, g2, fun t => ?_, fun i hi => ?_⟩
  · by_cases ht : t = k
    · subst ht
      exact up2_s
    · rw [up2_nj ht]
      exact g3 t
  · obtain ⟨b1, b2, b3, b4⟩ := g4 i hi
    exact ⟨b1, b2, (up2_row (by omega)).trans b3, b4⟩
theorem fr_put {v : Int32} : Fr x s k σ σ I (up2 I x j v) := ⟨fun i _ h => ⟨rfl, rfl, up2_row h⟩, fun _ _ => rfl⟩
theorem new_pl (e : σ.1 + 1 = x + o) (ho : 1 ≤ o) (hpl : isPl σc (σ.1 + 1)) (hz : plZ (σ.1 + 1) Ic) : Apl x k o (σc.1, σc.2.1, up2 σc.2.2 x k (some (σ.1 + 1))) Ic := by
  rw [e] at hpl hz ⊢
  exact ⟨up2_s, isPl_fr hpl (fun i h1 h2 => ⟨rfl, up2_row (by omega)⟩), hz⟩
theorem new_hi (e : σ.1 + 1 = x + 127) (hpl : isHi σc (σ.1 + 1)) (hz : hiZ (σ.1 + 1) Ic) : Ahi x (σc.1, σc.2.1, up2 σc.2.2 x 4 (some (σ.1 + 1))) Ic := by
  rw [e] at hpl hz ⊢
  exact ⟨up2_s, isHi_fr hpl (fun i h1 h2 => ⟨rfl, up2_row (by omega)⟩), hz⟩
theorem new_or (e : σ.1 + 1 = x + 297) (hpl : isOr σc (σ.1 + 1)) (hz : ∀ t, Ic (σ.1 + 1) t = 0) : Aor x (σc.1, σc.2.1, up2 σc.2.2 x 5 (some (σ.1 + 1))) Ic := by
  rw [e] at hpl hz ⊢
  exact ⟨up2_s, isOr_fr hpl (fun i h1 h2 => ⟨rfl, up2_row (by omega)⟩), hz⟩
end TW
def twZ (x : Nat) (I : pI) : Prop := (∀ t, I x t = 0) ∧ plZ (x + 1) I ∧ plZ (x + 43) I ∧ plZ (x + 85) I ∧ hiZ (x + 127) I ∧ ∀ t, I (x + 297) t = 0

set_option maxRecDepth 4000 in
theorem sp_i7 {σ0 : pT} {I0 : pI} {F0 : pF} {x : Nat} (hp : σ0.1 = x) (hk : (σ0.2.1 x).1 = 8) (hz : ∀ t, I0 x t = 0) : PM yX7_init cX7_init mX7_init (319, 3200) [.ref x] σ0 I0 F0 (nwQ x 319 σ0 I0 F0 (fun σ I => isTW σ x ∧ twZ x I)) := by
  refine PM.of oP_X7_init (catOK rfl) (Nat.le_of_ble_eq_true rfl) ?_
  show PW _ _ _ 0 [.ref x] [] _ _ _ _
  have b0 : Bx x (x + 0) σ0 I0 F0 σ0 I0 F0 := ⟨hp, hk, hz, fun _ _ => ⟨rfl, rfl, rfl, rfl⟩⟩
  refine pw_aload_n dX7_init_0 rfl rfl ?_
  refine pw_objInit dX7_init_1 lk_RX7_1 oi_inst oi_code ⟨by decide, by decide⟩ ?_
  refine pw_aload_n dX7_init_4 rfl rfl ?_
  refine pw_new (ci := 5) dX7_init_5 (by decide) fd_RX5_11 cl_RX7_7 in_RX5 ii_RX5 (by constructor <;> (try simp only [fN_0, fN_1, fN_2, fN_3, fN_4, fN_5, fN_6]) <;> (try dsimp only) <;> omega) ?_
  refine pw_dup dX7_init_8 rfl ?_
  refine pw_callI dX7_init_9 oX_X5_init lk_RX7_9 (sp_i5 (p := σ0.1 + 1) rfl (by show (upr σ0.2.1 (σ0.1 + 1) (5 + 1, 8) (σ0.1 + 1)).1 = _; rw [upr_s]) (fun t => by show upr I0 (σ0.1 + 1) (fun _ => 0) (σ0.1 + 1) t = 0; rw [upr_s])) rfl rfl (Nat.le_of_ble_eq_true rfl) (by decide) (by constructor <;> (try simp only [fN_0, fN_1, fN_2, fN_3, fN_4, fN_5, fN_6]) <;> (try dsimp only) <;> omega) (fun v s1 J1 G1 hq => ?_)
  obtain ⟨rfl, h1_0, he_0, hpl_0, hzl_0⟩ := hq
  have e_0 : σ0.1 + 1 = x + 1 := by have := b0.1; omega
  refine pw_putFR dX7_init_12 fd_RX7_10 (by decide) rfl rfl rfl rfl (tw_bk b0 (by omega) he_0) ?_
  have f_0 := tw_fr (k := 0) b0 (by omega) he_0
  have b1 := tw_b (k := 0) (s' := x + 42) b0 (by omega) he_0 (by omega)
  have a0_1 := new_pl (k := 0) e_0 (by decide) hpl_0 hzl_0
  generalize hsg_0 : ((s1.1, s1.2.1, up2 s1.2.2 x 0 (some (σ0.1 + 1))) : pT) = σ1 at *
  refine pw_aload_n dX7_init_15 rfl rfl ?_
  refine pw_new (ci := 5) dX7_init_16 (by decide) fd_RX5_11 cl_RX7_7 in_RX5 ii_RX5 (by constructor <;> (try simp only [fN_0, fN_1, fN_2, fN_3, fN_4, fN_5, fN_6]) <;> (try dsimp only) <;> omega) ?_
  refine pw_dup dX7_init_19 rfl ?_
  refine pw_callI dX7_init_20 oX_X5_init lk_RX7_9 (sp_i5 (p := σ1.1 + 1) rfl (by show (upr σ1.2.1 (σ1.1 + 1) (5 + 1, 8) (σ1.1 + 1)).1 = _; rw [upr_s]) (fun t => by show upr J1 (σ1.1 + 1) (fun _ => 0) (σ1.1 + 1) t = 0; rw [upr_s])) rfl rfl (Nat.le_of_ble_eq_true rfl) (by decide) (by constructor <;> (try simp only [fN_0, fN_1, fN_2, fN_3, fN_4, fN_5, fN_6]) <;> (try dsimp only) <;> omega) (fun v s2 J2 G2 hq => ?_)
  obtain ⟨rfl, h1_1, he_1, hpl_1, hzl_1⟩ := hq
  have e_1 : σ1.1 + 1 = x + 43 := by have := b1.1; omega
  refine pw_putFR dX7_init_23 fd_RX7_16 (by decide) rfl rfl rfl rfl (tw_bk b1 (by omega) he_1) ?_
  have f_1 := tw_fr (k := 1) b1 (by omega) he_1
  have a0_2 := fr_pl a0_1 f_1 (by decide) (by decide) (by omega)
  have b2 := tw_b (k := 1) (s' := x + 84) b1 (by omega) he_1 (by omega)
  have a1_2 := new_pl (k := 1) e_1 (by decide) hpl_1 hzl_1
  generalize hsg_1 : ((s2.1, s2.2.1, up2 s2.2.2 x 1 (some (σ1.1 + 1))) : pT) = σ2 at *
  refine pw_aload_n dX7_init_26 rfl rfl ?_
  refine pw_new (ci := 5) dX7_init_27 (by decide) fd_RX5_11 cl_RX7_7 in_RX5 ii_RX5 (by constructor <;> (try simp only [fN_0, fN_1, fN_2, fN_3, fN_4, fN_5, fN_6]) <;> (try dsimp only) <;> omega) ?_
  refine pw_dup dX7_init_30 rfl ?_
  refine pw_callI dX7_init_31 oX_X5_init lk_RX7_9 (sp_i5 (p := σ2.1 + 1) rfl (by show (upr σ2.2.1 (σ2.1 + 1) (5 + 1, 8) (σ2.1 + 1)).1 = _; rw [upr_s]) (fun t => by show upr J2 (σ2.1 + 1) (fun _ => 0) (σ2.1 + 1) t = 0; rw [upr_s])) rfl rfl (Nat.le_of_ble_eq_true rfl) (by decide) (by constructor <;> (try simp only [fN_0, fN_1, fN_2, fN_3, fN_4, fN_5, fN_6]) <;> (try dsimp only) <;> omega) (fun v s3 J3 G3 hq => ?_)
  obtain ⟨rfl, h1_2, he_2, hpl_2, hzl_2⟩ := hq
  have e_2 : σ2.1 + 1 = x + 85 := by have := b2.1; omega
  refine pw_putFR dX7_init_34 fd_RX7_19 (by decide) rfl rfl rfl rfl (tw_bk b2 (by omega) he_2) ?_
  have f_2 := tw_fr (k := 2) b2 (by omega) he_2
  have a0_3 := fr_pl a0_2 f_2 (by decide) (by decide) (by omega)
  have a1_3 := fr_pl a1_2 f_2 (by decide) (by decide) (by omega)
  have b3 := tw_b (k := 2) (s' := x + 126) b2 (by omega) he_2 (by omega)
  have a2_3 := new_pl (k := 2) e_2 (by decide) hpl_2 hzl_2
  generalize hsg_2 : ((s3.1, s3.2.1, up2 s3.2.2 x 2 (some (σ2.1 + 1))) : pT) = σ3 at *
  refine pw_aload_n dX7_init_37 rfl rfl ?_
  refine pw_iconst (v := 0) dX7_init_38 (by decide) ?_
  refine pw_putI dX7_init_39 fd_RX7_22 (by decide) rfl ⟨by decide, by decide, rfl⟩ b3.2.1 ?_
  have bb := tw_put (k := 3) b3
  have fp : Fr x (x + 126) 9 σ3 σ3 J3 (up2 J3 x 3 0) := fr_put
  have a0_90 := fr_pl a0_3 fp (by decide) (by decide) (by omega)
  have a1_90 := fr_pl a1_3 fp (by decide) (by decide) (by omega)
  have a2_90 := fr_pl a2_3 fp (by decide) (by decide) (by omega)
  clear b3
  have b3 := bb
  clear a0_3
  have a0_3 := a0_90
  clear a1_3
  have a1_3 := a1_90
  clear a2_3
  have a2_3 := a2_90
  refine pw_aload_n dX7_init_42 rfl rfl ?_
  refine pw_new (ci := 2) dX7_init_43 (by decide) fd_RX2_11 cl_RX7_26 in_RX2 ii_RX2 (by constructor <;> (try simp only [fN_0, fN_1, fN_2, fN_3, fN_4, fN_5, fN_6]) <;> (try dsimp only) <;> omega) ?_
  refine pw_dup dX7_init_46 rfl ?_
  refine pw_callI dX7_init_47 oX_X2_init lk_RX7_28 (sp_i2 (q := σ3.1 + 1) rfl (by show (upr σ3.2.1 (σ3.1 + 1) (2 + 1, 3) (σ3.1 + 1)).1 = _; rw [upr_s]) (fun t => by show upr (up2 J3 x 3 0) (σ3.1 + 1) (fun _ => 0) (σ3.1 + 1) t = 0; rw [upr_s])) rfl rfl (Nat.le_of_ble_eq_true rfl) (by decide) (by constructor <;> (try simp only [fN_0, fN_1, fN_2, fN_3, fN_4, fN_5, fN_6]) <;> (try dsimp only) <;> omega) (fun v s4 J4 G4 hq => ?_)
  obtain ⟨rfl, h1_3, he_3, hpl_3, hzl_3⟩ := hq
  have e_3 : σ3.1 + 1 = x + 127 := by have := b3.1; omega
  refine pw_putFR dX7_init_50 fd_RX7_29 (by decide) rfl rfl rfl rfl (tw_bk b3 (by omega) he_3) ?_
  have f_3 := tw_fr (k := 4) b3 (by omega) he_3
  have a0_4 := fr_pl a0_3 f_3 (by decide) (by decide) (by omega)
  have a1_4 := fr_pl a1_3 f_3 (by decide) (by decide) (by omega)
  have a2_4 := fr_pl a2_3 f_3 (by decide) (by decide) (by omega)
  have b4 := tw_b (k := 4) (s' := x + 296) b3 (by omega) he_3 (by omega)
  have a3_4 := new_hi e_3 hpl_3 hzl_3
  generalize hsg_3 : ((s4.1, s4.2.1, up2 s4.2.2 x 4 (some (σ3.1 + 1))) : pT) = σ4 at *
  refine pw_aload_n dX7_init_53 rfl rfl ?_
  refine pw_new (ci := 4) dX7_init_54 (by decide) fd_RX4_9 cl_RX7_33 in_RX4 ii_RX4 (by constructor <;> (try simp only [fN_0, fN_1, fN_2, fN_3, fN_4, fN_5, fN_6]) <;> (try dsimp only) <;> omega) ?_
  refine pw_dup dX7_init_57 rfl ?_
  refine pw_callI dX7_init_58 oX_X4_init lk_RX7_35 (sp_i4 (q := σ4.1 + 1) rfl (by show (upr σ4.2.1 (σ4.1 + 1) (4 + 1, 5) (σ4.1 + 1)).1 = _; rw [upr_s]) (fun t => by show upr J4 (σ4.1 + 1) (fun _ => 0) (σ4.1 + 1) t = 0; rw [upr_s])) rfl rfl (Nat.le_of_ble_eq_true rfl) (by decide) (by constructor <;> (try simp only [fN_0, fN_1, fN_2, fN_3, fN_4, fN_5, fN_6]) <;> (try dsimp only) <;> omega) (fun v s5 J5 G5 hq => ?_)
  obtain ⟨rfl, h1_4, he_4, hpl_4, hzl_4⟩ := hq
  have e_4 : σ4.1 + 1 = x + 297 := by have := b4.1; omega
  refine pw_putFR dX7_init_61 fd_RX7_36 (by decide) rfl rfl rfl rfl (tw_bk b4 (by omega) he_4) ?_
  have f_4 := tw_fr (k := 5) b4 (by omega) he_4
  have a0_5 := fr_pl a0_4 f_4 (by decide) (by decide) (by omega)
  have a1_5 := fr_pl a1_4 f_4 (by decide) (by decide) (by omega)
  have a2_5 := fr_pl a2_4 f_4 (by decide) (by decide) (by omega)
  have a3_5 := fr_hi a3_4 f_4 (by decide) (by omega)
  have b5 := tw_b (k := 5) (s' := x + 319) b4 (by omega) he_4 (by omega)
  have a4_5 := new_or e_4 hpl_4 hzl_4
  generalize hsg_4 : ((s5.1, s5.2.1, up2 s5.2.2 x 5 (some (σ4.1 + 1))) : pT) = σ5 at *
  exact pw_vret dX7_init_64 rfl ⟨rfl, b5.1, b5.2.2.2, ⟨b5.2.1, a0_5.1, a1_5.1, a2_5.1, a3_5.1, a4_5.1, a0_5.2.1, a1_5.2.1, a2_5.2.1, a3_5.2.1, a4_5.2.1⟩, b5.2.2.1, a0_5.2.2, a1_5.2.2, a2_5.2.2, a3_5.2.2, a4_5.2.2⟩
end
section
/-! FLOATS: health stays between a hundredth and one, output stays 0 or more -/
def v32 (a : UInt32) : Int := FP.Core.zval FP.Core.b32 (FP.Core.val32 a)
theorem v_ne {a : UInt32} (h : FP.Core.FFin a) : FP.Core.val32 a ≠ .nan := by
  obtain ⟨s, c, q, h⟩ := h
  rw [h]
  exact FP.Core.Datum.noConfusion
theorem v_fin {a : UInt32} (h : FP.Core.val32 a ≠ .nan) (h1 : 0 ≤ v32 a) (h2 : v32 a ≤ 16 * 2 ^ 145) : FP.Core.FFin a := by
  cases e : FP.Core.val32 a with
  | nan => exact absurd e h
  | fin s c q => exact ⟨s, c, q, e⟩
  | inf s =>
    exfalso
    unfold v32 at h1 h2
    rw [e] at h1 h2
    cases s
    · exact absurd h2 (by decide +kernel)
    · exact absurd h1 (by decide +kernel)
theorem sg_mul (s t : Bool) (m k : Nat) : FP.Core.signed (s != t) (m * k) = FP.Core.signed s m * FP.Core.signed t k := by
  cases s <;> cases t <;> simp [FP.Core.signed, Int.neg_mul, Int.mul_neg]
theorem fadd_r {a b : UInt32} (ha : FP.Core.FFin a) (hb : FP.Core.FFin b) : FP.Core.val32 (FP.fadd a b) ≠ .nan ∧ ∀ V, FP.Core.fits FP.Core.b32 V → V ≠ .nan → (v32 a + v32 b ≤ FP.Core.zval FP.Core.b32 V → v32 (FP.fadd a b) ≤ FP.Core.zval FP.Core.b32 V) ∧ (FP.Core.zval FP.Core.b32 V ≤ v32 a + v32 b → FP.Core.zval FP.Core.b32 V ≤ v32 (FP.fadd a b)) := by
  obtain ⟨s, c, q, ha⟩ := ha
  obtain ⟨t, d, r, hb⟩ := hb
  have fa := FP.Core.val32_fits a
  have fb := FP.Core.val32_fits b
  rw [ha] at fa
  rw [hb] at fb
  obtain ⟨sg, n, e, h1, h2, h3⟩ := FP.Core.sum_units fa fb
  have e1 : FP.Core.val32 (FP.fadd a b) = FP.Core.round FP.Core.b32 (.fin sg n e) := by
    rw [show FP.fadd a b = FP.Core.fadd a b from rfl, FP.Core.val32_fadd, ha, hb, h1]
  have e2 : v32 a + v32 b = FP.Core.signed sg (FP.Core.inUnits n e FP.Core.b32.qmin) := by
    unfold v32
    rw [ha, hb, h3]
  refine ⟨by rw [e1]; exact FP.Core.roundRatio_ne_nan _ _ _ _ _, fun V hV hn => ⟨fun h => ?_, fun h => ?_⟩⟩
  · unfold v32
    rw [e1]
    exact FP.Core.zval_round_le FP.Core.good_b32 hV hn (Int.le_refl _) h2 (by rw [Int.sub_self, ← e2]; simpa using h)
  · unfold v32
    rw [e1]
    exact FP.Core.zval_round_ge FP.Core.good_b32 hV hn (Int.le_refl _) h2 (by rw [Int.sub_self, ← e2]; simpa using h)
theorem fsub_r {a b : UInt32} (ha : FP.Core.FFin a) (hb : FP.Core.FFin b) : FP.Core.val32 (FP.fsub a b) ≠ .nan ∧ ∀ V, FP.Core.fits FP.Core.b32 V → V ≠ .nan → (v32 a - v32 b ≤ FP.Core.zval FP.Core.b32 V → v32 (FP.fsub a b) ≤ FP.Core.zval FP.Core.b32 V) ∧ (FP.Core.zval FP.Core.b32 V ≤ v32 a - v32 b → FP.Core.zval FP.Core.b32 V ≤ v32 (FP.fsub a b)) := by
  obtain ⟨s, c, q, ha⟩ := ha
  obtain ⟨t, d, r, hb⟩ := hb
  have fa := FP.Core.val32_fits a
  have fb := FP.Core.negate_fits (FP.Core.val32_fits b)
  have zb := FP.Core.zval_negate FP.Core.b32 (FP.Core.val32 b)
  rw [ha] at fa
  rw [hb] at fb zb
  obtain ⟨sg, n, e, h1, h2, h3⟩ := FP.Core.sum_units (t := !t) (d := d) (r := r) fa fb
  have e1 : FP.Core.val32 (FP.fsub a b) = FP.Core.round FP.Core.b32 (.fin sg n e) := by
    rw [show FP.fsub a b = FP.Core.fsub a b from rfl, FP.Core.val32_fsub, ha, hb, ← h1]
    rfl
  have e2 : v32 a - v32 b = FP.Core.signed sg (FP.Core.inUnits n e FP.Core.b32.qmin) := by
    rw [h3]
    unfold v32
    rw [ha, hb]
    have zb2 : FP.Core.zval FP.Core.b32 (.fin (!t) d r) = -FP.Core.zval FP.Core.b32 (.fin t d r) := zb
    rw [zb2]
    omega
  refine ⟨by rw [e1]; exact FP.Core.roundRatio_ne_nan _ _ _ _ _, fun V hV hn => ⟨fun h => ?_, fun h => ?_⟩⟩
  · unfold v32
    rw [e1]
    exact FP.Core.zval_round_le FP.Core.good_b32 hV hn (Int.le_refl _) h2 (by rw [Int.sub_self, ← e2]; simpa using h)
  · unfold v32
    rw [e1]
    exact FP.Core.zval_round_ge FP.Core.good_b32 hV hn (Int.le_refl _) h2 (by rw [Int.sub_self, ← e2]; simpa using h)
theorem fmul_r {a b : UInt32} (ha : FP.Core.FFin a) (hb : FP.Core.FFin b) : FP.Core.val32 (FP.fmul a b) ≠ .nan ∧ ∀ V, FP.Core.fits FP.Core.b32 V → V ≠ .nan → (v32 a * v32 b ≤ FP.Core.zval FP.Core.b32 V * (16 * 2 ^ 145) → v32 (FP.fmul a b) ≤ FP.Core.zval FP.Core.b32 V) ∧ (FP.Core.zval FP.Core.b32 V * (16 * 2 ^ 145) ≤ v32 a * v32 b → FP.Core.zval FP.Core.b32 V ≤ v32 (FP.fmul a b)) := by
  obtain ⟨s, c, q, ha⟩ := ha
  obtain ⟨t, d, r, hb⟩ := hb
  have fa := FP.Core.val32_fits a
  have fb := FP.Core.val32_fits b
  rw [ha] at fa
  rw [hb] at fb
  obtain ⟨h1, h2, h3⟩ := FP.Core.product_units fa fb
  have e1 : FP.Core.val32 (FP.fmul a b) = FP.Core.round FP.Core.b32 (.fin (s != t) (c * d) (q + r)) := by
    rw [show FP.fmul a b = FP.Core.fmul a b from rfl, FP.Core.val32_fmul, ha, hb, h1]
  have e2 : v32 a * v32 b = FP.Core.signed (s != t) (FP.Core.inUnits (c * d) (q + r) (2 * FP.Core.b32.qmin)) := by
    rw [h3, sg_mul]
    unfold v32
    rw [ha, hb]
    rfl
  have e3 : (((2 ^ (FP.Core.b32.qmin - 2 * FP.Core.b32.qmin).toNat : Nat)) : Int) = 16 * 2 ^ 145 := by decide +kernel
  refine ⟨by rw [e1]; exact FP.Core.roundRatio_ne_nan _ _ _ _ _, fun V hV hn => ⟨fun h => ?_, fun h => ?_⟩⟩
  · unfold v32
    rw [e1]
    exact FP.Core.zval_round_le FP.Core.good_b32 hV hn (by decide +kernel) h2 (by rw [e3, ← e2]; exact h)
  · unfold v32
    rw [e1]
    exact FP.Core.zval_round_ge FP.Core.good_b32 hV hn (by decide +kernel) h2 (by rw [e3, ← e2]; exact h)
/-- whether a float is a health, a wear, an output -/
def HOK (a : UInt32) : Prop := FP.Core.val32 a ≠ .nan ∧ v32 1008981770 ≤ v32 a ∧ v32 a ≤ 16 * 2 ^ 145
def WOK (a : UInt32) : Prop := FP.Core.val32 a ≠ .nan ∧ 0 ≤ v32 a ∧ v32 a ≤ 16 * 2 ^ 145
def OOK (a : UInt32) : Prop := FP.Core.val32 a ≠ .nan ∧ 0 ≤ v32 a
theorem k_01 : 0 < v32 1008981770 := by decide +kernel
theorem k_01a : v32 1008981770 ≤ 16 * 2 ^ 145 := by decide +kernel
theorem k_1 : v32 1065353216 = 16 * 2 ^ 145 := by decide +kernel
theorem k_34 : v32 1061158912 = 12 * 2 ^ 145 := by decide +kernel
theorem k_916 : v32 1058013184 = 9 * 2 ^ 145 := by decide +kernel
theorem k_716 : v32 1054867456 = 7 * 2 ^ 145 := by decide +kernel
theorem k_0 : v32 0 = 0 := by decide +kernel
theorem n_01 : FP.Core.val32 1008981770 ≠ .nan := by decide +kernel
theorem n_1 : FP.Core.val32 1065353216 ≠ .nan := by decide +kernel
theorem n_34 : FP.Core.val32 1061158912 ≠ .nan := by decide +kernel
theorem n_916 : FP.Core.val32 1058013184 ≠ .nan := by decide +kernel
theorem n_716 : FP.Core.val32 1054867456 ≠ .nan := by decide +kernel
theorem n_0 : FP.Core.val32 0 ≠ .nan := by decide +kernel
theorem H_fin {a : UInt32} (h : HOK a) : FP.Core.FFin a := v_fin h.1 (by have := k_01; have := h.2.1; omega) h.2.2
theorem W_fin {a : UInt32} (h : WOK a) : FP.Core.FFin a := v_fin h.1 h.2.1 h.2.2
theorem H_01 : HOK 1008981770 := ⟨n_01, Int.le_refl _, k_01a⟩
theorem H_1 : HOK 1065353216 := ⟨n_1, by rw [k_1]; exact k_01a, by rw [k_1]; exact Int.le_refl _⟩
theorem O_0 : OOK 0 := ⟨n_0, by rw [k_0]; exact Int.le_refl _⟩
theorem mul_le_one {x y U : Int} (hx : 0 ≤ x) (hy : y ≤ U) : x * y ≤ x * U := Int.mul_le_mul_of_nonneg_left hy hx
theorem wear_le {w h : UInt32} (hw : WOK w) (hh : HOK h) : FP.Core.FFin (FP.fmul h w) ∧ 0 ≤ v32 (FP.fmul h w) := by
  obtain ⟨m1, m2⟩ := fmul_r (H_fin hh) (W_fin hw)
  have hp : 0 ≤ v32 h := by have := k_01; have := hh.2.1; omega
  have l1 : v32 (FP.fmul h w) ≤ v32 h := (m2 _ (FP.Core.val32_fits h) hh.1).1 (Int.mul_le_mul_of_nonneg_left hw.2.2 hp)
  have l2 : v32 0 ≤ v32 (FP.fmul h w) := (m2 _ (FP.Core.val32_fits 0) n_0).2 (by
    have h0 := k_0
    unfold v32 at h0
    rw [h0, Int.zero_mul]
    exact Int.mul_nonneg hp hw.2.1)
  rw [k_0] at l2
  exact ⟨v_fin m1 l2 (Int.le_trans l1 hh.2.2), l2⟩
theorem cmp_ge {x y : UInt32} (hx : FP.Core.val32 x ≠ .nan) (hy : FP.Core.val32 y ≠ .nan) : FP.fcmp x y = some (compare (v32 x) (v32 y)) := FP.Core.fcmp_zval hx hy
theorem c_g {x y : UInt32} (hx : FP.Core.val32 x ≠ .nan) (hy : FP.Core.val32 y ≠ .nan) (op : CmpOp) : (v32 x ≤ v32 y → Op.cmpValue (FP.fcmp x y) op ≤ 0) ∧ (v32 y ≤ v32 x → 0 ≤ Op.cmpValue (FP.fcmp x y) op) ∧ (0 ≤ Op.cmpValue (FP.fcmp x y) op → v32 y ≤ v32 x) := by
  rw [cmp_ge hx hy]
  rcases Int.lt_trichotomy (v32 x) (v32 y) with h | h | h
  · rw [(FP.Core.compare_lt_iff _ _).mpr h]
    exact ⟨fun _ => by cases op <;> decide, fun h2 => by omega, fun h2 => absurd h2 (by cases op <;> decide)⟩
  · rw [(FP.Core.compare_eq_iff _ _).mpr h]
    exact ⟨fun _ => by cases op <;> decide, fun _ => by cases op <;> decide, fun _ => by omega⟩
  · rw [(FP.Core.compare_gt_iff _ _).mpr h]
    exact ⟨fun h2 => by omega, fun _ => by cases op <;> decide, fun _ => by omega⟩
theorem worn_ok {w h : UInt32} (hw : WOK w) (hh : HOK h) : HOK (wornF w h) := by
  obtain ⟨p1, p2⟩ := wear_le hw hh
  obtain ⟨s1, s2⟩ := fsub_r (H_fin hh) p1
  unfold wornF
  split
  · rename_i hc
    refine ⟨s1, (c_g s1 n_01 .g).2.2 hc, Int.le_trans ((s2 _ (FP.Core.val32_fits h) hh.1).1 ?_) hh.2.2⟩
    show v32 h - _ ≤ v32 h
    omega
  · exact H_01
/-- the exact rest to one, from a half on -/
theorem rest_ok {h : UInt32} (hh : HOK h) (h8 : 8 * 2 ^ 145 ≤ v32 h) : ∃ V, FP.Core.fits FP.Core.b32 V ∧ V ≠ .nan ∧ FP.Core.zval FP.Core.b32 V = 16 * 2 ^ 145 - v32 h := by
  by_cases he : v32 h = 16 * 2 ^ 145
  · exact ⟨_, FP.Core.val32_fits 0, n_0, by rw [he]; exact k_0.trans (by decide)⟩
  have hlt : v32 h < 16 * 2 ^ 145 := by have := hh.2.2; omega
  have hs := FP.Core.sgn_bits32 hh.1
  have hz := FP.Core.zmag_toNat32 hh.1
  have hneg : ¬ 2 ^ 31 ≤ h.toNat := by
    intro hc
    rw [decide_eq_true hc] at hs
    unfold v32 FP.Core.zval at h8
    rw [hs] at h8
    simp only [FP.Core.signed, if_true] at h8
    omega
  have hm : h.toNat % 2 ^ 31 = h.toNat := Nat.mod_eq_of_lt (by omega)
  rw [hm] at hz
  rw [decide_eq_false hneg] at hs
  have hv : v32 h = (FP.Core.unitsOf FP.Core.b32 h.toNat : Nat) := by
    unfold v32 FP.Core.zval
    rw [hs, hz]
    rfl
  have u1 : (FP.Core.unitsOf FP.Core.b32 1056964608 : Nat) = 8 * 2 ^ 145 := by decide +kernel
  have u2 : (FP.Core.unitsOf FP.Core.b32 1065353216 : Nat) = 16 * 2 ^ 145 := by decide +kernel
  have b1 : 1056964608 ≤ h.toNat := (FP.Core.unitsOf_le_iff (f := FP.Core.b32)).mp (by rw [u1]; omega)
  have b2 : h.toNat < 1065353216 := (FP.Core.unitsOf_lt_iff (f := FP.Core.b32)).mp (by rw [u2]; omega)
  have hu : FP.Core.unitsOf FP.Core.b32 h.toNat = (2 ^ 23 + h.toNat % 2 ^ 23) * 2 ^ 125 := by
    unfold FP.Core.unitsOf
    rw [FP.Core.tails_b32, if_neg (by omega), show h.toNat / 2 ^ 23 - 1 = 125 by omega]
  have hr : h.toNat % 2 ^ 23 < 2 ^ 23 := Nat.mod_lt _ (by decide)
  generalize h.toNat % 2 ^ 23 = T at hu hr
  obtain ⟨c', q', e1, e2⟩ := FP.Core.round_exact FP.Core.good_b32 false (c := 2 ^ 23 - T) (q := -24) (by show _ < 2 ^ 24; omega) (by decide +kernel) (by decide +kernel)
  refine ⟨FP.Core.round FP.Core.b32 (.fin false (2 ^ 23 - T) (-24)), FP.Core.round_fits FP.Core.good_b32 _, by rw [e1]; exact FP.Core.Datum.noConfusion, ?_⟩
  rw [e1]
  show ((FP.Core.inUnits c' q' FP.Core.b32.qmin : Nat) : Int) = _
  rw [e2, hv, hu]
  have e5 : ((-24 : Int) - FP.Core.b32.qmin).toNat = 125 := by decide +kernel
  unfold FP.Core.inUnits
  rw [e5]
  omega
theorem mend_ok {h : UInt32} (hh : HOK h) : HOK (FP.fadd h (FP.fmul (FP.fsub 1065353216 h) 1061158912)) := by
  have h1 := hh.2.1
  have h2 := hh.2.2
  have k0 := k_01
  obtain ⟨d1, d2⟩ := fsub_r (H_fin H_1) (H_fin hh)
  rw [k_1] at d2
  have dl : 0 ≤ v32 (FP.fsub 1065353216 h) := by
    have := (d2 _ (FP.Core.val32_fits 0) n_0).2
    have e0 : FP.Core.zval FP.Core.b32 (FP.Core.val32 0) = 0 := k_0
    rw [e0] at this
    exact this (by omega)
  have du : ∀ V, FP.Core.val32 V ≠ .nan → 16 * 2 ^ 145 - v32 h ≤ v32 V → v32 (FP.fsub 1065353216 h) ≤ v32 V := fun V hV hl => (d2 _ (FP.Core.val32_fits V) hV).1 hl
  have d16 := du _ n_1 (by rw [k_1]; omega)
  have d12 := du _ n_34
  have d9 := du _ n_916
  have dX : ∀ V, FP.Core.fits FP.Core.b32 V → V ≠ .nan → 16 * 2 ^ 145 - v32 h ≤ FP.Core.zval FP.Core.b32 V → v32 (FP.fsub 1065353216 h) ≤ FP.Core.zval FP.Core.b32 V := fun V f1 f2 f3 => (d2 V f1 f2).1 f3
  rw [k_1] at d16
  rw [k_34] at d12
  rw [k_916] at d9
  have fd : FP.Core.FFin (FP.fsub 1065353216 h) := v_fin d1 dl d16
  generalize FP.fsub 1065353216 h = d at *
  have f34 : FP.Core.FFin 1061158912 := v_fin n_34 (by rw [k_34]; decide) (by rw [k_34]; decide)
  obtain ⟨m1, m2⟩ := fmul_r fd f34
  rw [k_34] at m2
  have pl : 0 ≤ v32 (FP.fmul d 1061158912) := by
    have := (m2 _ (FP.Core.val32_fits 0) n_0).2
    have e0 : FP.Core.zval FP.Core.b32 (FP.Core.val32 0) = 0 := k_0
    rw [e0] at this
    exact this (by omega)
  have p12 := (m2 _ (FP.Core.val32_fits 1061158912) n_34).1
  have p9 := (m2 _ (FP.Core.val32_fits 1058013184) n_916).1
  have p7 := (m2 _ (FP.Core.val32_fits 1054867456) n_716).1
  have pX : ∀ V, FP.Core.fits FP.Core.b32 V → V ≠ .nan → v32 d * (12 * 2 ^ 145) ≤ FP.Core.zval FP.Core.b32 V * (16 * 2 ^ 145) → v32 (FP.fmul d 1061158912) ≤ FP.Core.zval FP.Core.b32 V := fun V f1 f2 f3 => (m2 V f1 f2).1 f3
  have e12 : FP.Core.zval FP.Core.b32 (FP.Core.val32 1061158912) = 12 * 2 ^ 145 := k_34
  have e9 : FP.Core.zval FP.Core.b32 (FP.Core.val32 1058013184) = 9 * 2 ^ 145 := k_916
  have e7 : FP.Core.zval FP.Core.b32 (FP.Core.val32 1054867456) = 7 * 2 ^ 145 := k_716
  rw [e12] at p12
  rw [e9] at p9
  rw [e7] at p7
  have sum : v32 h + v32 (FP.fmul d 1061158912) ≤ 16 * 2 ^ 145 := by
    by_cases c1 : v32 h ≤ 4 * 2 ^ 145
    · have := p12 (by omega)
      omega
    by_cases c2 : v32 h ≤ 7 * 2 ^ 145
    · have := d12 (by omega)
      have := p9 (by omega)
      omega
    by_cases c3 : v32 h < 8 * 2 ^ 145
    · have := d9 (by omega)
      have := p7 (by omega)
      omega
    obtain ⟨V, f1, f2, f3⟩ := rest_ok hh (by omega)
    have a1 := dX V f1 f2 (by omega)
    have a2 := pX V f1 f2 (by omega)
    omega
  have fp : FP.Core.FFin (FP.fmul d 1061158912) := v_fin m1 pl (by omega)
  obtain ⟨a1, a2⟩ := fadd_r (H_fin hh) fp
  refine ⟨a1, Int.le_trans h1 ((a2 _ (FP.Core.val32_fits h) hh.1).2 ?_), ?_⟩
  · show v32 h ≤ v32 h + _
    omega
  · have := (a2 _ (FP.Core.val32_fits 1065353216) n_1).1
    have e1 : FP.Core.zval FP.Core.b32 (FP.Core.val32 1065353216) = 16 * 2 ^ 145 := k_1
    rw [e1] at this
    exact this sum
theorem out_ok {o x : UInt32} (ho : OOK o) (hx : OOK x) : OOK (FP.fadd o x) := by
  obtain ⟨h1, h2⟩ := ho
  obtain ⟨g1, g2⟩ := hx
  have e : FP.Core.val32 (FP.fadd o x) = FP.Core.round FP.Core.b32 (FP.Core.exactSum (FP.Core.val32 o) (FP.Core.val32 x)) := FP.Core.val32_fadd o x
  have hpos : OOK 2139095040 := ⟨by decide +kernel, by decide +kernel⟩
  have hinf : FP.Core.val32 2139095040 = .inf false := by decide +kernel
  have hneg : ¬ 0 ≤ FP.Core.zval FP.Core.b32 (.inf true) := by decide +kernel
  unfold v32 at h2 g2
  cases e1 : FP.Core.val32 o with
  | nan => exact absurd e1 h1
  | inf s =>
    cases s with
    | true => rw [e1] at h2; exact absurd h2 hneg
    | false =>
      cases e2 : FP.Core.val32 x with
      | nan => exact absurd e2 g1
      | inf t =>
        cases t with
        | true => rw [e2] at g2; exact absurd g2 hneg
        | false =>
          rw [e1, e2] at e
          have e3 : FP.Core.val32 (FP.fadd o x) = .inf false := e
          unfold OOK v32
          rw [e3, ← hinf]
          exact hpos
      | fin t d r =>
        rw [e1, e2] at e
        have e3 : FP.Core.val32 (FP.fadd o x) = .inf false := e
        unfold OOK v32
        rw [e3, ← hinf]
        exact hpos
  | fin s c q =>
    cases e2 : FP.Core.val32 x with
    | nan => exact absurd e2 g1
    | inf t =>
      cases t with
      | true => rw [e2] at g2; exact absurd g2 hneg
      | false =>
        rw [e1, e2] at e
        have e3 : FP.Core.val32 (FP.fadd o x) = .inf false := e
        unfold OOK v32
        rw [e3, ← hinf]
        exact hpos
    | fin t d r =>
      obtain ⟨a1, a2⟩ := fadd_r ⟨s, c, q, e1⟩ ⟨t, d, r, e2⟩
      have := (a2 _ (FP.Core.val32_fits 0) n_0).2
      have e0 : FP.Core.zval FP.Core.b32 (FP.Core.val32 0) = 0 := k_0
      rw [e0] at this
      exact ⟨a1, this (by unfold v32; omega)⟩
theorem prod_ok {a h : UInt32} (ha : FP.Core.FFin a) (ha0 : 0 ≤ v32 a) (hh : HOK h) : OOK (FP.fmul a h) := by
  obtain ⟨m1, m2⟩ := fmul_r ha (H_fin hh)
  have := (m2 _ (FP.Core.val32_fits 0) n_0).2
  have e0 : FP.Core.zval FP.Core.b32 (FP.Core.val32 0) = 0 := k_0
  rw [e0, Int.zero_mul] at this
  have k0 := k_01
  have h1 := hh.2.1
  exact ⟨m1, this (Int.mul_nonneg ha0 (by omega))⟩
def ratB (r : Nat) : Bool := decide ((FP.i2f (nI r)).toNat < 2139095040)
def weaB (t : Nat) : Bool := decide ((FP.fdiv (FP.i2f (nI t)) 1148846080).toNat ≤ 1065353216)
theorem rat_all : ∀ r, r ≤ 100 → ratB r = true := by decide +kernel
theorem wea_all : ∀ t, t ≤ 200 → weaB t = true := by decide +kernel
theorem bits_v {a : UInt32} (h : a.toNat < 2139095040) : FP.Core.val32 a ≠ .nan ∧ v32 a = (FP.Core.unitsOf FP.Core.b32 a.toNat : Nat) := by
  have hm : a.toNat % 2 ^ 31 = a.toNat := Nat.mod_eq_of_lt (by omega)
  have hn : FP.Core.val32 a ≠ .nan := (FP.Core.ne_nan32 a).mpr (by omega)
  refine ⟨hn, ?_⟩
  have hs := FP.Core.sgn_bits32 hn
  have hz := FP.Core.zmag_toNat32 hn
  rw [hm] at hz
  rw [decide_eq_false (by omega)] at hs
  unfold v32 FP.Core.zval
  rw [hs, hz]
  rfl
theorem rat_ok {r : Nat} (h : r ≤ 100) : FP.Core.FFin (FP.i2f (nI r)) ∧ 0 ≤ v32 (FP.i2f (nI r)) := by
  have h1 := of_decide_eq_true (rat_all r h)
  obtain ⟨h2, h3⟩ := bits_v h1
  refine ⟨(FP.Core.fin_bits32 _).mpr ?_, by rw [h3]; omega⟩
  have hm : (FP.i2f (nI r)).toNat % 2 ^ 31 = (FP.i2f (nI r)).toNat := Nat.mod_eq_of_lt (by omega)
  rw [hm]
  exact h1
theorem wea_ok {t : Nat} (h : t ≤ 200) : WOK (FP.fdiv (FP.i2f (nI t)) 1148846080) := by
  have h1 : (FP.fdiv (FP.i2f (nI t)) 1148846080).toNat ≤ 1065353216 := of_decide_eq_true (wea_all t h)
  obtain ⟨h2, h3⟩ := bits_v (show (FP.fdiv (FP.i2f (nI t)) 1148846080).toNat < 2139095040 by omega)
  refine ⟨h2, by rw [h3]; omega, ?_⟩
  rw [h3]
  have u2 : (FP.Core.unitsOf FP.Core.b32 1065353216 : Nat) = 16 * 2 ^ 145 := by decide +kernel
  have := (FP.Core.unitsOf_le_iff (f := FP.Core.b32)).mpr h1
  rw [u2] at this
  omega
end
