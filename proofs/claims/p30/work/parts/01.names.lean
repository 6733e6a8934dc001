-- ===== PART A: goes FIRST, ahead of the names: the tables' words, and 'selects' of the private methods out of them =====
/-- a private method of a class that the tables say can be made, by its rows of tables_1 -/
def lw_okq (q : MethodName × Nat) : Prop := (q.1.cls ≠ "java/lang/invoke/MethodHandle" ∧ q.1.cls ≠ "java/lang/invoke/VarHandle") ∧ Cond.instantiable q.1.cls q.2 ∈ tables_1 ∧ Cond.privateMethod q.1 ∈ tables_1 ∧ Cond.instanceMethod q.1 ∈ tables_1
theorem lw_p0 : lw_okq (⟨"TagWindows", "recorded", "(I)I"⟩, 6) := ⟨⟨by decide +kernel, by decide +kernel⟩, List.mem_of_getElem? (i := 11) (by decide +kernel), List.mem_of_getElem? (i := 286) (by decide +kernel), List.mem_of_getElem? (i := 287) (by decide +kernel)⟩
theorem lw_p1 : lw_okq (⟨"TagWindows$Plant", "doBar", "(II)Z"⟩, 8) := ⟨⟨by decide +kernel, by decide +kernel⟩, List.mem_of_getElem? (i := 19) (by decide +kernel), List.mem_of_getElem? (i := 424) (by decide +kernel), List.mem_of_getElem? (i := 425) (by decide +kernel)⟩
theorem lw_p2 : lw_okq (⟨"TagWindows$Plant", "areNear", "(II)Z"⟩, 8) := ⟨⟨by decide +kernel, by decide +kernel⟩, List.mem_of_getElem? (i := 19) (by decide +kernel), List.mem_of_getElem? (i := 428) (by decide +kernel), List.mem_of_getElem? (i := 429) (by decide +kernel)⟩
theorem lw_p3 : lw_okq (⟨"TagWindows$Plant", "canServe", "(ILTagWindows$Task;)Z"⟩, 8) := ⟨⟨by decide +kernel, by decide +kernel⟩, List.mem_of_getElem? (i := 19) (by decide +kernel), List.mem_of_getElem? (i := 507) (by decide +kernel), List.mem_of_getElem? (i := 508) (by decide +kernel)⟩
theorem lw_p4 : lw_okq (⟨"TagWindows$Plant", "isRunning", "(I)Z"⟩, 8) := ⟨⟨by decide +kernel, by decide +kernel⟩, List.mem_of_getElem? (i := 19) (by decide +kernel), List.mem_of_getElem? (i := 525) (by decide +kernel), List.mem_of_getElem? (i := 526) (by decide +kernel)⟩
theorem lw_p5 : lw_okq (⟨"TagWindows$Plant", "runAssets", "()V"⟩, 8) := ⟨⟨by decide +kernel, by decide +kernel⟩, List.mem_of_getElem? (i := 19) (by decide +kernel), List.mem_of_getElem? (i := 563) (by decide +kernel), List.mem_of_getElem? (i := 564) (by decide +kernel)⟩
theorem lw_p6 : lw_okq (⟨"TagWindows$Plant", "workOnTasks", "()I"⟩, 8) := ⟨⟨by decide +kernel, by decide +kernel⟩, List.mem_of_getElem? (i := 19) (by decide +kernel), List.mem_of_getElem? (i := 571) (by decide +kernel), List.mem_of_getElem? (i := 572) (by decide +kernel)⟩
theorem lw_p7 : lw_okq (⟨"TagWindows$Plant", "mendAsset", "(I)V"⟩, 8) := ⟨⟨by decide +kernel, by decide +kernel⟩, List.mem_of_getElem? (i := 19) (by decide +kernel), List.mem_of_getElem? (i := 575) (by decide +kernel), List.mem_of_getElem? (i := 576) (by decide +kernel)⟩
theorem lw_p8 : lw_okq (⟨"TagWindows$Plant", "slipTasks", "()V"⟩, 8) := ⟨⟨by decide +kernel, by decide +kernel⟩, List.mem_of_getElem? (i := 19) (by decide +kernel), List.mem_of_getElem? (i := 584) (by decide +kernel), List.mem_of_getElem? (i := 585) (by decide +kernel)⟩
def lw_privs_1 : List (MethodName × Nat) := [(⟨"TagWindows", "recorded", "(I)I"⟩, 6), (⟨"TagWindows$Plant", "doBar", "(II)Z"⟩, 8), (⟨"TagWindows$Plant", "areNear", "(II)Z"⟩, 8), (⟨"TagWindows$Plant", "canServe", "(ILTagWindows$Task;)Z"⟩, 8), (⟨"TagWindows$Plant", "isRunning", "(I)Z"⟩, 8), (⟨"TagWindows$Plant", "runAssets", "()V"⟩, 8), (⟨"TagWindows$Plant", "workOnTasks", "()I"⟩, 8), (⟨"TagWindows$Plant", "mendAsset", "(I)V"⟩, 8), (⟨"TagWindows$Plant", "slipTasks", "()V"⟩, 8)]
theorem lw_r1 : ∀ q ∈ lw_privs_1, lw_okq q := List.forall_mem_cons.mpr ⟨lw_p0, List.forall_mem_cons.mpr ⟨lw_p1, List.forall_mem_cons.mpr ⟨lw_p2, List.forall_mem_cons.mpr ⟨lw_p3, List.forall_mem_cons.mpr ⟨lw_p4, List.forall_mem_cons.mpr ⟨lw_p5, List.forall_mem_cons.mpr ⟨lw_p6, List.forall_mem_cons.mpr ⟨lw_p7, List.forall_mem_cons.mpr ⟨lw_p8, fun _ h => absurd h List.not_mem_nil⟩⟩⟩⟩⟩⟩⟩⟩⟩
def lw_privs : List (MethodName × Nat) := lw_privs_1
def lw_tbl : List Cond := k2_sels lw_privs ++ tables_1
theorem lw_privs_ok : ∀ q ∈ lw_privs, lw_okq q := lw_r1
/-- the streams that the claim lets the run draw from -/
abbrev lw_cs : List Choice := [Jvm.Choice.named "NaN.bits"]
theorem lw_bits : nanBits ∈ lw_cs := by first | decide | exact List.mem_cons_self | simp [lw_cs, nanBits]
-- ===== end of PART A; then your names; then what follows =====
/-! ===== BEGIN words of one list among another's, by their places ===== -/
theorem goodIn_r {big : List Cond} (ws : List Cond) (ps : List Nat) (hp : ws = ps.filterMap (fun i => big[i]?)) (h : ws.all goodWord = true) : GoodIn big ws := by
  intro w hw
  have h1 := List.all_eq_true.mp h w hw
  rw [hp] at hw
  obtain ⟨i, -, hi⟩ := List.mem_filterMap.mp hw
  have hm : w ∈ big := by first | exact List.mem_of_getElem? hi | exact List.getElem?_mem hi
  exact ⟨hm, good_of_word h1⟩
theorem goodIn_app {big a b : List Cond} (ha : GoodIn big a) (hb : GoodIn big b) : GoodIn big (a ++ b) := fun w h => (List.mem_append.mp h).elim (ha w) (hb w)
theorem goodIn_ca {big a b : List Cond} {c : Cond} (ha : GoodIn big (c :: a)) (hb : GoodIn big b) : GoodIn big (c :: (a ++ b)) := fun w h => (List.mem_cons.mp h).elim (fun e => ha w (List.mem_cons.mpr (Or.inl e))) (fun h => (List.mem_append.mp h).elim (fun h => ha w (List.mem_cons.mpr (Or.inr h))) (hb w))
theorem goodIn_sub {big ws : List Cond} (hm : ∀ w ∈ ws, w ∈ big) (h : ws.all goodWord = true) : GoodIn big ws := fun w hw => ⟨hm w hw, good_of_word (List.all_eq_true.mp h w hw)⟩
/-! ===== END ===== -/

/-! ===== BEGIN printed: names, fields, word lists, decode rows ===== -/
def RX0 : String := "TagWindows$Asset"
def TX0 : u_T := fun k => match k with
  | 0 => ("TagWindows$Asset", "rate", "I", false)
  | 1 => ("TagWindows$Asset", "wear", "F", false)
  | 2 => ("TagWindows$Asset", "health", "F", false)
  | 3 => ("TagWindows$Asset", "output", "F", false)
  | 4 => ("TagWindows$Asset", "runs", "Z", false)
  | _ => ("TagWindows$Asset", "links", "I", false)
def tyX0 : Nat → FieldType := fun k => match k with
  | 0 => .int
  | 1 => .float
  | 2 => .float
  | 3 => .float
  | 4 => .boolean
  | _ => .int
abbrev wsX00 : List Cond := u_ws RX0 TX0 6
theorem nmX0 : ∀ a, a < 6 → ∀ b, b < 6 → a ≠ b → (TX0 a).2.1 ≠ (TX0 b).2.1 := by decide +kernel
theorem tyX0_ok : ∀ k, k < 6 → parseFieldDescriptor (TX0 k).2.2.1 = some (tyX0 k) := by decide +kernel
abbrev cX0_init : ByteArray := prog_2_method_1_code
def yX0_init : MethodName := ⟨RX0, "<init>", "()V"⟩
abbrev cX0_setUp : ByteArray := prog_2_method_2_code
def yX0_setUp : MethodName := ⟨RX0, "setUp", "(II)V"⟩
abbrev cX0_copyFrom : ByteArray := prog_2_method_3_code
def yX0_copyFrom : MethodName := ⟨RX0, "copyFrom", "(LTagWindows$Asset;)V"⟩
abbrev cX0_isLinkedTo : ByteArray := prog_2_method_4_code
def yX0_isLinkedTo : MethodName := ⟨RX0, "isLinkedTo", "(I)Z"⟩
abbrev cX0_runForAnHour : ByteArray := prog_2_method_5_code
def yX0_runForAnHour : MethodName := ⟨RX0, "runForAnHour", "()V"⟩
abbrev cX0_mend : ByteArray := prog_2_method_6_code
def yX0_mend : MethodName := ⟨RX0, "mend", "()V"⟩
abbrev cX0_afterAnHour : ByteArray := prog_2_method_7_code
def yX0_afterAnHour : MethodName := ⟨RX0, "afterAnHour", "(F)F"⟩
abbrev cX0_hoursUntilBelow : ByteArray := prog_2_method_9_code
def yX0_hoursUntilBelow : MethodName := ⟨RX0, "hoursUntilBelow", "(F)I"⟩
def RX1 : String := "TagWindows$Crew"
def TX1 : u_T := fun k => match k with
  | 0 => ("TagWindows$Crew", "people", "I", false)
  | _ => ("TagWindows$Crew", "skills", "I", false)
def tyX1 : Nat → FieldType := fun k => match k with
  | 0 => .int
  | _ => .int
abbrev wsX10 : List Cond := u_ws RX1 TX1 2
theorem nmX1 : ∀ a, a < 2 → ∀ b, b < 2 → a ≠ b → (TX1 a).2.1 ≠ (TX1 b).2.1 := by decide +kernel
theorem tyX1_ok : ∀ k, k < 2 → parseFieldDescriptor (TX1 k).2.2.1 = some (tyX1 k) := by decide +kernel
abbrev cX1_init : ByteArray := prog_3_method_1_code
def yX1_init : MethodName := ⟨RX1, "<init>", "()V"⟩
abbrev cX1_setUp : ByteArray := prog_3_method_2_code
def yX1_setUp : MethodName := ⟨RX1, "setUp", "(II)V"⟩
abbrev cX1_copyFrom : ByteArray := prog_3_method_3_code
def yX1_copyFrom : MethodName := ⟨RX1, "copyFrom", "(LTagWindows$Crew;)V"⟩
abbrev cX1_has : ByteArray := prog_3_method_4_code
def yX1_has : MethodName := ⟨RX1, "has", "(I)Z"⟩
def RX2 : String := "TagWindows$History"
def TX2 : u_T := fun k => match k with
  | 0 => ("TagWindows$History", "states", "[LTagWindows$Plant;", true)
  | 1 => ("TagWindows$History", "oldest", "I", false)
  | _ => ("TagWindows$History", "size", "I", false)
def tyX2 : Nat → FieldType := fun k => match k with
  | 0 => .array (.object "TagWindows$Plant")
  | 1 => .int
  | _ => .int
abbrev wsX20 : List Cond := u_ws RX2 TX2 3
theorem nmX2 : ∀ a, a < 3 → ∀ b, b < 3 → a ≠ b → (TX2 a).2.1 ≠ (TX2 b).2.1 := by decide +kernel
theorem tyX2_ok : ∀ k, k < 3 → parseFieldDescriptor (TX2 k).2.2.1 = some (tyX2 k) := by decide +kernel
abbrev cX2_init : ByteArray := prog_4_method_1_code
def yX2_init : MethodName := ⟨RX2, "<init>", "()V"⟩
abbrev cX2_add : ByteArray := prog_4_method_2_code
def yX2_add : MethodName := ⟨RX2, "add", "(LTagWindows$Plant;)V"⟩
abbrev cX2_takeBack : ByteArray := prog_4_method_3_code
def yX2_takeBack : MethodName := ⟨RX2, "takeBack", "(LTagWindows$Plant;)I"⟩
def RX3 : String := "TagWindows$Order"
def TX3 : u_T := fun k => match k with
  | 0 => ("TagWindows$Order", "verb", "C", false)
  | 1 => ("TagWindows$Order", "number", "I", false)
  | _ => ("TagWindows$Order", "crew", "I", false)
def tyX3 : Nat → FieldType := fun k => match k with
  | 0 => .char
  | 1 => .int
  | _ => .int
abbrev wsX30 : List Cond := u_ws RX3 TX3 3
theorem nmX3 : ∀ a, a < 3 → ∀ b, b < 3 → a ≠ b → (TX3 a).2.1 ≠ (TX3 b).2.1 := by decide +kernel
theorem tyX3_ok : ∀ k, k < 3 → parseFieldDescriptor (TX3 k).2.2.1 = some (tyX3 k) := by decide +kernel
abbrev cX3_init : ByteArray := prog_5_method_1_code
def yX3_init : MethodName := ⟨RX3, "<init>", "()V"⟩
def RX4 : String := "TagWindows$Orders"
def TX4 : u_T := fun k => match k with
  | 0 => ("TagWindows$Orders", "text", "[C", true)
  | 1 => ("TagWindows$Orders", "length", "I", false)
  | 2 => ("TagWindows$Orders", "rows", "[LTagWindows$Order;", true)
  | 3 => ("TagWindows$Orders", "count", "I", false)
  | _ => ("TagWindows$Orders", "at", "I", false)
def tyX4 : Nat → FieldType := fun k => match k with
  | 0 => .array .char
  | 1 => .int
  | 2 => .array (.object "TagWindows$Order")
  | 3 => .int
  | _ => .int
abbrev wsX40 : List Cond := u_ws RX4 TX4 5
theorem nmX4 : ∀ a, a < 5 → ∀ b, b < 5 → a ≠ b → (TX4 a).2.1 ≠ (TX4 b).2.1 := by decide +kernel
theorem tyX4_ok : ∀ k, k < 5 → parseFieldDescriptor (TX4 k).2.2.1 = some (tyX4 k) := by decide +kernel
abbrev cX4_init : ByteArray := prog_6_method_1_code
def yX4_init : MethodName := ⟨RX4, "<init>", "()V"⟩
def RX5 : String := "TagWindows$Plant"
def TX5 : u_T := fun k => match k with
  | 0 => ("TagWindows$Plant", "assets", "[LTagWindows$Asset;", true)
  | 1 => ("TagWindows$Plant", "crews", "[LTagWindows$Crew;", true)
  | 2 => ("TagWindows$Plant", "tasks", "[LTagWindows$Task;", true)
  | 3 => ("TagWindows$Plant", "bars", "[I", true)
  | 4 => ("TagWindows$Plant", "assetCount", "I", false)
  | 5 => ("TagWindows$Plant", "crewCount", "I", false)
  | 6 => ("TagWindows$Plant", "taskCount", "I", false)
  | _ => ("TagWindows$Plant", "hour", "I", false)
def tyX5 : Nat → FieldType := fun k => match k with
  | 0 => .array (.object "TagWindows$Asset")
  | 1 => .array (.object "TagWindows$Crew")
  | 2 => .array (.object "TagWindows$Task")
  | 3 => .array .int
  | 4 => .int
  | 5 => .int
  | 6 => .int
  | _ => .int
abbrev wsX50 : List Cond := u_ws RX5 TX5 8
theorem nmX5 : ∀ a, a < 8 → ∀ b, b < 8 → a ≠ b → (TX5 a).2.1 ≠ (TX5 b).2.1 := by decide +kernel
theorem tyX5_ok : ∀ k, k < 8 → parseFieldDescriptor (TX5 k).2.2.1 = some (tyX5 k) := by decide +kernel
abbrev cX5_init : ByteArray := prog_7_method_1_code
def yX5_init : MethodName := ⟨RX5, "<init>", "()V"⟩
abbrev cX5_copyFrom : ByteArray := prog_7_method_2_code
def yX5_copyFrom : MethodName := ⟨RX5, "copyFrom", "(LTagWindows$Plant;)V"⟩
abbrev cX5_hasAsset : ByteArray := prog_7_method_3_code
def yX5_hasAsset : MethodName := ⟨RX5, "hasAsset", "(I)Z"⟩
abbrev cX5_hasCrew : ByteArray := prog_7_method_4_code
def yX5_hasCrew : MethodName := ⟨RX5, "hasCrew", "(I)Z"⟩
abbrev cX5_hasTask : ByteArray := prog_7_method_5_code
def yX5_hasTask : MethodName := ⟨RX5, "hasTask", "(I)Z"⟩
abbrev cX5_newAsset : ByteArray := prog_7_method_6_code
def yX5_newAsset : MethodName := ⟨RX5, "newAsset", "(II)I"⟩
abbrev cX5_setLink : ByteArray := prog_7_method_7_code
def yX5_setLink : MethodName := ⟨RX5, "setLink", "(IIZ)I"⟩
abbrev cX5_setBar : ByteArray := prog_7_method_8_code
def yX5_setBar : MethodName := ⟨RX5, "setBar", "(IIZ)I"⟩
abbrev cX5_newCrew : ByteArray := prog_7_method_9_code
def yX5_newCrew : MethodName := ⟨RX5, "newCrew", "(II)I"⟩
abbrev cX5_newTask : ByteArray := prog_7_method_10_code
def yX5_newTask : MethodName := ⟨RX5, "newTask", "(IIIIII)I"⟩
abbrev cX5_startAsset : ByteArray := prog_7_method_11_code
def yX5_startAsset : MethodName := ⟨RX5, "startAsset", "(I)I"⟩
abbrev cX5_stopAsset : ByteArray := prog_7_method_12_code
def yX5_stopAsset : MethodName := ⟨RX5, "stopAsset", "(I)I"⟩
abbrev cX5_hangTag : ByteArray := prog_7_method_13_code
def yX5_hangTag : MethodName := ⟨RX5, "hangTag", "(II)I"⟩
abbrev cX5_beginTask : ByteArray := prog_7_method_14_code
def yX5_beginTask : MethodName := ⟨RX5, "beginTask", "(I)I"⟩
abbrev cX5_liftTag : ByteArray := prog_7_method_15_code
def yX5_liftTag : MethodName := ⟨RX5, "liftTag", "(II)I"⟩
abbrev cX5_cancelTask : ByteArray := prog_7_method_16_code
def yX5_cancelTask : MethodName := ⟨RX5, "cancelTask", "(I)I"⟩
abbrev cX5_passHours : ByteArray := prog_7_method_17_code
def yX5_passHours : MethodName := ⟨RX5, "passHours", "(I)I"⟩
abbrev cX5_runAssets : ByteArray := prog_7_method_18_code
def yX5_runAssets : MethodName := ⟨RX5, "runAssets", "()V"⟩
abbrev cX5_workOnTasks : ByteArray := prog_7_method_19_code
def yX5_workOnTasks : MethodName := ⟨RX5, "workOnTasks", "()I"⟩
abbrev cX5_mendAsset : ByteArray := prog_7_method_20_code
def yX5_mendAsset : MethodName := ⟨RX5, "mendAsset", "(I)V"⟩
abbrev cX5_slipTasks : ByteArray := prog_7_method_21_code
def yX5_slipTasks : MethodName := ⟨RX5, "slipTasks", "()V"⟩
abbrev cX5_reasonAgainst : ByteArray := prog_7_method_22_code
def yX5_reasonAgainst : MethodName := ⟨RX5, "reasonAgainst", "(I)I"⟩
abbrev cX5_barrierOf : ByteArray := prog_7_method_23_code
def yX5_barrierOf : MethodName := ⟨RX5, "barrierOf", "(I)I"⟩
abbrev cX5_doBar : ByteArray := prog_7_method_24_code
def yX5_doBar : MethodName := ⟨RX5, "doBar", "(II)Z"⟩
abbrev cX5_areNear : ByteArray := prog_7_method_25_code
def yX5_areNear : MethodName := ⟨RX5, "areNear", "(II)Z"⟩
abbrev cX5_isRunning : ByteArray := prog_7_method_26_code
def yX5_isRunning : MethodName := ⟨RX5, "isRunning", "(I)Z"⟩
abbrev cX5_canServe : ByteArray := prog_7_method_27_code
def yX5_canServe : MethodName := ⟨RX5, "canServe", "(ILTagWindows$Task;)Z"⟩
abbrev cX5_firstCrewFor : ByteArray := prog_7_method_28_code
def yX5_firstCrewFor : MethodName := ⟨RX5, "firstCrewFor", "(I)I"⟩
abbrev cX5_tagsHanging : ByteArray := prog_7_method_29_code
def yX5_tagsHanging : MethodName := ⟨RX5, "tagsHanging", "(I)I"⟩
abbrev cX5_taskOfTag : ByteArray := prog_7_method_30_code
def yX5_taskOfTag : MethodName := ⟨RX5, "taskOfTag", "(II)I"⟩
abbrev cX5_tasksOfAsset : ByteArray := prog_7_method_31_code
def yX5_tasksOfAsset : MethodName := ⟨RX5, "tasksOfAsset", "(III)I"⟩
abbrev cX5_tasksOfCrew : ByteArray := prog_7_method_32_code
def yX5_tasksOfCrew : MethodName := ⟨RX5, "tasksOfCrew", "(III)I"⟩
abbrev cX5_tasksIn : ByteArray := prog_7_method_33_code
def yX5_tasksIn : MethodName := ⟨RX5, "tasksIn", "(II)I"⟩
abbrev cX5_busyPeople : ByteArray := prog_7_method_34_code
def yX5_busyPeople : MethodName := ⟨RX5, "busyPeople", "(I)I"⟩
abbrev cX5_allBusyPeople : ByteArray := prog_7_method_35_code
def yX5_allBusyPeople : MethodName := ⟨RX5, "allBusyPeople", "()I"⟩
abbrev cX5_assetsRunning : ByteArray := prog_7_method_36_code
def yX5_assetsRunning : MethodName := ⟨RX5, "assetsRunning", "()I"⟩
abbrev cX5_slipsSoFar : ByteArray := prog_7_method_37_code
def yX5_slipsSoFar : MethodName := ⟨RX5, "slipsSoFar", "()I"⟩
def RX6 : String := "TagWindows$Task"
def TX6 : u_T := fun k => match k with
  | 0 => ("TagWindows$Task", "asset", "I", false)
  | 1 => ("TagWindows$Task", "skill", "I", false)
  | 2 => ("TagWindows$Task", "people", "I", false)
  | 3 => ("TagWindows$Task", "kind", "I", false)
  | 4 => ("TagWindows$Task", "hours", "I", false)
  | 5 => ("TagWindows$Task", "from", "I", false)
  | 6 => ("TagWindows$Task", "end", "I", false)
  | 7 => ("TagWindows$Task", "state", "I", false)
  | 8 => ("TagWindows$Task", "crew", "I", false)
  | 9 => ("TagWindows$Task", "left", "I", false)
  | 10 => ("TagWindows$Task", "slips", "I", false)
  | _ => ("TagWindows$Task", "height", "I", false)
def tyX6 : Nat → FieldType := fun k => match k with
  | 0 => .int
  | 1 => .int
  | 2 => .int
  | 3 => .int
  | 4 => .int
  | 5 => .int
  | 6 => .int
  | 7 => .int
  | 8 => .int
  | 9 => .int
  | 10 => .int
  | _ => .int
abbrev wsX60 : List Cond := u_ws RX6 TX6 12
theorem nmX6 : ∀ a, a < 12 → ∀ b, b < 12 → a ≠ b → (TX6 a).2.1 ≠ (TX6 b).2.1 := by decide +kernel
theorem tyX6_ok : ∀ k, k < 12 → parseFieldDescriptor (TX6 k).2.2.1 = some (tyX6 k) := by decide +kernel
abbrev cX6_init : ByteArray := prog_8_method_1_code
def yX6_init : MethodName := ⟨RX6, "<init>", "()V"⟩
abbrev cX6_setUp : ByteArray := prog_8_method_2_code
def yX6_setUp : MethodName := ⟨RX6, "setUp", "(IIIIII)V"⟩
abbrev cX6_copyFrom : ByteArray := prog_8_method_3_code
def yX6_copyFrom : MethodName := ⟨RX6, "copyFrom", "(LTagWindows$Task;)V"⟩
abbrev cX6_isIn : ByteArray := prog_8_method_4_code
def yX6_isIn : MethodName := ⟨RX6, "isIn", "(II)Z"⟩
abbrev cX6_tagHangs : ByteArray := prog_8_method_5_code
def yX6_tagHangs : MethodName := ⟨RX6, "tagHangs", "()Z"⟩
abbrev cX6_isTooLateAt : ByteArray := prog_8_method_6_code
def yX6_isTooLateAt : MethodName := ⟨RX6, "isTooLateAt", "(I)Z"⟩
abbrev cX6_slip : ByteArray := prog_8_method_7_code
def yX6_slip : MethodName := ⟨RX6, "slip", "()V"⟩
def RX7 : String := "TagWindows"
def TX7 : u_T := fun k => match k with
  | 0 => ("TagWindows", "now", "LTagWindows$Plant;", true)
  | 1 => ("TagWindows", "before", "LTagWindows$Plant;", true)
  | 2 => ("TagWindows", "kept", "LTagWindows$Plant;", true)
  | 3 => ("TagWindows", "hasKept", "Z", false)
  | 4 => ("TagWindows", "history", "LTagWindows$History;", true)
  | _ => ("TagWindows", "orders", "LTagWindows$Orders;", true)
def tyX7 : Nat → FieldType := fun k => match k with
  | 0 => .object "TagWindows$Plant"
  | 1 => .object "TagWindows$Plant"
  | 2 => .object "TagWindows$Plant"
  | 3 => .boolean
  | 4 => .object "TagWindows$History"
  | _ => .object "TagWindows$Orders"
abbrev wsX70 : List Cond := u_ws RX7 TX7 6
theorem nmX7 : ∀ a, a < 6 → ∀ b, b < 6 → a ≠ b → (TX7 a).2.1 ≠ (TX7 b).2.1 := by decide +kernel
theorem tyX7_ok : ∀ k, k < 6 → parseFieldDescriptor (TX7 k).2.2.1 = some (tyX7 k) := by decide +kernel
abbrev cX7_init : ByteArray := prog_1_method_1_code
def yX7_init : MethodName := ⟨RX7, "<init>", "()V"⟩
abbrev cX7_addAsset : ByteArray := prog_1_method_2_code
def yX7_addAsset : MethodName := ⟨RX7, "addAsset", "(II)I"⟩
abbrev cX7_link : ByteArray := prog_1_method_3_code
def yX7_link : MethodName := ⟨RX7, "link", "(IIZ)I"⟩
abbrev cX7_bar : ByteArray := prog_1_method_4_code
def yX7_bar : MethodName := ⟨RX7, "bar", "(IIZ)I"⟩
abbrev cX7_addCrew : ByteArray := prog_1_method_5_code
def yX7_addCrew : MethodName := ⟨RX7, "addCrew", "(II)I"⟩
abbrev cX7_addTask : ByteArray := prog_1_method_6_code
def yX7_addTask : MethodName := ⟨RX7, "addTask", "(IIIIII)I"⟩
abbrev cX7_run : ByteArray := prog_1_method_7_code
def yX7_run : MethodName := ⟨RX7, "run", "(I)I"⟩
abbrev cX7_stop : ByteArray := prog_1_method_8_code
def yX7_stop : MethodName := ⟨RX7, "stop", "(I)I"⟩
abbrev cX7_hang : ByteArray := prog_1_method_9_code
def yX7_hang : MethodName := ⟨RX7, "hang", "(II)I"⟩
abbrev cX7_begin : ByteArray := prog_1_method_10_code
def yX7_begin : MethodName := ⟨RX7, "begin", "(I)I"⟩
abbrev cX7_lift : ByteArray := prog_1_method_11_code
def yX7_lift : MethodName := ⟨RX7, "lift", "(II)I"⟩
abbrev cX7_cancel : ByteArray := prog_1_method_12_code
def yX7_cancel : MethodName := ⟨RX7, "cancel", "(I)I"⟩
abbrev cX7_pass : ByteArray := prog_1_method_13_code
def yX7_pass : MethodName := ⟨RX7, "pass", "(I)I"⟩
abbrev cX7_undo : ByteArray := prog_1_method_17_code
def yX7_undo : MethodName := ⟨RX7, "undo", "()I"⟩
abbrev cX7_keep : ByteArray := prog_1_method_18_code
def yX7_keep : MethodName := ⟨RX7, "keep", "()I"⟩
abbrev cX7_restore : ByteArray := prog_1_method_19_code
def yX7_restore : MethodName := ⟨RX7, "restore", "()I"⟩
abbrev cX7_real : ByteArray := prog_1_method_20_code
def yX7_real : MethodName := ⟨RX7, "real", "(II)F"⟩
abbrev cX7_hoursTo : ByteArray := prog_1_method_22_code
def yX7_hoursTo : MethodName := ⟨RX7, "hoursTo", "(II)I"⟩
abbrev cX7_asset : ByteArray := prog_1_method_23_code
def yX7_asset : MethodName := ⟨RX7, "asset", "(II)I"⟩
abbrev cX7_tagAt : ByteArray := prog_1_method_24_code
def yX7_tagAt : MethodName := ⟨RX7, "tagAt", "(II)I"⟩
abbrev cX7_crew : ByteArray := prog_1_method_25_code
def yX7_crew : MethodName := ⟨RX7, "crew", "(II)I"⟩
abbrev cX7_task : ByteArray := prog_1_method_26_code
def yX7_task : MethodName := ⟨RX7, "task", "(II)I"⟩
abbrev cX7_crewFor : ByteArray := prog_1_method_27_code
def yX7_crewFor : MethodName := ⟨RX7, "crewFor", "(I)I"⟩
abbrev cX7_count : ByteArray := prog_1_method_28_code
def yX7_count : MethodName := ⟨RX7, "count", "(I)I"⟩
abbrev cX7_recorded : ByteArray := prog_1_method_29_code
def yX7_recorded : MethodName := ⟨RX7, "recorded", "(I)I"⟩
abbrev cX7_within : ByteArray := prog_1_method_31_code
def yX7_within : MethodName := ⟨RX7, "within", "(III)Z"⟩
def RX8 : String := "TagWindowsModel"
def TX8 : u_T := fun k => match k with
  | _ => ("", "", "", false)
def tyX8 : Nat → FieldType := fun k => match k with
  | _ => .int
abbrev wsX80 : List Cond := u_ws RX8 TX8 0
theorem nmX8 : ∀ a, a < 0 → ∀ b, b < 0 → a ≠ b → (TX8 a).2.1 ≠ (TX8 b).2.1 := by decide +kernel
theorem tyX8_ok : ∀ k, k < 0 → parseFieldDescriptor (TX8 k).2.2.1 = some (tyX8 k) := by decide +kernel
def RJ6 : String := "java/lang/Integer"
def TJ6 : u_T := fun k => match k with
  | _ => ("", "", "", false)
def tyJ6 : Nat → FieldType := fun k => match k with
  | _ => .int
abbrev wsJ60 : List Cond := u_ws RJ6 TJ6 0
theorem nmJ6 : ∀ a, a < 0 → ∀ b, b < 0 → a ≠ b → (TJ6 a).2.1 ≠ (TJ6 b).2.1 := by decide +kernel
theorem tyJ6_ok : ∀ k, k < 0 → parseFieldDescriptor (TJ6 k).2.2.1 = some (tyJ6 k) := by decide +kernel
abbrev cJ6_bitCount_0f7a4 : ByteArray := prog_11_method_49_code
def yJ6_bitCount_0f7a4 : MethodName := ⟨RJ6, "bitCount", "(I)I"⟩
def RL : String := "TagWindowsLaw"
abbrev cL_cell : ByteArray := method_2_code
def yL_cell : MethodName := ⟨RL, "cell", "([II)I"⟩
abbrev cL_up : ByteArray := method_3_code
def yL_up : MethodName := ⟨RL, "up", "(II)I"⟩
abbrev cL_view : ByteArray := method_4_code
def yL_view : MethodName := ⟨RL, "view", "(LTagWindows;)J"⟩
abbrev cL_any : ByteArray := method_5_code
def yL_any : MethodName := ⟨RL, "any", "(LTagWindows;II)I"⟩
abbrev cL_setsUp : ByteArray := method_6_code
def yL_setsUp : MethodName := ⟨RL, "setsUp", "(LTagWindows;II)I"⟩
abbrev cL_turn : ByteArray := method_7_code
def yL_turn : MethodName := ⟨RL, "turn", "(LTagWindows;III)I"⟩
abbrev cL_isTask : ByteArray := method_8_code
def yL_isTask : MethodName := ⟨RL, "isTask", "(LTagWindows;I)Z"⟩
abbrev cL_isAsset : ByteArray := method_9_code
def yL_isAsset : MethodName := ⟨RL, "isAsset", "(LTagWindows;I)Z"⟩
abbrev cL_areRight : ByteArray := method_10_code
def yL_areRight : MethodName := ⟨RL, "areRight", "(LTagWindows;)Z"⟩
abbrev cL_isUndone : ByteArray := method_11_code
def yL_isUndone : MethodName := ⟨RL, "isUndone", "(LTagWindows;IIIIJ)Z"⟩
abbrev cL_isKept : ByteArray := method_12_code
def yL_isKept : MethodName := ⟨RL, "isKept", "(LTagWindows;II)Z"⟩
abbrev cL_law : ByteArray := code
def yL_law : MethodName := ⟨RL, "law", "([I)Z"⟩
abbrev vwCl : List vw_C := [(RX0, TX0, 6), (RX1, TX1, 2), (RX2, TX2, 3), (RX3, TX3, 3), (RX4, TX4, 5), (RX5, TX5, 8), (RX6, TX6, 12), (RX7, TX7, 6)]
theorem fl_good : Jvm.FP.Core.Good Jvm.FP.Core.b32 := Jvm.FP.Core.good_b32
