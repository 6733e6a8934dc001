/-! the words that every method takes: all good ones of the tables -/
def wsA : List Cond := lw_tbl.filter goodWord
theorem wsA_in : ∀ w ∈ wsA, w ∈ lw_tbl := fun _ h => (List.mem_filter.mp h).1
theorem wsA_gd : ∀ w ∈ wsA, (w.onTables && w.keeps) = true ∨ ∃ ty, w = .arrayClass ty := fun _ h => good_of_word (List.mem_filter.mp h).2
theorem wsA_at {w : Cond} (i : Nat) (h : lw_tbl[i]? = some w) (hg : goodWord w = true) : w ∈ wsA := List.mem_filter.mpr ⟨List.mem_of_getElem? h, hg⟩
theorem wsA_ps (ws : List Cond) (ps : List Nat) (hp : ws = ps.filterMap (fun i => lw_tbl[i]?)) (h : ws.all goodWord = true) : ∀ w ∈ ws, w ∈ wsA := fun w hw => List.mem_filter.mpr ⟨(goodIn_r ws ps hp h w hw).1, List.all_eq_true.mp h w hw⟩
theorem iAX0 : ∀ w ∈ u_ws RX0 TX0 6, w ∈ wsA := wsA_ps _ [57, 59, 61, 63, 65, 67] (by decide +kernel) (by decide +kernel)
theorem iAX1 : ∀ w ∈ u_ws RX1 TX1 2, w ∈ wsA := wsA_ps _ [81, 83] (by decide +kernel) (by decide +kernel)
theorem iAX2 : ∀ w ∈ u_ws RX2 TX2 3, w ∈ wsA := wsA_ps _ [195, 197, 199] (by decide +kernel) (by decide +kernel)
theorem iAX3 : ∀ w ∈ u_ws RX3 TX3 3, w ∈ wsA := wsA_ps _ [218, 220, 222] (by decide +kernel) (by decide +kernel)
theorem iAX4 : ∀ w ∈ u_ws RX4 TX4 5, w ∈ wsA := wsA_ps _ [232, 234, 236, 238, 240] (by decide +kernel) (by decide +kernel)
theorem iAX5 : ∀ w ∈ u_ws RX5 TX5 8, w ∈ wsA := wsA_ps _ [165, 167, 169, 171, 173, 175, 177, 179] (by decide +kernel) (by decide +kernel)
theorem iAX6 : ∀ w ∈ u_ws RX6 TX6 12, w ∈ wsA := wsA_ps _ [125, 127, 129, 131, 133, 135, 137, 139, 141, 143, 145, 147] (by decide +kernel) (by decide +kernel)
theorem iAX7 : ∀ w ∈ u_ws RX7 TX7 6, w ∈ wsA := wsA_ps _ [249, 251, 253, 255, 257, 259] (by decide +kernel) (by decide +kernel)
/-! words that want a way of their own: nest mates, arrays over a class -/
def spN : List (String × Nat × MethodName × String) := [(RX5, 46, yX0_init, "TagWindows"), (RX5, 47, yX1_init, "TagWindows"), (RX5, 48, yX6_init, "TagWindows"), (RX4, 31, yX3_init, "TagWindows"), (RX5, 59, yX7_within, "TagWindows")]
def spA : List String := [RX0, RX1, RX6, RX5, RX3]
theorem spN_in : ∀ q ∈ spN, Cond.methodLinkNest q.1 q.2.1 q.2.2.1 q.2.2.2 ∈ lw_tbl := by
  intro q hq
  simp only [spN, List.mem_cons, List.not_mem_nil, or_false] at hq
  rcases hq with rfl | rfl | rfl | rfl | rfl
  · exact List.mem_of_getElem? (i := 40) (by decide +kernel)
  · exact List.mem_of_getElem? (i := 72) (by decide +kernel)
  · exact List.mem_of_getElem? (i := 87) (by decide +kernel)
  · exact List.mem_of_getElem? (i := 211) (by decide +kernel)
  · exact List.mem_of_getElem? (i := 286) (by decide +kernel)
theorem spA_in : ∀ C ∈ spA, Cond.arrayOver (.object C) ∈ lw_tbl := by
  intro q hq
  simp only [spA, List.mem_cons, List.not_mem_nil, or_false] at hq
  rcases hq with rfl | rfl | rfl | rfl | rfl
  · exact List.mem_of_getElem? (i := 34) (by decide +kernel)
  · exact List.mem_of_getElem? (i := 36) (by decide +kernel)
  · exact List.mem_of_getElem? (i := 38) (by decide +kernel)
  · exact List.mem_of_getElem? (i := 189) (by decide +kernel)
  · exact List.mem_of_getElem? (i := 209) (by decide +kernel)
theorem nk_RX5_46 : (RX5, 46, yX0_init, "TagWindows") ∈ spN := by simp [spN]
theorem nk_RX5_47 : (RX5, 47, yX1_init, "TagWindows") ∈ spN := by simp [spN]
theorem nk_RX5_48 : (RX5, 48, yX6_init, "TagWindows") ∈ spN := by simp [spN]
theorem nk_RX4_31 : (RX4, 31, yX3_init, "TagWindows") ∈ spN := by simp [spN]
theorem nk_RX5_59 : (RX5, 59, yX7_within, "TagWindows") ∈ spN := by simp [spN]
theorem ao_RX0 : RX0 ∈ spA := by simp [spA]
theorem ao_RX1 : RX1 ∈ spA := by simp [spA]
theorem ao_RX6 : RX6 ∈ spA := by simp [spA]
theorem ao_RX5 : RX5 ∈ spA := by simp [spA]
theorem ao_RX3 : RX3 ∈ spA := by simp [spA]
