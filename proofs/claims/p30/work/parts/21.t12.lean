set_option maxRecDepth 4000 in
theorem sp_x_undo {σ : pT} {I : pI} {F : pF} {x o z : Nat} (h : isTW σ x) (ho : I (x + 127) 1 = nI o) (ho4 : o < 4) (hz : I (x + 127) 2 = nI z) (hz4 : z ≤ 4) (hb : ∀ i, i < 4 → ∀ a, a < 8 → I (x + 127 + 2 + 42 * i + 5 + a) 4 = 0 ∨ I (x + 127 + 2 + 42 * i + 5 + a) 4 = 1) : PR yX7_undo cX7_undo mX7_undo [.ref x] σ I F fun v I' F' => (z = 0 ∧ v = some (.int (-5)) ∧ I' = I ∧ F' = F) ∨ (0 < z ∧ v = some (.int (nI (z - 1))) ∧ Cpy (x + 1) (x + 127 + 2 + 42 * ((o + (z - 1)) % 4)) (up2 I (x + 127) 2 (nI (z - 1))) F I' F') := by
  refine PR.of oP_X7_undo (catOK rfl) (Nat.le_of_ble_eq_true rfl) ?_
  show PW _ _ _ 0 [.ref x] [] _ _ _ _
  refine pw_aload_n dX7_undo_0 rfl rfl ?_
  refine pw_getR (x := (x + 127)) dX7_undo_1 fd_RX7_29 (by decide) (tw_k h) rfl (tw_r4 h) ?_
  refine pw_aload_n dX7_undo_4 rfl rfl ?_
  refine pw_getR (x := (x + 1)) dX7_undo_5 fd_RX7_10 (by decide) (tw_k h) rfl (tw_r0 h) ?_
  refine pr_callV dX7_undo_8 oX_X2_takeBack lk_RX7_110 (sp_takeBack (tw_hi h) (tw_now h) (by omega) ho ho4 hz hz4 hb) (hi_k (tw_hi h)) rfl rfl (Nat.le_of_ble_eq_true rfl) (by decide) (fun v I1 F1 hq => ?_)
  rcases hq with ⟨hz0, rfl, rfl, rfl⟩ | ⟨hz0, rfl, hc⟩
  · exact pw_iret dX7_undo_11 rfl ⟨rfl, Or.inl ⟨hz0, rfl, rfl, rfl⟩⟩
  exact pw_iret dX7_undo_11 rfl ⟨rfl, Or.inr ⟨hz0, rfl, hc⟩⟩

set_option maxRecDepth 4000 in
theorem sp_x_keep {σ : pT} {I : pI} {F : pF} {x : Nat} (h : isTW σ x) (hb : ∀ a, a < 8 → I (x + 1 + 5 + a) 4 = 0 ∨ I (x + 1 + 5 + a) 4 = 1) : PR yX7_keep cX7_keep mX7_keep [.ref x] σ I F fun v I' F' => v = some (.int (I (x + 1) 7)) ∧ ∃ I1, Cpy (x + 85) (x + 1) I F I1 F' ∧ I' = up2 I1 x 3 1 := by
  refine PR.of oP_X7_keep (catOK rfl) (Nat.le_of_ble_eq_true rfl) ?_
  show PW _ _ _ 0 [.ref x] [] _ _ _ _
  refine pw_aload_n dX7_keep_0 rfl rfl ?_
  refine pw_getR (x := (x + 85)) dX7_keep_1 fd_RX7_19 (by decide) (tw_k h) rfl (tw_r2 h) ?_
  refine pw_aload_n dX7_keep_4 rfl rfl ?_
  refine pw_getR (x := (x + 1)) dX7_keep_5 fd_RX7_10 (by decide) (tw_k h) rfl (tw_r0 h) ?_
  refine pr_callV dX7_keep_8 oX_X5_copyFrom lk_RX7_40 (sp_copyFrom (tw_kept h) (tw_now h) (by omega) hb) (pl_k (tw_kept h)) rfl rfl (Nat.le_of_ble_eq_true rfl) (by decide) (fun v I1 F1 hq => ?_)
  obtain ⟨rfl, hc⟩ := hq
  refine pw_aload_n dX7_keep_11 rfl rfl ?_
  refine pw_iconst (v := 1) dX7_keep_12 (by decide) ?_
  refine pw_putI dX7_keep_13 fd_RX7_22 (by decide) rfl ⟨by decide, by decide, rfl⟩ (tw_k h) ?_
  refine pw_aload_n dX7_keep_16 rfl rfl ?_
  refine pw_getR (x := (x + 1)) dX7_keep_17 fd_RX7_10 (by decide) (tw_k h) rfl (tw_r0 h) ?_
  refine pw_getI dX7_keep_20 fd_RX7_114 (by decide) (pl_k (tw_now h)) rfl ?_
  rw [up2_ni (by omega), congrFun (Cpy_fr hc (by omega)).1 7]
  exact pw_iret dX7_keep_23 rfl ⟨rfl, rfl, I1, hc, rfl⟩

set_option maxRecDepth 4000 in
theorem sp_x_restore {σ : pT} {I : pI} {F : pF} {x o z : Nat} (h : isTW σ x) (ho : I (x + 127) 1 = nI o) (ho4 : o < 4) (hz : I (x + 127) 2 = nI z) (hz4 : z ≤ 4) (hb : ∀ a, a < 8 → I (x + 1 + 5 + a) 4 = 0 ∨ I (x + 1 + 5 + a) 4 = 1) (hbk : ∀ a, a < 8 → I (x + 85 + 5 + a) 4 = 0 ∨ I (x + 85 + 5 + a) 4 = 1) : PR yX7_restore cX7_restore mX7_restore [.ref x] σ I F fun v I' F' => (I x 3 = 0 ∧ v = some (.int (-5)) ∧ I' = I ∧ F' = F) ∨ (¬ I x 3 = 0 ∧ ∃ I1 F1 I2 F2, Cpy (x + 43) (x + 1) I F I1 F1 ∧ Cpy (x + 1) (x + 85) I1 F1 I2 F2 ∧ recQ x o z (I2 (x + 1) 7) I2 F2 v I' F') := by
  refine PR.of oP_X7_restore (catOK rfl) (Nat.le_of_ble_eq_true rfl) ?_
  show PW _ _ _ 0 [.ref x] [] _ _ _ _
  refine pw_aload_n dX7_restore_0 rfl rfl ?_
  refine pw_getI dX7_restore_1 fd_RX7_22 (by decide) (tw_k h) rfl ?_
  refine pw_if_ne (tgt := 10) dX7_restore_4 (by decide) (fun c_4 => ?_) (fun c_4 => ?_)
  · refine pw_aload_n dX7_restore_10 rfl rfl ?_
    refine pw_getR (x := (x + 43)) dX7_restore_11 fd_RX7_16 (by decide) (tw_k h) rfl (tw_r1 h) ?_
    refine pw_aload_n dX7_restore_14 rfl rfl ?_
    refine pw_getR (x := (x + 1)) dX7_restore_15 fd_RX7_10 (by decide) (tw_k h) rfl (tw_r0 h) ?_
    refine pr_callV dX7_restore_18 oX_X5_copyFrom lk_RX7_40 (sp_copyFrom (tw_bef h) (tw_now h) (by omega) hb) (pl_k (tw_bef h)) rfl rfl (Nat.le_of_ble_eq_true rfl) (by decide) (fun v I1 F1 hq => ?_)
    obtain ⟨rfl, hc⟩ := hq
    refine pw_aload_n dX7_restore_21 rfl rfl ?_
    refine pw_getR (x := (x + 1)) dX7_restore_22 fd_RX7_10 (by decide) (tw_k h) rfl (tw_r0 h) ?_
    refine pw_aload_n dX7_restore_25 rfl rfl ?_
    refine pw_getR (x := (x + 85)) dX7_restore_26 fd_RX7_19 (by decide) (tw_k h) rfl (tw_r2 h) ?_
    refine pr_callV dX7_restore_29 oX_X5_copyFrom lk_RX7_40 (sp_copyFrom (tw_now h) (tw_kept h) (by omega) (fun a ha => by rw [congrFun (Cpy_fr hc (by omega)).1 4]; exact hbk a ha)) (pl_k (tw_now h)) rfl rfl (Nat.le_of_ble_eq_true rfl) (by decide) (fun v I2 F2 hq => ?_)
    obtain ⟨rfl, hc2⟩ := hq
    refine pw_aload_n dX7_restore_32 rfl rfl ?_
    refine pw_aload_n dX7_restore_33 rfl rfl ?_
    refine pw_getR (x := (x + 1)) dX7_restore_34 fd_RX7_10 (by decide) (tw_k h) rfl (tw_r0 h) ?_
    refine pw_getI dX7_restore_37 fd_RX7_114 (by decide) (pl_k (tw_now h)) rfl ?_
    refine pr_callV dX7_restore_40 oX_X7_recorded lk_RX7_48 (sp_recorded h ((congrFun (Cpy_fr hc2 (by omega)).1 1).trans ((congrFun (Cpy_fr hc (by omega)).1 1).trans ho)) ho4 ((congrFun (Cpy_fr hc2 (by omega)).1 2).trans ((congrFun (Cpy_fr hc (by omega)).1 2).trans hz)) hz4 (fun a ha => by rw [congrFun (Cpy_fr hc2 (by omega)).1 4, (hc.1.2.1 a ha).2.1]; exact hb a ha)) (tw_k h) rfl rfl (Nat.le_of_ble_eq_true rfl) (by decide) (fun v I3 F3 hq => ?_)
    have hv := hq.1
    subst hv
    exact pw_iret dX7_restore_43 rfl ⟨rfl, Or.inr ⟨c_4, I1, F1, I2, F2, hc, hc2, hq⟩⟩
  · refine pw_bipush (v := (-5)) dX7_restore_7 (by decide) ?_
    exact pw_iret dX7_restore_9 rfl ⟨rfl, Or.inl ⟨c_4, rfl, rfl, rfl⟩⟩

/-! orders followed -/
