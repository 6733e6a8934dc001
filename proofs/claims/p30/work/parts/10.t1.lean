theorem ret_t {c : Prop} [Decidable c] (h : c) : some (Value.int 1) = some (Value.int (bI (decide c))) := by simp [bI, h]
theorem ret_f {c : Prop} [Decidable c] (h : ¬ c) : some (Value.int 0) = some (Value.int (bI (decide c))) := by simp [bI, h]
theorem i_nlt {a b : Int32} (h : a < b) : ¬ b ≤ a := by
  rw [Int32.lt_iff_toInt_lt] at h
  rw [Int32.le_iff_toInt_le]
  omega
theorem i_nle {a b : Int32} (h : a ≤ b) : ¬ b < a := by
  rw [Int32.le_iff_toInt_le] at h
  rw [Int32.lt_iff_toInt_lt]
  omega
theorem i_le {a b : Int32} (h : ¬ b < a) : a ≤ b := by
  rw [Int32.lt_iff_toInt_lt] at h
  rw [Int32.le_iff_toInt_le]
  omega
theorem i_lt {a b : Int32} (h : ¬ b ≤ a) : a < b := by
  rw [Int32.le_iff_toInt_le] at h
  rw [Int32.lt_iff_toInt_lt]
  omega
/-- an asset's health an hour later -/
def wornF (w h : UInt32) : UInt32 := if 0 ≤ Op.cmpValue (FP.fcmp (FP.fsub h (FP.fmul h w)) 1008981770) .g then FP.fsub h (FP.fmul h w) else 1008981770
def wornN (w : UInt32) : Nat → UInt32 → UInt32
  | 0, h => h
  | n + 1, h => wornN w n (wornF w h)
theorem wornN_s (w : UInt32) (n : Nat) (h : UInt32) : wornN w (n + 1) h = wornF w (wornN w n h) := by
  induction n generalizing h with
  | zero => rfl
  | succ n ih => exact ih (wornF w h)
/-- hours until it is less than a bound: from hour k on, at most so many more -/
def untilB (w b : UInt32) : Nat → Nat → UInt32 → Int32
  | 0, _, _ => -5
  | n + 1, k, h => if 0 ≤ Op.cmpValue (FP.fcmp h b) .g then untilB w b n (k + 1) (wornF w h) else nI k

set_option maxRecDepth 4000 in
theorem sp_within {σ : pT} {I : pI} {F : pF} {v a b : Int32} : PE yX7_within cX7_within mX7_within [.int v, .int a, .int b] σ I F (some (.int (bI (decide (a ≤ v ∧ v ≤ b))))) I F := by
  refine PE.of oP_X7_within (catOK rfl) (Nat.le_of_ble_eq_true rfl) ?_
  show PW _ _ _ 0 [.int v, .int a, .int b] [] _ _ _ _
  refine pw_iload_n dX7_within_0 rfl rfl ?_
  refine pw_iload_n dX7_within_1 rfl rfl ?_
  refine pw_icmp_lt (tgt := 14) dX7_within_2 (by decide) (fun c_2 => ?_) (fun c_2 => ?_)
  · refine pw_iconst (v := 0) dX7_within_14 (by decide) ?_
    exact pw_zret dX7_within_15 rfl (by first | rfl | decide) (by first | exact ⟨ret_t ⟨i_le c_2, i_le c_7⟩, rfl, rfl, rfl⟩ | exact ⟨ret_f (fun z => i_nlt c_2 z.1), rfl, rfl, rfl⟩ | exact ⟨ret_f (fun z => i_nlt c_7 z.2), rfl, rfl, rfl⟩)
  · refine pw_iload_n dX7_within_5 rfl rfl ?_
    refine pw_iload_n dX7_within_6 rfl rfl ?_
    refine pw_icmp_gt (tgt := 14) dX7_within_7 (by decide) (fun c_7 => ?_) (fun c_7 => ?_)
    · refine pw_iconst (v := 0) dX7_within_14 (by decide) ?_
      exact pw_zret dX7_within_15 rfl (by first | rfl | decide) (by first | exact ⟨ret_t ⟨i_le c_2, i_le c_7⟩, rfl, rfl, rfl⟩ | exact ⟨ret_f (fun z => i_nlt c_2 z.1), rfl, rfl, rfl⟩ | exact ⟨ret_f (fun z => i_nlt c_7 z.2), rfl, rfl, rfl⟩)
    · refine pw_iconst (v := 1) dX7_within_10 (by decide) ?_
      refine pw_goto (tgt := 15) dX7_within_11 (by decide) ?_
      exact pw_zret dX7_within_15 rfl (by first | rfl | decide) (by first | exact ⟨ret_t ⟨i_le c_2, i_le c_7⟩, rfl, rfl, rfl⟩ | exact ⟨ret_f (fun z => i_nlt c_2 z.1), rfl, rfl, rfl⟩ | exact ⟨ret_f (fun z => i_nlt c_7 z.2), rfl, rfl, rfl⟩)

set_option maxRecDepth 4000 in
theorem sp_hasAsset {σ : pT} {I : pI} {F : pF} {p : Nat} {a : Int32} (h : isPl σ p) : PE yX5_hasAsset cX5_hasAsset mX5_hasAsset [.ref p, .int a] σ I F (some (.int (bI (decide (0 ≤ a ∧ a < I p 4))))) I F := by
  refine PE.of oP_X5_hasAsset (catOK rfl) (Nat.le_of_ble_eq_true rfl) ?_
  show PW _ _ _ 0 [.ref p, .int a] [] _ _ _ _
  refine pw_iload_n dX5_hasAsset_0 rfl rfl ?_
  refine pw_if_lt (tgt := 16) dX5_hasAsset_1 (by decide) (fun c_1 => ?_) (fun c_1 => ?_)
  · refine pw_iconst (v := 0) dX5_hasAsset_16 (by decide) ?_
    exact pw_zret dX5_hasAsset_17 rfl (by first | rfl | decide) (by first | exact ⟨ret_t ⟨i_le c_1, i_lt c_9⟩, rfl, rfl, rfl⟩ | exact ⟨ret_f (fun z => i_nlt c_1 z.1), rfl, rfl, rfl⟩ | exact ⟨ret_f (fun z => i_nle c_9 z.2), rfl, rfl, rfl⟩)
  · refine pw_iload_n dX5_hasAsset_4 rfl rfl ?_
    refine pw_aload_n dX5_hasAsset_5 rfl rfl ?_
    refine pw_getI dX5_hasAsset_6 fd_RX5_33 (by decide) (pl_k h) rfl ?_
    refine pw_icmp_ge (tgt := 16) dX5_hasAsset_9 (by decide) (fun c_9 => ?_) (fun c_9 => ?_)
    · refine pw_iconst (v := 0) dX5_hasAsset_16 (by decide) ?_
      exact pw_zret dX5_hasAsset_17 rfl (by first | rfl | decide) (by first | exact ⟨ret_t ⟨i_le c_1, i_lt c_9⟩, rfl, rfl, rfl⟩ | exact ⟨ret_f (fun z => i_nlt c_1 z.1), rfl, rfl, rfl⟩ | exact ⟨ret_f (fun z => i_nle c_9 z.2), rfl, rfl, rfl⟩)
    · refine pw_iconst (v := 1) dX5_hasAsset_12 (by decide) ?_
      refine pw_goto (tgt := 17) dX5_hasAsset_13 (by decide) ?_
      exact pw_zret dX5_hasAsset_17 rfl (by first | rfl | decide) (by first | exact ⟨ret_t ⟨i_le c_1, i_lt c_9⟩, rfl, rfl, rfl⟩ | exact ⟨ret_f (fun z => i_nlt c_1 z.1), rfl, rfl, rfl⟩ | exact ⟨ret_f (fun z => i_nle c_9 z.2), rfl, rfl, rfl⟩)

set_option maxRecDepth 4000 in
theorem sp_hasCrew {σ : pT} {I : pI} {F : pF} {p : Nat} {a : Int32} (h : isPl σ p) : PE yX5_hasCrew cX5_hasCrew mX5_hasCrew [.ref p, .int a] σ I F (some (.int (bI (decide (0 ≤ a ∧ a < I p 5))))) I F := by
  refine PE.of oP_X5_hasCrew (catOK rfl) (Nat.le_of_ble_eq_true rfl) ?_
  show PW _ _ _ 0 [.ref p, .int a] [] _ _ _ _
  refine pw_iload_n dX5_hasCrew_0 rfl rfl ?_
  refine pw_if_lt (tgt := 16) dX5_hasCrew_1 (by decide) (fun c_1 => ?_) (fun c_1 => ?_)
  · refine pw_iconst (v := 0) dX5_hasCrew_16 (by decide) ?_
    exact pw_zret dX5_hasCrew_17 rfl (by first | rfl | decide) (by first | exact ⟨ret_t ⟨i_le c_1, i_lt c_9⟩, rfl, rfl, rfl⟩ | exact ⟨ret_f (fun z => i_nlt c_1 z.1), rfl, rfl, rfl⟩ | exact ⟨ret_f (fun z => i_nle c_9 z.2), rfl, rfl, rfl⟩)
  · refine pw_iload_n dX5_hasCrew_4 rfl rfl ?_
    refine pw_aload_n dX5_hasCrew_5 rfl rfl ?_
    refine pw_getI dX5_hasCrew_6 fd_RX5_37 (by decide) (pl_k h) rfl ?_
    refine pw_icmp_ge (tgt := 16) dX5_hasCrew_9 (by decide) (fun c_9 => ?_) (fun c_9 => ?_)
    · refine pw_iconst (v := 0) dX5_hasCrew_16 (by decide) ?_
      exact pw_zret dX5_hasCrew_17 rfl (by first | rfl | decide) (by first | exact ⟨ret_t ⟨i_le c_1, i_lt c_9⟩, rfl, rfl, rfl⟩ | exact ⟨ret_f (fun z => i_nlt c_1 z.1), rfl, rfl, rfl⟩ | exact ⟨ret_f (fun z => i_nle c_9 z.2), rfl, rfl, rfl⟩)
    · refine pw_iconst (v := 1) dX5_hasCrew_12 (by decide) ?_
      refine pw_goto (tgt := 17) dX5_hasCrew_13 (by decide) ?_
      exact pw_zret dX5_hasCrew_17 rfl (by first | rfl | decide) (by first | exact ⟨ret_t ⟨i_le c_1, i_lt c_9⟩, rfl, rfl, rfl⟩ | exact ⟨ret_f (fun z => i_nlt c_1 z.1), rfl, rfl, rfl⟩ | exact ⟨ret_f (fun z => i_nle c_9 z.2), rfl, rfl, rfl⟩)

set_option maxRecDepth 4000 in
theorem sp_hasTask {σ : pT} {I : pI} {F : pF} {p : Nat} {a : Int32} (h : isPl σ p) : PE yX5_hasTask cX5_hasTask mX5_hasTask [.ref p, .int a] σ I F (some (.int (bI (decide (0 ≤ a ∧ a < I p 6))))) I F := by
  refine PE.of oP_X5_hasTask (catOK rfl) (Nat.le_of_ble_eq_true rfl) ?_
  show PW _ _ _ 0 [.ref p, .int a] [] _ _ _ _
  refine pw_iload_n dX5_hasTask_0 rfl rfl ?_
  refine pw_if_lt (tgt := 16) dX5_hasTask_1 (by decide) (fun c_1 => ?_) (fun c_1 => ?_)
  · refine pw_iconst (v := 0) dX5_hasTask_16 (by decide) ?_
    exact pw_zret dX5_hasTask_17 rfl (by first | rfl | decide) (by first | exact ⟨ret_t ⟨i_le c_1, i_lt c_9⟩, rfl, rfl, rfl⟩ | exact ⟨ret_f (fun z => i_nlt c_1 z.1), rfl, rfl, rfl⟩ | exact ⟨ret_f (fun z => i_nle c_9 z.2), rfl, rfl, rfl⟩)
  · refine pw_iload_n dX5_hasTask_4 rfl rfl ?_
    refine pw_aload_n dX5_hasTask_5 rfl rfl ?_
    refine pw_getI dX5_hasTask_6 fd_RX5_40 (by decide) (pl_k h) rfl ?_
    refine pw_icmp_ge (tgt := 16) dX5_hasTask_9 (by decide) (fun c_9 => ?_) (fun c_9 => ?_)
    · refine pw_iconst (v := 0) dX5_hasTask_16 (by decide) ?_
      exact pw_zret dX5_hasTask_17 rfl (by first | rfl | decide) (by first | exact ⟨ret_t ⟨i_le c_1, i_lt c_9⟩, rfl, rfl, rfl⟩ | exact ⟨ret_f (fun z => i_nlt c_1 z.1), rfl, rfl, rfl⟩ | exact ⟨ret_f (fun z => i_nle c_9 z.2), rfl, rfl, rfl⟩)
    · refine pw_iconst (v := 1) dX5_hasTask_12 (by decide) ?_
      refine pw_goto (tgt := 17) dX5_hasTask_13 (by decide) ?_
      exact pw_zret dX5_hasTask_17 rfl (by first | rfl | decide) (by first | exact ⟨ret_t ⟨i_le c_1, i_lt c_9⟩, rfl, rfl, rfl⟩ | exact ⟨ret_f (fun z => i_nlt c_1 z.1), rfl, rfl, rfl⟩ | exact ⟨ret_f (fun z => i_nle c_9 z.2), rfl, rfl, rfl⟩)

set_option maxRecDepth 4000 in
theorem sp_isLinkedTo {σ : pT} {I : pI} {F : pF} {q : Nat} {a : Int32} (h : (σ.2.1 q).1 = 0 + 1) : PE yX0_isLinkedTo cX0_isLinkedTo mX0_isLinkedTo [.ref q, .int a] σ I F (some (.int (bI (decide ((I q 5 >>> (a &&& 31)) &&& 1 = 1))))) I F := by
  refine PE.of oP_X0_isLinkedTo (catOK rfl) (Nat.le_of_ble_eq_true rfl) ?_
  show PW _ _ _ 0 [.ref q, .int a] [] _ _ _ _
  refine pw_aload_n dX0_isLinkedTo_0 rfl rfl ?_
  refine pw_getI dX0_isLinkedTo_1 fd_RX0_29 (by decide) h rfl ?_
  refine pw_iload_n dX0_isLinkedTo_4 rfl rfl ?_
  refine pw_ishr dX0_isLinkedTo_5 ?_
  refine pw_iconst (v := 1) dX0_isLinkedTo_6 (by decide) ?_
  refine pw_iand dX0_isLinkedTo_7 ?_
  refine pw_iconst (v := 1) dX0_isLinkedTo_8 (by decide) ?_
  refine pw_icmp_ne (tgt := 16) dX0_isLinkedTo_9 (by decide) (fun c_9 => ?_) (fun c_9 => ?_)
  · refine pw_iconst (v := 0) dX0_isLinkedTo_16 (by decide) ?_
    exact pw_zret dX0_isLinkedTo_17 rfl (by first | rfl | decide) (by first | exact ⟨ret_t c_9, rfl, rfl, rfl⟩ | exact ⟨ret_f c_9, rfl, rfl, rfl⟩ | exact ⟨ret_t (Classical.not_not.mp c_9), rfl, rfl, rfl⟩)
  · refine pw_iconst (v := 1) dX0_isLinkedTo_12 (by decide) ?_
    refine pw_goto (tgt := 17) dX0_isLinkedTo_13 (by decide) ?_
    exact pw_zret dX0_isLinkedTo_17 rfl (by first | rfl | decide) (by first | exact ⟨ret_t c_9, rfl, rfl, rfl⟩ | exact ⟨ret_f c_9, rfl, rfl, rfl⟩ | exact ⟨ret_t (Classical.not_not.mp c_9), rfl, rfl, rfl⟩)

set_option maxRecDepth 4000 in
theorem sp_afterAnHour {σ : pT} {I : pI} {F : pF} {q : Nat} {x : UInt32} (h : (σ.2.1 q).1 = 0 + 1) : PE yX0_afterAnHour cX0_afterAnHour mX0_afterAnHour [.ref q, .float x] σ I F (some (.float (wornF (F q 1) x))) I F := by
  refine PE.of oP_X0_afterAnHour (catOK rfl) (Nat.le_of_ble_eq_true rfl) ?_
  show PW _ _ _ 0 [.ref q, .float x, pJ] [] _ _ _ _
  refine pw_fload_n dX0_afterAnHour_0 rfl rfl ?_
  refine pw_fload_n dX0_afterAnHour_1 rfl rfl ?_
  refine pw_aload_n dX0_afterAnHour_2 rfl rfl ?_
  refine pw_getF dX0_afterAnHour_3 fd_RX0_15 (by decide) h rfl ?_
  refine pw_fmul dX0_afterAnHour_6 ?_
  refine pw_fsub dX0_afterAnHour_7 ?_
  refine pw_fstore_n dX0_afterAnHour_8 rfl (by decide) rfl ?_
  refine pw_fload_n dX0_afterAnHour_9 rfl rfl ?_
  refine pw_ldcf dX0_afterAnHour_10 kc_RX0_38 ?_
  refine pw_fcmp dX0_afterAnHour_12 ?_
  refine pw_if_ge (tgt := 21) dX0_afterAnHour_13 (by decide) (fun c_13 => ?_) (fun c_13 => ?_)
  · refine pw_fload_n dX0_afterAnHour_21 rfl rfl ?_
    exact pw_fret dX0_afterAnHour_22 rfl ⟨by simp [wornF, *], rfl, rfl, rfl⟩
  · refine pw_ldcf dX0_afterAnHour_16 kc_RX0_38 ?_
    refine pw_goto (tgt := 22) dX0_afterAnHour_18 (by decide) ?_
    exact pw_fret dX0_afterAnHour_22 rfl ⟨by simp [wornF, *], rfl, rfl, rfl⟩

set_option maxRecDepth 4000 in
theorem sp_runForAnHour {σ : pT} {I : pI} {F : pF} {q : Nat} (h : (σ.2.1 q).1 = 0 + 1) : PE yX0_runForAnHour cX0_runForAnHour mX0_runForAnHour [.ref q] σ I F none I (up2 (up2 F q 3 (FP.fadd (F q 3) (FP.fmul (FP.i2f (I q 0)) (F q 2)))) q 2 (wornF (F q 1) (F q 2))) := by
  refine PE.of oP_X0_runForAnHour (catOK rfl) (Nat.le_of_ble_eq_true rfl) ?_
  show PW _ _ _ 0 [.ref q] [] _ _ _ _
  refine pw_aload_n dX0_runForAnHour_0 rfl rfl ?_
  refine pw_aload_n dX0_runForAnHour_1 rfl rfl ?_
  refine pw_getF dX0_runForAnHour_2 fd_RX0_22 (by decide) h rfl ?_
  refine pw_aload_n dX0_runForAnHour_5 rfl rfl ?_
  refine pw_getI dX0_runForAnHour_6 fd_RX0_9 (by decide) h rfl ?_
  refine pw_i2f dX0_runForAnHour_9 ?_
  refine pw_aload_n dX0_runForAnHour_10 rfl rfl ?_
  refine pw_getF dX0_runForAnHour_11 fd_RX0_19 (by decide) h rfl ?_
  refine pw_fmul dX0_runForAnHour_14 ?_
  refine pw_fadd dX0_runForAnHour_15 ?_
  refine pw_putF dX0_runForAnHour_16 fd_RX0_22 (by decide) rfl rfl h ?_
  refine pw_aload_n dX0_runForAnHour_19 rfl rfl ?_
  refine pw_aload_n dX0_runForAnHour_20 rfl rfl ?_
  refine pw_aload_n dX0_runForAnHour_21 rfl rfl ?_
  refine pw_getF dX0_runForAnHour_22 fd_RX0_19 (by decide) h rfl ?_
  refine pe_callVf dX0_runForAnHour_25 oX_X0_afterAnHour lk_RX0_33 (sp_afterAnHour h) h rfl rfl (Nat.le_of_ble_eq_true rfl) (by decide) ?_
  refine pw_putF dX0_runForAnHour_28 fd_RX0_19 (by decide) rfl rfl h ?_
  exact pw_vret dX0_runForAnHour_31 rfl ⟨rfl, rfl, rfl, by simp [up2]⟩

set_option maxRecDepth 4000 in
theorem sp_mend {σ : pT} {I : pI} {F : pF} {q : Nat} (h : (σ.2.1 q).1 = 0 + 1) : PE yX0_mend cX0_mend mX0_mend [.ref q] σ I F none I (up2 F q 2 (FP.fadd (F q 2) (FP.fmul (FP.fsub 1065353216 (F q 2)) 1061158912))) := by
  refine PE.of oP_X0_mend (catOK rfl) (Nat.le_of_ble_eq_true rfl) ?_
  show PW _ _ _ 0 [.ref q] [] _ _ _ _
  refine pw_aload_n dX0_mend_0 rfl rfl ?_
  refine pw_aload_n dX0_mend_1 rfl rfl ?_
  refine pw_getF dX0_mend_2 fd_RX0_19 (by decide) h rfl ?_
  refine pw_fconst1 dX0_mend_5 ?_
  refine pw_aload_n dX0_mend_6 rfl rfl ?_
  refine pw_getF dX0_mend_7 fd_RX0_19 (by decide) h rfl ?_
  refine pw_fsub dX0_mend_10 ?_
  refine pw_ldcf dX0_mend_11 kc_RX0_37 ?_
  refine pw_fmul dX0_mend_13 ?_
  refine pw_fadd dX0_mend_14 ?_
  refine pw_putF dX0_mend_15 fd_RX0_19 (by decide) rfl rfl h ?_
  exact pw_vret dX0_mend_18 rfl ⟨rfl, rfl, rfl, rfl⟩

set_option maxRecDepth 4000 in
theorem sp_A_setUp {σ : pT} {I : pI} {F : pF} {q : Nat} {r t : Int32} (h : (σ.2.1 q).1 = 0 + 1) : PE yX0_setUp cX0_setUp mX0_setUp [.ref q, .int r, .int t] σ I F none (up2 (up2 (up2 I q 0 r) q 4 0) q 5 0) (up2 (up2 (up2 F q 1 (FP.fdiv (FP.i2f t) 1148846080)) q 2 1065353216) q 3 0) := by
  refine PE.of oP_X0_setUp (catOK rfl) (Nat.le_of_ble_eq_true rfl) ?_
  show PW _ _ _ 0 [.ref q, .int r, .int t] [] _ _ _ _
  refine pw_aload_n dX0_setUp_0 rfl rfl ?_
  refine pw_iload_n dX0_setUp_1 rfl rfl ?_
  refine pw_putI dX0_setUp_2 fd_RX0_9 (by decide) rfl ⟨rfl, rfl, rfl⟩ h ?_
  refine pw_aload_n dX0_setUp_5 rfl rfl ?_
  refine pw_iload_n dX0_setUp_6 rfl rfl ?_
  refine pw_i2f dX0_setUp_7 ?_
  refine pw_ldcf dX0_setUp_8 kc_RX0_32 ?_
  refine pw_fdiv dX0_setUp_10 ?_
  refine pw_putF dX0_setUp_11 fd_RX0_15 (by decide) rfl rfl h ?_
  refine pw_aload_n dX0_setUp_14 rfl rfl ?_
  refine pw_fconst1 dX0_setUp_15 ?_
  refine pw_putF dX0_setUp_16 fd_RX0_19 (by decide) rfl rfl h ?_
  refine pw_aload_n dX0_setUp_19 rfl rfl ?_
  refine pw_fconst0 dX0_setUp_20 ?_
  refine pw_putF dX0_setUp_21 fd_RX0_22 (by decide) rfl rfl h ?_
  refine pw_aload_n dX0_setUp_24 rfl rfl ?_
  refine pw_iconst (v := 0) dX0_setUp_25 (by decide) ?_
  refine pw_putI dX0_setUp_26 fd_RX0_25 (by decide) rfl ⟨by decide, by decide, rfl⟩ h ?_
  refine pw_aload_n dX0_setUp_29 rfl rfl ?_
  refine pw_iconst (v := 0) dX0_setUp_30 (by decide) ?_
  refine pw_putI dX0_setUp_31 fd_RX0_29 (by decide) rfl ⟨rfl, rfl, rfl⟩ h ?_
  exact pw_vret dX0_setUp_34 rfl ⟨rfl, rfl, rfl, rfl⟩

set_option maxRecDepth 4000 in
theorem sp_A_copy {σ : pT} {I : pI} {F : pF} {q r : Nat} (h : (σ.2.1 q).1 = 0 + 1) (h2 : (σ.2.1 r).1 = 0 + 1) (hz : I r 4 = 0 ∨ I r 4 = 1) (hqr : q ≠ r) : PE yX0_copyFrom cX0_copyFrom mX0_copyFrom [.ref q, .ref r] σ I F none (up2 (up2 (up2 I q 0 (I r 0)) q 4 (I r 4)) q 5 (I r 5)) (up2 (up2 (up2 F q 1 (F r 1)) q 2 (F r 2)) q 3 (F r 3)) := by
  refine PE.of oP_X0_copyFrom (catOK rfl) (Nat.le_of_ble_eq_true rfl) ?_
  show PW _ _ _ 0 [.ref q, .ref r] [] _ _ _ _
  refine pw_aload_n dX0_copyFrom_0 rfl rfl ?_
  refine pw_aload_n dX0_copyFrom_1 rfl rfl ?_
  refine pw_getI dX0_copyFrom_2 fd_RX0_9 (by decide) h2 rfl ?_
  refine pw_putI dX0_copyFrom_5 fd_RX0_9 (by decide) rfl ⟨rfl, rfl, rfl⟩ h ?_
  refine pw_aload_n dX0_copyFrom_8 rfl rfl ?_
  refine pw_aload_n dX0_copyFrom_9 rfl rfl ?_
  refine pw_getF dX0_copyFrom_10 fd_RX0_15 (by decide) h2 rfl ?_
  refine pw_putF dX0_copyFrom_13 fd_RX0_15 (by decide) rfl rfl h ?_
  refine pw_aload_n dX0_copyFrom_16 rfl rfl ?_
  refine pw_aload_n dX0_copyFrom_17 rfl rfl ?_
  refine pw_getF dX0_copyFrom_18 fd_RX0_19 (by decide) h2 rfl ?_
  refine pw_putF dX0_copyFrom_21 fd_RX0_19 (by decide) rfl rfl h ?_
  refine pw_aload_n dX0_copyFrom_24 rfl rfl ?_
  refine pw_aload_n dX0_copyFrom_25 rfl rfl ?_
  refine pw_getF dX0_copyFrom_26 fd_RX0_22 (by decide) h2 rfl ?_
  refine pw_putF dX0_copyFrom_29 fd_RX0_22 (by decide) rfl rfl h ?_
  refine pw_aload_n dX0_copyFrom_32 rfl rfl ?_
  refine pw_aload_n dX0_copyFrom_33 rfl rfl ?_
  refine pw_getI dX0_copyFrom_34 fd_RX0_25 (by decide) h2 rfl ?_
  refine pw_putI dX0_copyFrom_37 fd_RX0_25 (by decide) rfl ⟨by simp only [up2, Ne.symm hqr, false_and, if_false]; rcases hz with hz | hz <;> rw [hz] <;> rfl, by simp only [up2, Ne.symm hqr, false_and, if_false]; rcases hz with hz | hz <;> rw [hz] <;> rfl, rfl⟩ h ?_
  refine pw_aload_n dX0_copyFrom_40 rfl rfl ?_
  refine pw_aload_n dX0_copyFrom_41 rfl rfl ?_
  refine pw_getI dX0_copyFrom_42 fd_RX0_29 (by decide) h2 rfl ?_
  refine pw_putI dX0_copyFrom_45 fd_RX0_29 (by decide) rfl ⟨rfl, rfl, rfl⟩ h ?_
  exact pw_vret dX0_copyFrom_48 rfl ⟨rfl, rfl, by simp [up2, Ne.symm hqr], by simp [up2, Ne.symm hqr]⟩

set_option maxRecDepth 4000 in
theorem sp_C_setUp {σ : pT} {I : pI} {F : pF} {q : Nat} {r t : Int32} (h : (σ.2.1 q).1 = 1 + 1) : PE yX1_setUp cX1_setUp mX1_setUp [.ref q, .int r, .int t] σ I F none (up2 (up2 I q 0 r) q 1 t) F := by
  refine PE.of oP_X1_setUp (catOK rfl) (Nat.le_of_ble_eq_true rfl) ?_
  show PW _ _ _ 0 [.ref q, .int r, .int t] [] _ _ _ _
  refine pw_aload_n dX1_setUp_0 rfl rfl ?_
  refine pw_iload_n dX1_setUp_1 rfl rfl ?_
  refine pw_putI dX1_setUp_2 fd_RX1_7 (by decide) rfl ⟨rfl, rfl, rfl⟩ h ?_
  refine pw_aload_n dX1_setUp_5 rfl rfl ?_
  refine pw_iload_n dX1_setUp_6 rfl rfl ?_
  refine pw_putI dX1_setUp_7 fd_RX1_13 (by decide) rfl ⟨rfl, rfl, rfl⟩ h ?_
  exact pw_vret dX1_setUp_10 rfl ⟨rfl, rfl, rfl, rfl⟩

set_option maxRecDepth 4000 in
theorem sp_C_has {σ : pT} {I : pI} {F : pF} {q : Nat} {a : Int32} (h : (σ.2.1 q).1 = 1 + 1) : PE yX1_has cX1_has mX1_has [.ref q, .int a] σ I F (some (.int (bI (decide ((I q 1 >>> (a &&& 31)) &&& 1 = 1))))) I F := by
  refine PE.of oP_X1_has (catOK rfl) (Nat.le_of_ble_eq_true rfl) ?_
  show PW _ _ _ 0 [.ref q, .int a] [] _ _ _ _
  refine pw_aload_n dX1_has_0 rfl rfl ?_
  refine pw_getI dX1_has_1 fd_RX1_13 (by decide) h rfl ?_
  refine pw_iload_n dX1_has_4 rfl rfl ?_
  refine pw_ishr dX1_has_5 ?_
  refine pw_iconst (v := 1) dX1_has_6 (by decide) ?_
  refine pw_iand dX1_has_7 ?_
  refine pw_iconst (v := 1) dX1_has_8 (by decide) ?_
  refine pw_icmp_ne (tgt := 16) dX1_has_9 (by decide) (fun c_9 => ?_) (fun c_9 => ?_)
  · refine pw_iconst (v := 0) dX1_has_16 (by decide) ?_
    exact pw_zret dX1_has_17 rfl (by first | rfl | decide) (by first | exact ⟨ret_t c_9, rfl, rfl, rfl⟩ | exact ⟨ret_f c_9, rfl, rfl, rfl⟩ | exact ⟨ret_t (Classical.not_not.mp c_9), rfl, rfl, rfl⟩)
  · refine pw_iconst (v := 1) dX1_has_12 (by decide) ?_
    refine pw_goto (tgt := 17) dX1_has_13 (by decide) ?_
    exact pw_zret dX1_has_17 rfl (by first | rfl | decide) (by first | exact ⟨ret_t c_9, rfl, rfl, rfl⟩ | exact ⟨ret_f c_9, rfl, rfl, rfl⟩ | exact ⟨ret_t (Classical.not_not.mp c_9), rfl, rfl, rfl⟩)

set_option maxRecDepth 4000 in
theorem sp_C_copy {σ : pT} {I : pI} {F : pF} {q r : Nat} (h : (σ.2.1 q).1 = 1 + 1) (h2 : (σ.2.1 r).1 = 1 + 1) (hqr : q ≠ r) : PE yX1_copyFrom cX1_copyFrom mX1_copyFrom [.ref q, .ref r] σ I F none (up2 (up2 I q 0 (I r 0)) q 1 (I r 1)) F := by
  refine PE.of oP_X1_copyFrom (catOK rfl) (Nat.le_of_ble_eq_true rfl) ?_
  show PW _ _ _ 0 [.ref q, .ref r] [] _ _ _ _
  refine pw_aload_n dX1_copyFrom_0 rfl rfl ?_
  refine pw_aload_n dX1_copyFrom_1 rfl rfl ?_
  refine pw_getI dX1_copyFrom_2 fd_RX1_7 (by decide) h2 rfl ?_
  refine pw_putI dX1_copyFrom_5 fd_RX1_7 (by decide) rfl ⟨rfl, rfl, rfl⟩ h ?_
  refine pw_aload_n dX1_copyFrom_8 rfl rfl ?_
  refine pw_aload_n dX1_copyFrom_9 rfl rfl ?_
  refine pw_getI dX1_copyFrom_10 fd_RX1_13 (by decide) h2 rfl ?_
  refine pw_putI dX1_copyFrom_13 fd_RX1_13 (by decide) rfl ⟨rfl, rfl, rfl⟩ h ?_
  exact pw_vret dX1_copyFrom_16 rfl ⟨rfl, rfl, by simp [up2, Ne.symm hqr], rfl⟩

set_option maxRecDepth 4000 in
theorem sp_T_isIn {σ : pT} {I : pI} {F : pF} {q : Nat} {a b : Int32} (h : (σ.2.1 q).1 = 6 + 1) : PE yX6_isIn cX6_isIn mX6_isIn [.ref q, .int a, .int b] σ I F (some (.int (bI (decide (a ≤ I q 7 ∧ I q 7 ≤ b))))) I F := by
  refine PE.of oP_X6_isIn (catOK rfl) (Nat.le_of_ble_eq_true rfl) ?_
  show PW _ _ _ 0 [.ref q, .int a, .int b] [] _ _ _ _
  refine pw_aload_n dX6_isIn_0 rfl rfl ?_
  refine pw_getI dX6_isIn_1 fd_RX6_33 (by decide) h rfl ?_
  refine pw_iload_n dX6_isIn_4 rfl rfl ?_
  refine pw_icmp_lt (tgt := 20) dX6_isIn_5 (by decide) (fun c_5 => ?_) (fun c_5 => ?_)
  · refine pw_iconst (v := 0) dX6_isIn_20 (by decide) ?_
    exact pw_zret dX6_isIn_21 rfl (by first | rfl | decide) (by first | exact ⟨ret_t ⟨i_le c_5, i_le c_13⟩, rfl, rfl, rfl⟩ | exact ⟨ret_f (fun z => i_nlt c_5 z.1), rfl, rfl, rfl⟩ | exact ⟨ret_f (fun z => i_nlt c_13 z.2), rfl, rfl, rfl⟩)
  · refine pw_aload_n dX6_isIn_8 rfl rfl ?_
    refine pw_getI dX6_isIn_9 fd_RX6_33 (by decide) h rfl ?_
    refine pw_iload_n dX6_isIn_12 rfl rfl ?_
    refine pw_icmp_gt (tgt := 20) dX6_isIn_13 (by decide) (fun c_13 => ?_) (fun c_13 => ?_)
    · refine pw_iconst (v := 0) dX6_isIn_20 (by decide) ?_
      exact pw_zret dX6_isIn_21 rfl (by first | rfl | decide) (by first | exact ⟨ret_t ⟨i_le c_5, i_le c_13⟩, rfl, rfl, rfl⟩ | exact ⟨ret_f (fun z => i_nlt c_5 z.1), rfl, rfl, rfl⟩ | exact ⟨ret_f (fun z => i_nlt c_13 z.2), rfl, rfl, rfl⟩)
    · refine pw_iconst (v := 1) dX6_isIn_16 (by decide) ?_
      refine pw_goto (tgt := 21) dX6_isIn_17 (by decide) ?_
      exact pw_zret dX6_isIn_21 rfl (by first | rfl | decide) (by first | exact ⟨ret_t ⟨i_le c_5, i_le c_13⟩, rfl, rfl, rfl⟩ | exact ⟨ret_f (fun z => i_nlt c_5 z.1), rfl, rfl, rfl⟩ | exact ⟨ret_f (fun z => i_nlt c_13 z.2), rfl, rfl, rfl⟩)

set_option maxRecDepth 4000 in
theorem sp_T_tagHangs {σ : pT} {I : pI} {F : pF} {q : Nat} (h : (σ.2.1 q).1 = 6 + 1) : PE yX6_tagHangs cX6_tagHangs mX6_tagHangs [.ref q] σ I F (some (.int (bI (decide (1 ≤ I q 7 ∧ I q 7 ≤ 3))))) I F := by
  refine PE.of oP_X6_tagHangs (catOK rfl) (Nat.le_of_ble_eq_true rfl) ?_
  show PW _ _ _ 0 [.ref q] [] _ _ _ _
  refine pw_aload_n dX6_tagHangs_0 rfl rfl ?_
  refine pw_iconst (v := 1) dX6_tagHangs_1 (by decide) ?_
  refine pw_iconst (v := 3) dX6_tagHangs_2 (by decide) ?_
  refine pe_callVi dX6_tagHangs_3 oX_X6_isIn lk_RX6_48 (sp_T_isIn h) h rfl rfl (Nat.le_of_ble_eq_true rfl) (by decide) ?_
  exact pw_bret dX6_tagHangs_6 rfl ⟨rfl, rfl, rfl, rfl⟩

set_option maxRecDepth 4000 in
theorem sp_T_isTooLateAt {σ : pT} {I : pI} {F : pF} {q : Nat} {a : Int32} (h : (σ.2.1 q).1 = 6 + 1) : PE yX6_isTooLateAt cX6_isTooLateAt mX6_isTooLateAt [.ref q, .int a] σ I F (some (.int (bI (decide (I q 6 < a + I q 4))))) I F := by
  refine PE.of oP_X6_isTooLateAt (catOK rfl) (Nat.le_of_ble_eq_true rfl) ?_
  show PW _ _ _ 0 [.ref q, .int a] [] _ _ _ _
  refine pw_iload_n dX6_isTooLateAt_0 rfl rfl ?_
  refine pw_aload_n dX6_isTooLateAt_1 rfl rfl ?_
  refine pw_getI dX6_isTooLateAt_2 fd_RX6_24 (by decide) h rfl ?_
  refine pw_iadd dX6_isTooLateAt_5 ?_
  refine pw_aload_n dX6_isTooLateAt_6 rfl rfl ?_
  refine pw_getI dX6_isTooLateAt_7 fd_RX6_30 (by decide) h rfl ?_
  refine pw_icmp_le (tgt := 17) dX6_isTooLateAt_10 (by decide) (fun c_10 => ?_) (fun c_10 => ?_)
  · refine pw_iconst (v := 0) dX6_isTooLateAt_17 (by decide) ?_
    exact pw_zret dX6_isTooLateAt_18 rfl (by first | rfl | decide) (by first | exact ⟨ret_t (i_lt c_10), rfl, rfl, rfl⟩ | exact ⟨ret_f (i_nle c_10), rfl, rfl, rfl⟩)
  · refine pw_iconst (v := 1) dX6_isTooLateAt_13 (by decide) ?_
    refine pw_goto (tgt := 18) dX6_isTooLateAt_14 (by decide) ?_
    exact pw_zret dX6_isTooLateAt_18 rfl (by first | rfl | decide) (by first | exact ⟨ret_t (i_lt c_10), rfl, rfl, rfl⟩ | exact ⟨ret_f (i_nle c_10), rfl, rfl, rfl⟩)

/-- a task slips, or is missed -/
def slipI (I : pI) (q : Nat) : pI := if I q 7 = 0 ∧ 3 ≤ I q 10 then up2 I q 7 5 else up2 (up2 (up2 I q 5 (I q 5 + 24)) q 6 (I q 6 + 24)) q 10 (I q 10 + 1)
theorem slip_1 {I : pI} {q : Nat} (h1 : I q 7 = 0) (h2 : ¬ I q 10 < 3) : up2 I q 7 5 = slipI I q := by rw [slipI, if_pos ⟨h1, i_le h2⟩]
theorem slip_2 {I : pI} {q : Nat} (h2 : I q 10 < 3) : up2 (up2 (up2 I q 5 (I q 5 + 24)) q 6 (up2 I q 5 (I q 5 + 24) q 6 + 24)) q 10 (up2 (up2 I q 5 (I q 5 + 24)) q 6 (up2 I q 5 (I q 5 + 24) q 6 + 24) q 10 + 1) = slipI I q := by
  rw [slipI, if_neg (fun z => i_nlt h2 z.2)]
  simp [up2]
theorem slip_3 {I : pI} {q : Nat} (h2 : ¬ I q 7 = 0) : up2 (up2 (up2 I q 5 (I q 5 + 24)) q 6 (up2 I q 5 (I q 5 + 24) q 6 + 24)) q 10 (up2 (up2 I q 5 (I q 5 + 24)) q 6 (up2 I q 5 (I q 5 + 24) q 6 + 24) q 10 + 1) = slipI I q := by
  rw [slipI, if_neg (fun z => h2 z.1)]
  simp [up2]

set_option maxRecDepth 4000 in
theorem sp_T_slip {σ : pT} {I : pI} {F : pF} {q : Nat} (h : (σ.2.1 q).1 = 6 + 1) : PE yX6_slip cX6_slip mX6_slip [.ref q] σ I F none (slipI I q) F := by
  refine PE.of oP_X6_slip (catOK rfl) (Nat.le_of_ble_eq_true rfl) ?_
  show PW _ _ _ 0 [.ref q] [] _ _ _ _
  refine pw_aload_n dX6_slip_0 rfl rfl ?_
  refine pw_getI dX6_slip_1 fd_RX6_33 (by decide) h rfl ?_
  refine pw_if_ne (tgt := 21) dX6_slip_4 (by decide) (fun c_4 => ?_) (fun c_4 => ?_)
  · refine pw_aload_n dX6_slip_21 rfl rfl ?_
    refine pw_dup dX6_slip_22 rfl ?_
    refine pw_getI dX6_slip_23 fd_RX6_27 (by decide) h rfl ?_
    refine pw_bipush (v := 24) dX6_slip_26 (by decide) ?_
    refine pw_iadd dX6_slip_28 ?_
    refine pw_putI dX6_slip_29 fd_RX6_27 (by decide) rfl ⟨rfl, rfl, rfl⟩ h ?_
    refine pw_aload_n dX6_slip_32 rfl rfl ?_
    refine pw_dup dX6_slip_33 rfl ?_
    refine pw_getI dX6_slip_34 fd_RX6_30 (by decide) h rfl ?_
    refine pw_bipush (v := 24) dX6_slip_37 (by decide) ?_
    refine pw_iadd dX6_slip_39 ?_
    refine pw_putI dX6_slip_40 fd_RX6_30 (by decide) rfl ⟨rfl, rfl, rfl⟩ h ?_
    refine pw_aload_n dX6_slip_43 rfl rfl ?_
    refine pw_dup dX6_slip_44 rfl ?_
    refine pw_getI dX6_slip_45 fd_RX6_42 (by decide) h rfl ?_
    refine pw_iconst (v := 1) dX6_slip_48 (by decide) ?_
    refine pw_iadd dX6_slip_49 ?_
    refine pw_putI dX6_slip_50 fd_RX6_42 (by decide) rfl ⟨rfl, rfl, rfl⟩ h ?_
    exact pw_vret dX6_slip_53 rfl (by first | exact ⟨rfl, rfl, slip_1 c_4 c_12, rfl⟩ | exact ⟨rfl, rfl, slip_2 c_12, rfl⟩ | exact ⟨rfl, rfl, slip_3 c_4, rfl⟩)
  · refine pw_aload_n dX6_slip_7 rfl rfl ?_
    refine pw_getI dX6_slip_8 fd_RX6_42 (by decide) h rfl ?_
    refine pw_iconst (v := 3) dX6_slip_11 (by decide) ?_
    refine pw_icmp_lt (tgt := 21) dX6_slip_12 (by decide) (fun c_12 => ?_) (fun c_12 => ?_)
    · refine pw_aload_n dX6_slip_21 rfl rfl ?_
      refine pw_dup dX6_slip_22 rfl ?_
      refine pw_getI dX6_slip_23 fd_RX6_27 (by decide) h rfl ?_
      refine pw_bipush (v := 24) dX6_slip_26 (by decide) ?_
      refine pw_iadd dX6_slip_28 ?_
      refine pw_putI dX6_slip_29 fd_RX6_27 (by decide) rfl ⟨rfl, rfl, rfl⟩ h ?_
      refine pw_aload_n dX6_slip_32 rfl rfl ?_
      refine pw_dup dX6_slip_33 rfl ?_
      refine pw_getI dX6_slip_34 fd_RX6_30 (by decide) h rfl ?_
      refine pw_bipush (v := 24) dX6_slip_37 (by decide) ?_
      refine pw_iadd dX6_slip_39 ?_
      refine pw_putI dX6_slip_40 fd_RX6_30 (by decide) rfl ⟨rfl, rfl, rfl⟩ h ?_
      refine pw_aload_n dX6_slip_43 rfl rfl ?_
      refine pw_dup dX6_slip_44 rfl ?_
      refine pw_getI dX6_slip_45 fd_RX6_42 (by decide) h rfl ?_
      refine pw_iconst (v := 1) dX6_slip_48 (by decide) ?_
      refine pw_iadd dX6_slip_49 ?_
      refine pw_putI dX6_slip_50 fd_RX6_42 (by decide) rfl ⟨rfl, rfl, rfl⟩ h ?_
      exact pw_vret dX6_slip_53 rfl (by first | exact ⟨rfl, rfl, slip_1 c_4 c_12, rfl⟩ | exact ⟨rfl, rfl, slip_2 c_12, rfl⟩ | exact ⟨rfl, rfl, slip_3 c_4, rfl⟩)
    · refine pw_aload_n dX6_slip_15 rfl rfl ?_
      refine pw_iconst (v := 5) dX6_slip_16 (by decide) ?_
      refine pw_putI dX6_slip_17 fd_RX6_33 (by decide) rfl ⟨rfl, rfl, rfl⟩ h ?_
      exact pw_vret dX6_slip_20 rfl (by first | exact ⟨rfl, rfl, slip_1 c_4 c_12, rfl⟩ | exact ⟨rfl, rfl, slip_2 c_12, rfl⟩ | exact ⟨rfl, rfl, slip_3 c_4, rfl⟩)

set_option maxRecDepth 4000 in
theorem sp_T_setUp {σ : pT} {I : pI} {F : pF} {q : Nat} {a b c d e f : Int32} (h : (σ.2.1 q).1 = 6 + 1) : PE yX6_setUp cX6_setUp mX6_setUp [.ref q, .int a, .int b, .int c, .int d, .int e, .int f] σ I F none (up2 (up2 (up2 (up2 (up2 (up2 (up2 (up2 (up2 (up2 (up2 (up2 I q 0 a) q 1 b) q 2 c) q 3 d) q 4 e) q 5 f) q 6 (f + 2 * e + 6)) q 7 0) q 8 (-5)) q 9 0) q 10 0) q 11 0) F := by
  refine PE.of oP_X6_setUp (catOK rfl) (Nat.le_of_ble_eq_true rfl) ?_
  show PW _ _ _ 0 [.ref q, .int a, .int b, .int c, .int d, .int e, .int f] [] _ _ _ _
  refine pw_aload_n dX6_setUp_0 rfl rfl ?_
  refine pw_iload_n dX6_setUp_1 rfl rfl ?_
  refine pw_putI dX6_setUp_2 fd_RX6_9 (by decide) rfl ⟨rfl, rfl, rfl⟩ h ?_
  refine pw_aload_n dX6_setUp_5 rfl rfl ?_
  refine pw_iload_n dX6_setUp_6 rfl rfl ?_
  refine pw_putI dX6_setUp_7 fd_RX6_15 (by decide) rfl ⟨rfl, rfl, rfl⟩ h ?_
  refine pw_aload_n dX6_setUp_10 rfl rfl ?_
  refine pw_iload_n dX6_setUp_11 rfl rfl ?_
  refine pw_putI dX6_setUp_12 fd_RX6_18 (by decide) rfl ⟨rfl, rfl, rfl⟩ h ?_
  refine pw_aload_n dX6_setUp_15 rfl rfl ?_
  refine pw_iload dX6_setUp_16 rfl ?_
  refine pw_putI dX6_setUp_18 fd_RX6_21 (by decide) rfl ⟨rfl, rfl, rfl⟩ h ?_
  refine pw_aload_n dX6_setUp_21 rfl rfl ?_
  refine pw_iload dX6_setUp_22 rfl ?_
  refine pw_putI dX6_setUp_24 fd_RX6_24 (by decide) rfl ⟨rfl, rfl, rfl⟩ h ?_
  refine pw_aload_n dX6_setUp_27 rfl rfl ?_
  refine pw_iload dX6_setUp_28 rfl ?_
  refine pw_putI dX6_setUp_30 fd_RX6_27 (by decide) rfl ⟨rfl, rfl, rfl⟩ h ?_
  refine pw_aload_n dX6_setUp_33 rfl rfl ?_
  refine pw_iload dX6_setUp_34 rfl ?_
  refine pw_iconst (v := 2) dX6_setUp_36 (by decide) ?_
  refine pw_iload dX6_setUp_37 rfl ?_
  refine pw_imul dX6_setUp_39 ?_
  refine pw_iadd dX6_setUp_40 ?_
  refine pw_bipush (v := 6) dX6_setUp_41 (by decide) ?_
  refine pw_iadd dX6_setUp_43 ?_
  refine pw_putI dX6_setUp_44 fd_RX6_30 (by decide) rfl ⟨rfl, rfl, rfl⟩ h ?_
  refine pw_aload_n dX6_setUp_47 rfl rfl ?_
  refine pw_iconst (v := 0) dX6_setUp_48 (by decide) ?_
  refine pw_putI dX6_setUp_49 fd_RX6_33 (by decide) rfl ⟨rfl, rfl, rfl⟩ h ?_
  refine pw_aload_n dX6_setUp_52 rfl rfl ?_
  refine pw_bipush (v := (-5)) dX6_setUp_53 (by decide) ?_
  refine pw_putI dX6_setUp_55 fd_RX6_36 (by decide) rfl ⟨rfl, rfl, rfl⟩ h ?_
  refine pw_aload_n dX6_setUp_58 rfl rfl ?_
  refine pw_iconst (v := 0) dX6_setUp_59 (by decide) ?_
  refine pw_putI dX6_setUp_60 fd_RX6_39 (by decide) rfl ⟨rfl, rfl, rfl⟩ h ?_
  refine pw_aload_n dX6_setUp_63 rfl rfl ?_
  refine pw_iconst (v := 0) dX6_setUp_64 (by decide) ?_
  refine pw_putI dX6_setUp_65 fd_RX6_42 (by decide) rfl ⟨rfl, rfl, rfl⟩ h ?_
  refine pw_aload_n dX6_setUp_68 rfl rfl ?_
  refine pw_iconst (v := 0) dX6_setUp_69 (by decide) ?_
  refine pw_putI dX6_setUp_70 fd_RX6_45 (by decide) rfl ⟨rfl, rfl, rfl⟩ h ?_
  exact pw_vret dX6_setUp_73 rfl ⟨rfl, rfl, rfl, rfl⟩

set_option maxRecDepth 4000 in
theorem sp_T_copy {σ : pT} {I : pI} {F : pF} {q r : Nat} (h : (σ.2.1 q).1 = 6 + 1) (h2 : (σ.2.1 r).1 = 6 + 1) (hqr : q ≠ r) : PE yX6_copyFrom cX6_copyFrom mX6_copyFrom [.ref q, .ref r] σ I F none (up2 (up2 (up2 (up2 (up2 (up2 (up2 (up2 (up2 (up2 (up2 (up2 I q 0 (I r 0)) q 1 (I r 1)) q 2 (I r 2)) q 3 (I r 3)) q 4 (I r 4)) q 5 (I r 5)) q 6 (I r 6)) q 7 (I r 7)) q 8 (I r 8)) q 9 (I r 9)) q 10 (I r 10)) q 11 (I r 11)) F := by
  refine PE.of oP_X6_copyFrom (catOK rfl) (Nat.le_of_ble_eq_true rfl) ?_
  show PW _ _ _ 0 [.ref q, .ref r] [] _ _ _ _
  refine pw_aload_n dX6_copyFrom_0 rfl rfl ?_
  refine pw_aload_n dX6_copyFrom_1 rfl rfl ?_
  refine pw_getI dX6_copyFrom_2 fd_RX6_9 (by decide) h2 rfl ?_
  refine pw_putI dX6_copyFrom_5 fd_RX6_9 (by decide) rfl ⟨rfl, rfl, rfl⟩ h ?_
  refine pw_aload_n dX6_copyFrom_8 rfl rfl ?_
  refine pw_aload_n dX6_copyFrom_9 rfl rfl ?_
  refine pw_getI dX6_copyFrom_10 fd_RX6_15 (by decide) h2 rfl ?_
  refine pw_putI dX6_copyFrom_13 fd_RX6_15 (by decide) rfl ⟨rfl, rfl, rfl⟩ h ?_
  refine pw_aload_n dX6_copyFrom_16 rfl rfl ?_
  refine pw_aload_n dX6_copyFrom_17 rfl rfl ?_
  refine pw_getI dX6_copyFrom_18 fd_RX6_18 (by decide) h2 rfl ?_
  refine pw_putI dX6_copyFrom_21 fd_RX6_18 (by decide) rfl ⟨rfl, rfl, rfl⟩ h ?_
  refine pw_aload_n dX6_copyFrom_24 rfl rfl ?_
  refine pw_aload_n dX6_copyFrom_25 rfl rfl ?_
  refine pw_getI dX6_copyFrom_26 fd_RX6_21 (by decide) h2 rfl ?_
  refine pw_putI dX6_copyFrom_29 fd_RX6_21 (by decide) rfl ⟨rfl, rfl, rfl⟩ h ?_
  refine pw_aload_n dX6_copyFrom_32 rfl rfl ?_
  refine pw_aload_n dX6_copyFrom_33 rfl rfl ?_
  refine pw_getI dX6_copyFrom_34 fd_RX6_24 (by decide) h2 rfl ?_
  refine pw_putI dX6_copyFrom_37 fd_RX6_24 (by decide) rfl ⟨rfl, rfl, rfl⟩ h ?_
  refine pw_aload_n dX6_copyFrom_40 rfl rfl ?_
  refine pw_aload_n dX6_copyFrom_41 rfl rfl ?_
  refine pw_getI dX6_copyFrom_42 fd_RX6_27 (by decide) h2 rfl ?_
  refine pw_putI dX6_copyFrom_45 fd_RX6_27 (by decide) rfl ⟨rfl, rfl, rfl⟩ h ?_
  refine pw_aload_n dX6_copyFrom_48 rfl rfl ?_
  refine pw_aload_n dX6_copyFrom_49 rfl rfl ?_
  refine pw_getI dX6_copyFrom_50 fd_RX6_30 (by decide) h2 rfl ?_
  refine pw_putI dX6_copyFrom_53 fd_RX6_30 (by decide) rfl ⟨rfl, rfl, rfl⟩ h ?_
  refine pw_aload_n dX6_copyFrom_56 rfl rfl ?_
  refine pw_aload_n dX6_copyFrom_57 rfl rfl ?_
  refine pw_getI dX6_copyFrom_58 fd_RX6_33 (by decide) h2 rfl ?_
  refine pw_putI dX6_copyFrom_61 fd_RX6_33 (by decide) rfl ⟨rfl, rfl, rfl⟩ h ?_
  refine pw_aload_n dX6_copyFrom_64 rfl rfl ?_
  refine pw_aload_n dX6_copyFrom_65 rfl rfl ?_
  refine pw_getI dX6_copyFrom_66 fd_RX6_36 (by decide) h2 rfl ?_
  refine pw_putI dX6_copyFrom_69 fd_RX6_36 (by decide) rfl ⟨rfl, rfl, rfl⟩ h ?_
  refine pw_aload_n dX6_copyFrom_72 rfl rfl ?_
  refine pw_aload_n dX6_copyFrom_73 rfl rfl ?_
  refine pw_getI dX6_copyFrom_74 fd_RX6_39 (by decide) h2 rfl ?_
  refine pw_putI dX6_copyFrom_77 fd_RX6_39 (by decide) rfl ⟨rfl, rfl, rfl⟩ h ?_
  refine pw_aload_n dX6_copyFrom_80 rfl rfl ?_
  refine pw_aload_n dX6_copyFrom_81 rfl rfl ?_
  refine pw_getI dX6_copyFrom_82 fd_RX6_42 (by decide) h2 rfl ?_
  refine pw_putI dX6_copyFrom_85 fd_RX6_42 (by decide) rfl ⟨rfl, rfl, rfl⟩ h ?_
  refine pw_aload_n dX6_copyFrom_88 rfl rfl ?_
  refine pw_aload_n dX6_copyFrom_89 rfl rfl ?_
  refine pw_getI dX6_copyFrom_90 fd_RX6_45 (by decide) h2 rfl ?_
  refine pw_putI dX6_copyFrom_93 fd_RX6_45 (by decide) rfl ⟨rfl, rfl, rfl⟩ h ?_
  exact pw_vret dX6_copyFrom_96 rfl ⟨rfl, rfl, by simp [up2, Ne.symm hqr], rfl⟩

