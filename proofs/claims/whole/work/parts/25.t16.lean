/-! a state recorded: which kept state comes to which place -/
def rsrc (s d : Nat) : Nat := if s = 4 then (if d < 3 then d + 1 else if d = 3 then 5 else d) else if d = s then 5 else d
def mRecT (m s : Nat) (I : pI) (F : pF) (I' : pI) (F' : pF) : Prop :=
  (∀ i, i ≠ m → i ≠ m + 4 → I' i = I i) ∧ (∀ j, j ≠ 6 → I' m j = I m j) ∧ I' m 6 = nI (if s = 4 then 4 else s + 1) ∧ (∀ i, i ≠ m + 5 → i ≠ m + 6 → F' i = F i) ∧
  (∀ d j, d < 5 → j < 491 → I' (m + 4) (d * 491 + j) = I (m + 4) (rsrc s d * 491 + j)) ∧
  (∀ d j, d < 5 → j < 8 → F' (m + 5) (8 * d + j) = F (m + 5) (8 * rsrc s d + j)) ∧
  (∀ d j, d < 5 → j < 8 → F' (m + 6) (8 * d + j) = F (m + 6) (8 * rsrc s d + j))
theorem rt_n {m s : Nat} {I I1 : pI} {F F1 : pF} (h : mCopy m 5 s I F I1 F1) (hs : ¬ s = 4) : mRecT m s I F (up2 I1 m 6 (nI (s + 1))) F1 := by
  obtain ⟨⟨h1, h2⟩, h3, h4, h5⟩ := h
  refine ⟨fun i hi hi4 => (up2_row hi).trans (h1 i hi4), fun j hj => (up2_nj hj).trans (congrFun (h1 m (by omega)) j), by rw [up2_s, if_neg hs], h2, fun d j hd hj => ?_, fun d j hd hj => ?_, fun d j hd hj => ?_⟩
  · rw [up2_ni (by omega), h3 d j hj, rsrc, if_neg hs]
    split <;> rfl
  · rw [h4 d j hj, rsrc, if_neg hs]
    split <;> rfl
  · rw [h5 d j hj, rsrc, if_neg hs]
    split <;> rfl
theorem rt_4 {m : Nat} {I I1 I2 I3 I4 : pI} {F F1 F2 F3 F4 : pF} (h1 : mCopy m 1 0 I F I1 F1) (h2 : mCopy m 2 1 I1 F1 I2 F2) (h3 : mCopy m 3 2 I2 F2 I3 F3) (h4 : mCopy m 5 3 (up2 I3 m 6 (nI 3)) F3 I4 F4) : mRecT m 4 I F (up2 I4 m 6 (nI 4)) F4 := by
  obtain ⟨⟨a1, b1⟩, c1, d1, e1⟩ := h1
  obtain ⟨⟨a2, b2⟩, c2, d2, e2⟩ := h2
  obtain ⟨⟨a3, b3⟩, c3, d3, e3⟩ := h3
  obtain ⟨⟨a4, b4⟩, c4, d4, e4⟩ := h4
  refine ⟨fun i hi hi4 => ?_, fun j hj => ?_, by rw [up2_s]; rfl, fun i hi hi6 => ?_, fun d j hd hj => ?_, fun d j hd hj => ?_, fun d j hd hj => ?_⟩
  · rw [up2_row hi, a4 i hi4, up2_row hi, a3 i hi4, a2 i hi4, a1 i hi4]
  · rw [up2_nj hj, a4 m (by omega), up2_nj hj, a3 m (by omega), a2 m (by omega), a1 m (by omega)]
  · rw [b4 i hi hi6, b3 i hi hi6, b2 i hi hi6, b1 i hi hi6]
  · have e : ∀ i k, up2 I3 m 6 (nI 3) (m + 4) (i * 491 + k) = I3 (m + 4) (i * 491 + k) := fun i k => up2_ni (by omega)
    rw [up2_ni (by omega), c4 d j hj, e, e]
    rcases (show d = 0 ∨ d = 1 ∨ d = 2 ∨ d = 3 ∨ d = 4 by omega) with rfl | rfl | rfl | rfl | rfl <;> simp only [c3 _ j hj, c2 _ j hj, c1 _ j hj, rsrc, reduceIte, Nat.reduceEqDiff, Nat.reduceLT, Nat.reduceAdd]
  · rw [d4 d j hj]
    rcases (show d = 0 ∨ d = 1 ∨ d = 2 ∨ d = 3 ∨ d = 4 by omega) with rfl | rfl | rfl | rfl | rfl <;> simp only [d3 _ j hj, d2 _ j hj, d1 _ j hj, rsrc, reduceIte, Nat.reduceEqDiff, Nat.reduceLT, Nat.reduceAdd]
  · rw [e4 d j hj]
    rcases (show d = 0 ∨ d = 1 ∨ d = 2 ∨ d = 3 ∨ d = 4 by omega) with rfl | rfl | rfl | rfl | rfl <;> simp only [e3 _ j hj, e2 _ j hj, e1 _ j hj, rsrc, reduceIte, Nat.reduceEqDiff, Nat.reduceLT, Nat.reduceAdd]

set_option maxRecDepth 4000 in
theorem sp_recordsTrial {σ : pT} {I : pI} {F : pF} {m s : Nat} (h : isMo σ m) (hs : I m 6 = nI s) (hs4 : s ≤ 4)  : PR yX8_recordsTrial cX8_recordsTrial mX8_recordsTrial [.ref m] σ I F fun v I' F' => v = none ∧ mRecT m s I F I' F' := by
  refine PR.of oP_X8_recordsTrial (catOK rfl) (Nat.le_of_ble_eq_true rfl) ?_
  show PW _ _ _ 0 [.ref m, pJ] [] _ _ _ _
  refine pw_aload_n dX8_recordsTrial_0 rfl rfl ?_
  refine pw_getI dX8_recordsTrial_1 fd_RX8_36 (by decide) (mo_k h) rfl ?_
  rw [hs]
  refine pw_iconst (v := 4) dX8_recordsTrial_4 (by decide) ?_
  refine pw_icmp_ne (tgt := 39) dX8_recordsTrial_5 (by decide) (fun c_5 => ?_) (fun c_5 => ?_)
  · have hs9 : ¬ s = 4 := fun z => c_5 (by rw [z]; rfl)
    refine pw_aload_n dX8_recordsTrial_39 rfl rfl ?_
    refine pw_iconst (v := 5) dX8_recordsTrial_40 (by decide) ?_
    refine pw_aload_n dX8_recordsTrial_41 rfl rfl ?_
    refine pw_getI dX8_recordsTrial_42 fd_RX8_36 (by decide) (mo_k h) rfl ?_
    rw [hs]
    refine pr_callV dX8_recordsTrial_45 oX_X8_copies lk_RX8_40 (sp_copies (a := 5) (c := s) h (by omega) (by omega) (by omega)) (mo_k h) rfl rfl (Nat.le_of_ble_eq_true rfl) (by decide) (fun v I1 F1 hq => ?_)
    obtain ⟨rfl, hq1⟩ := hq
    refine pw_aload_n dX8_recordsTrial_48 rfl rfl ?_
    refine pw_dup dX8_recordsTrial_49 rfl ?_
    refine pw_getI dX8_recordsTrial_50 fd_RX8_36 (by decide) (mo_k h) rfl ?_
    rw [show I1 m 6 = nI s from (congrFun (hq1.1.1 m (by omega)) 6).trans hs]
    refine pw_iconst (v := 1) dX8_recordsTrial_53 (by decide) ?_
    refine pw_iadd dX8_recordsTrial_54 ?_
    rw [show (nI s + 1 : Int32) = nI (s + 1) from nI_add _ _]
    refine pw_putI dX8_recordsTrial_55 fd_RX8_36 (by decide) rfl ⟨rfl, rfl, rfl⟩ (mo_k h) ?_
    exact pw_vret dX8_recordsTrial_58 rfl ⟨rfl, rfl, rt_n hq1 hs9⟩
  · obtain rfl : s = 4 := (nI_eq (b := 4) (by omega) (by decide)).mp c_5
    refine pw_iconst (v := 1) dX8_recordsTrial_8 (by decide) ?_
    refine pw_istore_n dX8_recordsTrial_9 rfl (by decide) rfl ?_
    refine pw_iload_n dX8_recordsTrial_10 rfl rfl ?_
    refine pw_iconst (v := 4) dX8_recordsTrial_11 (by decide) ?_
    refine pw_icmp_ge (tgt := 29) dX8_recordsTrial_12 (by decide) (fun c_12 => absurd c_12 (by decide)) (fun c_12 => ?_)
    refine pw_aload_n dX8_recordsTrial_15 rfl rfl ?_
    refine pw_iload_n dX8_recordsTrial_16 rfl rfl ?_
    refine pw_iload_n dX8_recordsTrial_17 rfl rfl ?_
    refine pw_iconst (v := 1) dX8_recordsTrial_18 (by decide) ?_
    refine pw_isub dX8_recordsTrial_19 ?_
    rw [show (1 - 1 : Int32) = 0 from by decide]
    refine pr_callV dX8_recordsTrial_20 oX_X8_copies lk_RX8_40 (sp_copies (a := 1) (c := 0) h (by omega) (by omega) (by omega)) (mo_k h) rfl rfl (Nat.le_of_ble_eq_true rfl) (by decide) (fun v1 I1 F1 hq => ?_)
    obtain ⟨rfl, hq1⟩ := hq
    refine pw_iinc (v := 2) dX8_recordsTrial_23 rfl (by decide) rfl ?_
    refine pw_goto (tgt := 10) dX8_recordsTrial_26 (by decide) ?_
    refine pw_iload_n dX8_recordsTrial_10 rfl rfl ?_
    refine pw_iconst (v := 4) dX8_recordsTrial_11 (by decide) ?_
    refine pw_icmp_ge (tgt := 29) dX8_recordsTrial_12 (by decide) (fun c_12 => absurd c_12 (by decide)) (fun c_12 => ?_)
    refine pw_aload_n dX8_recordsTrial_15 rfl rfl ?_
    refine pw_iload_n dX8_recordsTrial_16 rfl rfl ?_
    refine pw_iload_n dX8_recordsTrial_17 rfl rfl ?_
    refine pw_iconst (v := 1) dX8_recordsTrial_18 (by decide) ?_
    refine pw_isub dX8_recordsTrial_19 ?_
    rw [show (2 - 1 : Int32) = 1 from by decide]
    refine pr_callV dX8_recordsTrial_20 oX_X8_copies lk_RX8_40 (sp_copies (a := 2) (c := 1) h (by omega) (by omega) (by omega)) (mo_k h) rfl rfl (Nat.le_of_ble_eq_true rfl) (by decide) (fun v2 I2 F2 hq => ?_)
    obtain ⟨rfl, hq2⟩ := hq
    refine pw_iinc (v := 3) dX8_recordsTrial_23 rfl (by decide) rfl ?_
    refine pw_goto (tgt := 10) dX8_recordsTrial_26 (by decide) ?_
    refine pw_iload_n dX8_recordsTrial_10 rfl rfl ?_
    refine pw_iconst (v := 4) dX8_recordsTrial_11 (by decide) ?_
    refine pw_icmp_ge (tgt := 29) dX8_recordsTrial_12 (by decide) (fun c_12 => absurd c_12 (by decide)) (fun c_12 => ?_)
    refine pw_aload_n dX8_recordsTrial_15 rfl rfl ?_
    refine pw_iload_n dX8_recordsTrial_16 rfl rfl ?_
    refine pw_iload_n dX8_recordsTrial_17 rfl rfl ?_
    refine pw_iconst (v := 1) dX8_recordsTrial_18 (by decide) ?_
    refine pw_isub dX8_recordsTrial_19 ?_
    rw [show (3 - 1 : Int32) = 2 from by decide]
    refine pr_callV dX8_recordsTrial_20 oX_X8_copies lk_RX8_40 (sp_copies (a := 3) (c := 2) h (by omega) (by omega) (by omega)) (mo_k h) rfl rfl (Nat.le_of_ble_eq_true rfl) (by decide) (fun v3 I3 F3 hq => ?_)
    obtain ⟨rfl, hq3⟩ := hq
    refine pw_iinc (v := 4) dX8_recordsTrial_23 rfl (by decide) rfl ?_
    refine pw_goto (tgt := 10) dX8_recordsTrial_26 (by decide) ?_
    refine pw_iload_n dX8_recordsTrial_10 rfl rfl ?_
    refine pw_iconst (v := 4) dX8_recordsTrial_11 (by decide) ?_
    refine pw_icmp_ge (tgt := 29) dX8_recordsTrial_12 (by decide) (fun c_12 => ?_) (fun c_12 => absurd (by decide) c_12)
    refine pw_aload_n dX8_recordsTrial_29 rfl rfl ?_
    refine pw_dup dX8_recordsTrial_30 rfl ?_
    refine pw_getI dX8_recordsTrial_31 fd_RX8_36 (by decide) (mo_k h) rfl ?_
    rw [show I3 m 6 = 4 from (congrFun (hq3.1.1 m (by omega)) 6).trans ((congrFun (hq2.1.1 m (by omega)) 6).trans ((congrFun (hq1.1.1 m (by omega)) 6).trans (hs.trans (show nI 4 = 4 by decide))))]
    refine pw_iconst (v := 1) dX8_recordsTrial_34 (by decide) ?_
    refine pw_isub dX8_recordsTrial_35 ?_
    rw [show (4 - 1 : Int32) = 3 from by decide]
    refine pw_putI dX8_recordsTrial_36 fd_RX8_36 (by decide) rfl ⟨rfl, rfl, rfl⟩ (mo_k h) ?_
    refine pw_aload_n dX8_recordsTrial_39 rfl rfl ?_
    refine pw_iconst (v := 5) dX8_recordsTrial_40 (by decide) ?_
    refine pw_aload_n dX8_recordsTrial_41 rfl rfl ?_
    refine pw_getI dX8_recordsTrial_42 fd_RX8_36 (by decide) (mo_k h) rfl ?_
    rw [up2_s]
    refine pr_callV dX8_recordsTrial_45 oX_X8_copies lk_RX8_40 (sp_copies (a := 5) (c := 3) h (by omega) (by omega) (by omega)) (mo_k h) rfl rfl (Nat.le_of_ble_eq_true rfl) (by decide) (fun v I4 F4 hq => ?_)
    obtain ⟨rfl, hq4⟩ := hq
    refine pw_aload_n dX8_recordsTrial_48 rfl rfl ?_
    refine pw_dup dX8_recordsTrial_49 rfl ?_
    refine pw_getI dX8_recordsTrial_50 fd_RX8_36 (by decide) (mo_k h) rfl ?_
    rw [show I4 m 6 = 3 from (congrFun (hq4.1.1 m (by omega)) 6).trans up2_s]
    refine pw_iconst (v := 1) dX8_recordsTrial_53 (by decide) ?_
    refine pw_iadd dX8_recordsTrial_54 ?_
    rw [show (3 + 1 : Int32) = 4 from by decide]
    refine pw_putI dX8_recordsTrial_55 fd_RX8_36 (by decide) rfl ⟨rfl, rfl, rfl⟩ (mo_k h) ?_
    exact pw_vret dX8_recordsTrial_58 rfl ⟨rfl, rfl, rt_4 hq1 hq2 hq3 hq4⟩

/-- the present state recorded -/
def mRec (m s : Nat) (I : pI) (F : pF) (I' : pI) (F' : pF) : Prop :=
  (∀ i, i ≠ m → i ≠ m + 4 → I' i = I i) ∧ (∀ j, j ≠ 6 → I' m j = I m j) ∧ I' m 6 = nI (if s = 4 then 4 else s + 1) ∧ (∀ i, i ≠ m + 5 → i ≠ m + 6 → F' i = F i) ∧
  (∀ d j, d < 5 → j < 491 → I' (m + 4) (d * 491 + j) = if rsrc s d = 5 then I (m + 1) j else I (m + 4) (rsrc s d * 491 + j)) ∧
  (∀ d j, d < 5 → j < 8 → F' (m + 5) (8 * d + j) = if rsrc s d = 5 then F (m + 2) j else F (m + 5) (8 * rsrc s d + j)) ∧
  (∀ d j, d < 5 → j < 8 → F' (m + 6) (8 * d + j) = if rsrc s d = 5 then F (m + 3) j else F (m + 6) (8 * rsrc s d + j))
theorem mRec_of {m s : Nat} {I I1 I2 : pI} {F F1 F2 : pF} (h : mKeep m 5 I F I1 F1) (h2 : mRecT m s I1 F1 I2 F2) : mRec m s I F I2 F2 := by
  obtain ⟨⟨a1, b1⟩, c1, d1, e1⟩ := h
  obtain ⟨a2, b2, c2, d2, e2, f2, g2⟩ := h2
  refine ⟨fun i hi hi4 => (a2 i hi hi4).trans (a1 i hi4), fun j hj => (b2 j hj).trans (congrFun (a1 m (by omega)) j), c2, fun i hi hi6 => (d2 i hi hi6).trans (b1 i hi hi6), fun d j hd hj => ?_, fun d j hd hj => ?_, fun d j hd hj => ?_⟩
  · rw [e2 d j hd hj, c1 _ j hj]
  · rw [f2 d j hd hj, d1 _ j hj]
  · rw [g2 d j hd hj, e1 _ j hj]

set_option maxRecDepth 4000 in
theorem sp_records {σ : pT} {I : pI} {F : pF} {m s : Nat} (h : isMo σ m) (hs : I m 6 = nI s) (hs4 : s ≤ 4)  : PR yX8_records cX8_records mX8_records [.ref m] σ I F fun v I' F' => v = none ∧ mRec m s I F I' F' := by
  refine PR.of oP_X8_records (catOK rfl) (Nat.le_of_ble_eq_true rfl) ?_
  show PW _ _ _ 0 [.ref m] [] _ _ _ _
  refine pw_aload_n dX8_records_0 rfl rfl ?_
  refine pw_iconst (v := 5) dX8_records_1 (by decide) ?_
  refine pr_callV dX8_records_2 oX_X8_keeps lk_RX8_44 (sp_keeps (c := 5) h (by omega)) (mo_k h) rfl rfl (Nat.le_of_ble_eq_true rfl) (by decide) (fun v I1 F1 hq => ?_)
  obtain ⟨rfl, hq1⟩ := hq
  refine pw_aload_n dX8_records_5 rfl rfl ?_
  refine pr_callV dX8_records_6 oX_X8_recordsTrial lk_RX8_48 (sp_recordsTrial h ((congrFun (hq1.1.1 m (by omega)) 6).trans hs) hs4) (mo_k h) rfl rfl (Nat.le_of_ble_eq_true rfl) (by decide) (fun v I2 F2 hq => ?_)
  obtain ⟨rfl, hq2⟩ := hq
  exact pw_vret dX8_records_9 rfl ⟨rfl, rfl, mRec_of hq1 hq2⟩

set_option maxRecDepth 4000 in
theorem sp_m_undo {σ : pT} {I : pI} {F : pF} {m s : Nat} (h : isMo σ m) (hs : I m 6 = nI s) (hs4 : s ≤ 4)  : PR yX8_undo cX8_undo mX8_undo [.ref m] σ I F fun v I' F' => (s = 0 ∧ v = some (.int (-5)) ∧ I' = I ∧ F' = F) ∨ (0 < s ∧ v = some (.int (nI (s - 1))) ∧ mBring m (s - 1) (up2 I m 6 (nI (s - 1))) F I' F') := by
  refine PR.of oP_X8_undo (catOK rfl) (Nat.le_of_ble_eq_true rfl) ?_
  show PW _ _ _ 0 [.ref m] [] _ _ _ _
  refine pw_aload_n dX8_undo_0 rfl rfl ?_
  refine pw_getI dX8_undo_1 fd_RX8_36 (by decide) (mo_k h) rfl ?_
  rw [hs]
  refine pw_if_ne (tgt := 10) dX8_undo_4 (by decide) (fun c_4 => ?_) (fun c_4 => ?_)
  · have h0 : 0 < s := Nat.pos_of_ne_zero (fun z => c_4 (by rw [z]; rfl))
    refine pw_aload_n dX8_undo_10 rfl rfl ?_
    refine pw_dup dX8_undo_11 rfl ?_
    refine pw_getI dX8_undo_12 fd_RX8_36 (by decide) (mo_k h) rfl ?_
    rw [hs]
    refine pw_iconst (v := 1) dX8_undo_15 (by decide) ?_
    refine pw_isub dX8_undo_16 ?_
    rw [show (nI s - 1 : Int32) = nI (s - 1) from pk_sub (a := s) (b := 1) (by omega)]
    refine pw_putI dX8_undo_17 fd_RX8_36 (by decide) rfl ⟨rfl, rfl, rfl⟩ (mo_k h) ?_
    refine pw_aload_n dX8_undo_20 rfl rfl ?_
    refine pw_aload_n dX8_undo_21 rfl rfl ?_
    refine pw_getI dX8_undo_22 fd_RX8_36 (by decide) (mo_k h) rfl ?_
    rw [up2_s]
    refine pr_callV dX8_undo_25 oX_X8_brings lk_RX8_51 (sp_brings (c := s - 1) h (by omega)) (mo_k h) rfl rfl (Nat.le_of_ble_eq_true rfl) (by decide) (fun v I1 F1 hq => ?_)
    obtain ⟨rfl, hq1⟩ := hq
    refine pw_aload_n dX8_undo_28 rfl rfl ?_
    refine pw_getI dX8_undo_29 fd_RX8_36 (by decide) (mo_k h) rfl ?_
    rw [show I1 m 6 = nI (s - 1) from (congrFun (hq1.1 m (by omega)) 6).trans up2_s]
    exact pw_iret dX8_undo_32 rfl ⟨rfl, Or.inr ⟨h0, rfl, hq1⟩⟩
  · have h0 : s = 0 := (nI_eq (b := 0) (by omega) (by decide)).mp c_4
    refine pw_bipush (v := (-5)) dX8_undo_7 (by decide) ?_
    exact pw_iret dX8_undo_9 rfl ⟨rfl, Or.inl ⟨h0, rfl, rfl, rfl⟩⟩

set_option maxRecDepth 4000 in
theorem sp_m_keep {σ : pT} {I : pI} {F : pF} {m : Nat} (h : isMo σ m)  : PR yX8_keep cX8_keep mX8_keep [.ref m] σ I F fun v I' F' => v = some (.int (I (m + 1) 0)) ∧ ∃ I1, mKeep m 4 I F I1 F' ∧ I' = up2 I1 m 7 1 := by
  refine PR.of oP_X8_keep (catOK rfl) (Nat.le_of_ble_eq_true rfl) ?_
  show PW _ _ _ 0 [.ref m] [] _ _ _ _
  refine pw_aload_n dX8_keep_0 rfl rfl ?_
  refine pw_iconst (v := 4) dX8_keep_1 (by decide) ?_
  refine pr_callV dX8_keep_2 oX_X8_keeps lk_RX8_44 (sp_keeps (c := 4) h (by omega)) (mo_k h) rfl rfl (Nat.le_of_ble_eq_true rfl) (by decide) (fun v I1 F1 hq => ?_)
  obtain ⟨rfl, hq1⟩ := hq
  refine pw_aload_n dX8_keep_5 rfl rfl ?_
  refine pw_iconst (v := 1) dX8_keep_6 (by decide) ?_
  refine pw_putI dX8_keep_7 fd_RX8_54 (by decide) rfl ⟨by decide, by decide, rfl⟩ (mo_k h) ?_
  refine pw_aload_n dX8_keep_10 rfl rfl ?_
  refine pw_getR (x := (m + 1)) dX8_keep_11 fd_RX8_7 (by decide) (mo_k h) rfl (mo_r1 h) ?_
  refine pw_iconst (v := 0) dX8_keep_14 (by decide) ?_
  refine pw_ialdN (j := 0) dX8_keep_15 (mo_k1 h) (by omega) (by decide) ?_
  rw [up2_ni (by omega), congrFun (hq1.1.1 (m + 1) (by omega)) 0]
  exact pw_iret dX8_keep_16 rfl ⟨rfl, rfl, I1, hq1, rfl⟩

set_option maxRecDepth 4000 in
theorem sp_m_restore {σ : pT} {I : pI} {F : pF} {m s : Nat} (h : isMo σ m) (hs : I m 6 = nI s) (hs4 : s ≤ 4)  : PR yX8_restore cX8_restore mX8_restore [.ref m] σ I F fun v I' F' => (I m 7 = 0 ∧ v = some (.int (-5)) ∧ I' = I ∧ F' = F) ∨ (¬ I m 7 = 0 ∧ v = some (.int (I' (m + 1) 0)) ∧ ∃ I1 F1, mRec m s I F I1 F1 ∧ mBring m 4 I1 F1 I' F') := by
  refine PR.of oP_X8_restore (catOK rfl) (Nat.le_of_ble_eq_true rfl) ?_
  show PW _ _ _ 0 [.ref m] [] _ _ _ _
  refine pw_aload_n dX8_restore_0 rfl rfl ?_
  refine pw_getI dX8_restore_1 fd_RX8_54 (by decide) (mo_k h) rfl ?_
  refine pw_if_ne (tgt := 10) dX8_restore_4 (by decide) (fun c_4 => ?_) (fun c_4 => ?_)
  · refine pw_aload_n dX8_restore_10 rfl rfl ?_
    refine pr_callV dX8_restore_11 oX_X8_records lk_RX8_58 (sp_records h hs hs4) (mo_k h) rfl rfl (Nat.le_of_ble_eq_true rfl) (by decide) (fun v I1 F1 hq => ?_)
    obtain ⟨rfl, hq1⟩ := hq
    refine pw_aload_n dX8_restore_14 rfl rfl ?_
    refine pw_iconst (v := 4) dX8_restore_15 (by decide) ?_
    refine pr_callV dX8_restore_16 oX_X8_brings lk_RX8_51 (sp_brings (c := 4) h (by omega)) (mo_k h) rfl rfl (Nat.le_of_ble_eq_true rfl) (by decide) (fun v I2 F2 hq => ?_)
    obtain ⟨rfl, hq2⟩ := hq
    refine pw_aload_n dX8_restore_19 rfl rfl ?_
    refine pw_getR (x := (m + 1)) dX8_restore_20 fd_RX8_7 (by decide) (mo_k h) rfl (mo_r1 h) ?_
    refine pw_iconst (v := 0) dX8_restore_23 (by decide) ?_
    refine pw_ialdN (j := 0) dX8_restore_24 (mo_k1 h) (by omega) (by decide) ?_
    exact pw_iret dX8_restore_25 rfl ⟨rfl, Or.inr ⟨c_4, rfl, I1, F1, hq1, hq2⟩⟩
  · refine pw_bipush (v := (-5)) dX8_restore_7 (by decide) ?_
    exact pw_iret dX8_restore_9 rfl ⟨rfl, Or.inl ⟨c_4, rfl, rfl, rfl⟩⟩
