/-! THE MODEL: its numbers by place in the row now (m + 1) -/
theorem le_pred {a x : Int32} {n : Nat} (hx : x = nI n) (hn : n < 2 ^ 30) : decide (0 ≤ a ∧ a ≤ x - 1) = decide (0 ≤ a ∧ a < x) := by
  have h1 : (a ≤ x - 1) ↔ a < x := by
    have h2 : (x - 1).toInt = (n : Int) - 1 := by
      rw [hx]
      exact pk_sub_toInt (a := n) (b := 1) hn (by decide)
    rw [Int32.le_iff_toInt_le, Int32.lt_iff_toInt_lt, h2, hx, nI_toInt (by omega)]
    omega
  exact decide_eq_decide.mpr (by rw [h1])

set_option maxRecDepth 4000 in
theorem sp_isIn {σ : pT} {I : pI} {F : pF} {v a b : Int32} : PE yX8_isIn cX8_isIn mX8_isIn [.int v, .int a, .int b] σ I F (some (.int (bI (decide (a ≤ v ∧ v ≤ b))))) I F := by
  refine PE.of oP_X8_isIn (catOK rfl) (Nat.le_of_ble_eq_true rfl) ?_
  show PW _ _ _ 0 [.int v, .int a, .int b] [] _ _ _ _
  refine pw_iload_n dX8_isIn_0 rfl rfl ?_
  refine pw_iload_n dX8_isIn_1 rfl rfl ?_
  refine pw_icmp_lt (tgt := 14) dX8_isIn_2 (by decide) (fun c_2 => ?_) (fun c_2 => ?_)
  · refine pw_iconst (v := 0) dX8_isIn_14 (by decide) ?_
    exact pw_zret dX8_isIn_15 rfl (by first | rfl | decide) (by first | exact ⟨ret_t ⟨i_le c_2, i_le c_7⟩, rfl, rfl, rfl⟩ | exact ⟨ret_f (fun z => i_nlt c_2 z.1), rfl, rfl, rfl⟩ | exact ⟨ret_f (fun z => i_nlt c_7 z.2), rfl, rfl, rfl⟩)
  · refine pw_iload_n dX8_isIn_5 rfl rfl ?_
    refine pw_iload_n dX8_isIn_6 rfl rfl ?_
    refine pw_icmp_gt (tgt := 14) dX8_isIn_7 (by decide) (fun c_7 => ?_) (fun c_7 => ?_)
    · refine pw_iconst (v := 0) dX8_isIn_14 (by decide) ?_
      exact pw_zret dX8_isIn_15 rfl (by first | rfl | decide) (by first | exact ⟨ret_t ⟨i_le c_2, i_le c_7⟩, rfl, rfl, rfl⟩ | exact ⟨ret_f (fun z => i_nlt c_2 z.1), rfl, rfl, rfl⟩ | exact ⟨ret_f (fun z => i_nlt c_7 z.2), rfl, rfl, rfl⟩)
    · refine pw_iconst (v := 1) dX8_isIn_10 (by decide) ?_
      refine pw_goto (tgt := 15) dX8_isIn_11 (by decide) ?_
      exact pw_zret dX8_isIn_15 rfl (by first | rfl | decide) (by first | exact ⟨ret_t ⟨i_le c_2, i_le c_7⟩, rfl, rfl, rfl⟩ | exact ⟨ret_f (fun z => i_nlt c_2 z.1), rfl, rfl, rfl⟩ | exact ⟨ret_f (fun z => i_nlt c_7 z.2), rfl, rfl, rfl⟩)

set_option maxRecDepth 4000 in
theorem sp_of {σ : pT} {I : pI} {F : pF} {m a w : Nat} (h : isMo σ m) (ha : a < 8) (hw : w < 5) : PE yX8_of cX8_of mX8_of [.ref m, .int (nI a), .int (nI w)] σ I F (some (.int (I (m + 1) (4 + 5 * a + w)))) I F := by
  refine PE.of oP_X8_of (catOK rfl) (Nat.le_of_ble_eq_true rfl) ?_
  show PW _ _ _ 0 [.ref m, .int (nI a), .int (nI w)] [] _ _ _ _
  refine pw_aload_n dX8_of_0 rfl rfl ?_
  refine pw_getR (x := (m + 1)) dX8_of_1 fd_RX8_7 (by decide) (mo_k h) rfl (mo_r1 h) ?_
  refine pw_iconst (v := 4) dX8_of_4 (by decide) ?_
  refine pw_iconst (v := 5) dX8_of_5 (by decide) ?_
  refine pw_iload_n dX8_of_6 rfl rfl ?_
  refine pw_imul dX8_of_7 ?_
  rw [show (5 * nI a : Int32) = nI (5 * a) from pk_mul _ _]
  refine pw_iadd dX8_of_8 ?_
  rw [show (4 + nI (5 * a) : Int32) = nI (4 + (5 * a)) from nI_add _ _]
  refine pw_iload_n dX8_of_9 rfl rfl ?_
  refine pw_iadd dX8_of_10 ?_
  rw [show (nI (4 + (5 * a)) + nI w : Int32) = nI ((4 + (5 * a)) + w) from nI_add _ _]
  refine pw_ialdN (j := ((4 + (5 * a)) + w)) dX8_of_11 (mo_k1 h) (by omega) (by decide) ?_
  exact pw_iret dX8_of_12 rfl ⟨rfl, rfl, rfl, rfl⟩

set_option maxRecDepth 4000 in
theorem sp_sets {σ : pT} {I : pI} {F : pF} {m a w : Nat} {v : Int32} (h : isMo σ m) (ha : a < 8) (hw : w < 5) : PE yX8_sets cX8_sets mX8_sets [.ref m, .int (nI a), .int (nI w), .int v] σ I F none (up2 I (m + 1) (4 + 5 * a + w) v) F := by
  refine PE.of oP_X8_sets (catOK rfl) (Nat.le_of_ble_eq_true rfl) ?_
  show PW _ _ _ 0 [.ref m, .int (nI a), .int (nI w), .int v] [] _ _ _ _
  refine pw_aload_n dX8_sets_0 rfl rfl ?_
  refine pw_getR (x := (m + 1)) dX8_sets_1 fd_RX8_7 (by decide) (mo_k h) rfl (mo_r1 h) ?_
  refine pw_iconst (v := 4) dX8_sets_4 (by decide) ?_
  refine pw_iconst (v := 5) dX8_sets_5 (by decide) ?_
  refine pw_iload_n dX8_sets_6 rfl rfl ?_
  refine pw_imul dX8_sets_7 ?_
  rw [show (5 * nI a : Int32) = nI (5 * a) from pk_mul _ _]
  refine pw_iadd dX8_sets_8 ?_
  rw [show (4 + nI (5 * a) : Int32) = nI (4 + (5 * a)) from nI_add _ _]
  refine pw_iload_n dX8_sets_9 rfl rfl ?_
  refine pw_iadd dX8_sets_10 ?_
  rw [show (nI (4 + (5 * a)) + nI w : Int32) = nI ((4 + (5 * a)) + w) from nI_add _ _]
  refine pw_iload_n dX8_sets_11 rfl rfl ?_
  refine pw_iastN (j := ((4 + (5 * a)) + w)) dX8_sets_12 (mo_k1 h) (by omega) (by decide) ?_
  exact pw_vret dX8_sets_13 rfl ⟨rfl, rfl, rfl, rfl⟩

set_option maxRecDepth 4000 in
theorem sp_ofTask {σ : pT} {I : pI} {F : pF} {m a w : Nat} (h : isMo σ m) (ha : a < 24) (hw : w < 10) : PE yX8_ofTask cX8_ofTask mX8_ofTask [.ref m, .int (nI a), .int (nI w)] σ I F (some (.int (I (m + 1) (251 + 10 * a + w)))) I F := by
  refine PE.of oP_X8_ofTask (catOK rfl) (Nat.le_of_ble_eq_true rfl) ?_
  show PW _ _ _ 0 [.ref m, .int (nI a), .int (nI w)] [] _ _ _ _
  refine pw_aload_n dX8_ofTask_0 rfl rfl ?_
  refine pw_getR (x := (m + 1)) dX8_ofTask_1 fd_RX8_7 (by decide) (mo_k h) rfl (mo_r1 h) ?_
  refine pw_sipush (v := 251) dX8_ofTask_4 (by decide) ?_
  refine pw_bipush (v := 10) dX8_ofTask_7 (by decide) ?_
  refine pw_iload_n dX8_ofTask_9 rfl rfl ?_
  refine pw_imul dX8_ofTask_10 ?_
  rw [show (10 * nI a : Int32) = nI (10 * a) from pk_mul _ _]
  refine pw_iadd dX8_ofTask_11 ?_
  rw [show (251 + nI (10 * a) : Int32) = nI (251 + (10 * a)) from nI_add _ _]
  refine pw_iload_n dX8_ofTask_12 rfl rfl ?_
  refine pw_iadd dX8_ofTask_13 ?_
  rw [show (nI (251 + (10 * a)) + nI w : Int32) = nI ((251 + (10 * a)) + w) from nI_add _ _]
  refine pw_ialdN (j := ((251 + (10 * a)) + w)) dX8_ofTask_14 (mo_k1 h) (by omega) (by decide) ?_
  exact pw_iret dX8_ofTask_15 rfl ⟨rfl, rfl, rfl, rfl⟩

set_option maxRecDepth 4000 in
theorem sp_setsTask {σ : pT} {I : pI} {F : pF} {m a w : Nat} {v : Int32} (h : isMo σ m) (ha : a < 24) (hw : w < 10) : PE yX8_setsTask cX8_setsTask mX8_setsTask [.ref m, .int (nI a), .int (nI w), .int v] σ I F none (up2 I (m + 1) (251 + 10 * a + w) v) F := by
  refine PE.of oP_X8_setsTask (catOK rfl) (Nat.le_of_ble_eq_true rfl) ?_
  show PW _ _ _ 0 [.ref m, .int (nI a), .int (nI w), .int v] [] _ _ _ _
  refine pw_aload_n dX8_setsTask_0 rfl rfl ?_
  refine pw_getR (x := (m + 1)) dX8_setsTask_1 fd_RX8_7 (by decide) (mo_k h) rfl (mo_r1 h) ?_
  refine pw_sipush (v := 251) dX8_setsTask_4 (by decide) ?_
  refine pw_bipush (v := 10) dX8_setsTask_7 (by decide) ?_
  refine pw_iload_n dX8_setsTask_9 rfl rfl ?_
  refine pw_imul dX8_setsTask_10 ?_
  rw [show (10 * nI a : Int32) = nI (10 * a) from pk_mul _ _]
  refine pw_iadd dX8_setsTask_11 ?_
  rw [show (251 + nI (10 * a) : Int32) = nI (251 + (10 * a)) from nI_add _ _]
  refine pw_iload_n dX8_setsTask_12 rfl rfl ?_
  refine pw_iadd dX8_setsTask_13 ?_
  rw [show (nI (251 + (10 * a)) + nI w : Int32) = nI ((251 + (10 * a)) + w) from nI_add _ _]
  refine pw_iload_n dX8_setsTask_14 rfl rfl ?_
  refine pw_iastN (j := ((251 + (10 * a)) + w)) dX8_setsTask_15 (mo_k1 h) (by omega) (by decide) ?_
  exact pw_vret dX8_setsTask_16 rfl ⟨rfl, rfl, rfl, rfl⟩

set_option maxRecDepth 4000 in
theorem sp_isAsset {σ : pT} {I : pI} {F : pF} {m nA : Nat} {a : Int32} (h : isMo σ m) (hA : I (m + 1) 1 = nI nA) (hA8 : nA ≤ 8)  : PE yX8_isAsset cX8_isAsset mX8_isAsset [.ref m, .int a] σ I F (some (.int (bI (decide (0 ≤ a ∧ a < I (m + 1) 1))))) I F := by
  refine PE.of oP_X8_isAsset (catOK rfl) (Nat.le_of_ble_eq_true rfl) ?_
  show PW _ _ _ 0 [.ref m, .int a] [] _ _ _ _
  refine pw_iload_n dX8_isAsset_0 rfl rfl ?_
  refine pw_iconst (v := 0) dX8_isAsset_1 (by decide) ?_
  refine pw_aload_n dX8_isAsset_2 rfl rfl ?_
  refine pw_getR (x := (m + 1)) dX8_isAsset_3 fd_RX8_7 (by decide) (mo_k h) rfl (mo_r1 h) ?_
  refine pw_iconst (v := 1) dX8_isAsset_6 (by decide) ?_
  refine pw_ialdN (j := 1) dX8_isAsset_7 (mo_k1 h) (by omega) (by decide) ?_
  refine pw_iconst (v := 1) dX8_isAsset_8 (by decide) ?_
  refine pw_isub dX8_isAsset_9 ?_
  refine pe_callSi dX8_isAsset_10 oX_X8_isIn lk_RX8_32 sp_isIn rfl rfl (Nat.le_of_ble_eq_true rfl) (by decide) ?_
  rw [le_pred hA (by omega)]
  exact pw_bret dX8_isAsset_13 rfl ⟨rfl, rfl, rfl, rfl⟩

set_option maxRecDepth 4000 in
theorem sp_isCrew {σ : pT} {I : pI} {F : pF} {m nC : Nat} {a : Int32} (h : isMo σ m) (hC : I (m + 1) 2 = nI nC) (hC5 : nC ≤ 5)  : PE yX8_isCrew cX8_isCrew mX8_isCrew [.ref m, .int a] σ I F (some (.int (bI (decide (0 ≤ a ∧ a < I (m + 1) 2))))) I F := by
  refine PE.of oP_X8_isCrew (catOK rfl) (Nat.le_of_ble_eq_true rfl) ?_
  show PW _ _ _ 0 [.ref m, .int a] [] _ _ _ _
  refine pw_iload_n dX8_isCrew_0 rfl rfl ?_
  refine pw_iconst (v := 0) dX8_isCrew_1 (by decide) ?_
  refine pw_aload_n dX8_isCrew_2 rfl rfl ?_
  refine pw_getR (x := (m + 1)) dX8_isCrew_3 fd_RX8_7 (by decide) (mo_k h) rfl (mo_r1 h) ?_
  refine pw_iconst (v := 2) dX8_isCrew_6 (by decide) ?_
  refine pw_ialdN (j := 2) dX8_isCrew_7 (mo_k1 h) (by omega) (by decide) ?_
  refine pw_iconst (v := 1) dX8_isCrew_8 (by decide) ?_
  refine pw_isub dX8_isCrew_9 ?_
  refine pe_callSi dX8_isCrew_10 oX_X8_isIn lk_RX8_32 sp_isIn rfl rfl (Nat.le_of_ble_eq_true rfl) (by decide) ?_
  rw [le_pred hC (by omega)]
  exact pw_bret dX8_isCrew_13 rfl ⟨rfl, rfl, rfl, rfl⟩

set_option maxRecDepth 4000 in
theorem sp_isTask {σ : pT} {I : pI} {F : pF} {m n : Nat} {a : Int32} (h : isMo σ m) (hn : I (m + 1) 3 = nI n) (hn4 : n ≤ 24)  : PE yX8_isTask cX8_isTask mX8_isTask [.ref m, .int a] σ I F (some (.int (bI (decide (0 ≤ a ∧ a < I (m + 1) 3))))) I F := by
  refine PE.of oP_X8_isTask (catOK rfl) (Nat.le_of_ble_eq_true rfl) ?_
  show PW _ _ _ 0 [.ref m, .int a] [] _ _ _ _
  refine pw_iload_n dX8_isTask_0 rfl rfl ?_
  refine pw_iconst (v := 0) dX8_isTask_1 (by decide) ?_
  refine pw_aload_n dX8_isTask_2 rfl rfl ?_
  refine pw_getR (x := (m + 1)) dX8_isTask_3 fd_RX8_7 (by decide) (mo_k h) rfl (mo_r1 h) ?_
  refine pw_iconst (v := 3) dX8_isTask_6 (by decide) ?_
  refine pw_ialdN (j := 3) dX8_isTask_7 (mo_k1 h) (by omega) (by decide) ?_
  refine pw_iconst (v := 1) dX8_isTask_8 (by decide) ?_
  refine pw_isub dX8_isTask_9 ?_
  refine pe_callSi dX8_isTask_10 oX_X8_isIn lk_RX8_32 sp_isIn rfl rfl (Nat.le_of_ble_eq_true rfl) (by decide) ?_
  rw [le_pred hn (by omega)]
  exact pw_bret dX8_isTask_13 rfl ⟨rfl, rfl, rfl, rfl⟩

def onesV (a : Int32) : Int32 := sumT (fun k => (a >>> (nI k &&& 31)) &&& 1) 8

set_option maxRecDepth 4000 in
theorem sp_ones {σ : pT} {I : pI} {F : pF} {a : Int32} : PE yX8_ones cX8_ones mX8_ones [.int a] σ I F (some (.int (onesV a))) I F := by
  refine PE.of oP_X8_ones (catOK rfl) (Nat.le_of_ble_eq_true rfl) ?_
  show PW _ _ _ 0 [.int a, pJ, pJ] [] _ _ _ _
  have L4 : ∀ k, k ≤ 8 → PW cX8_ones mX8_ones (fM (qE (some (.int (onesV a))) σ I F)) 4 [.int a, .int (sumT (fun k => (a >>> (nI k &&& 31)) &&& 1) k), .int (nI k)] [] σ I F (0, 0) := by
    refine dn (fun k => PW cX8_ones mX8_ones (fM (qE (some (.int (onesV a))) σ I F)) 4 [.int a, .int (sumT (fun k => (a >>> (nI k &&& 31)) &&& 1) k), .int (nI k)] [] σ I F (0, 0)) 8 ?_ ?_
    · skip
      refine pw_iload_n dX8_ones_4 rfl rfl ?_
      refine pw_bipush (v := 8) dX8_ones_5 (by decide) ?_
      refine pw_icmp_ge (tgt := 24) dX8_ones_7 (by decide) (fun c_7 => ?_) (fun c_7 => absurd (Int32.le_refl _) c_7)
      refine pw_iload_n dX8_ones_24 rfl rfl ?_
      exact pw_iret dX8_ones_25 rfl ⟨rfl, rfl, rfl, rfl⟩
    · intro k hk ih
      refine pw_iload_n dX8_ones_4 rfl rfl ?_
      refine pw_bipush (v := 8) dX8_ones_5 (by decide) ?_
      refine pw_icmp_ge (tgt := 24) dX8_ones_7 (by decide) (fun c_7 => absurd c_7 (nI_ge (b := 8) (by omega) (by decide))) (fun c_7 => ?_)
      refine pw_iload_n dX8_ones_10 rfl rfl ?_
      refine pw_iload_n dX8_ones_11 rfl rfl ?_
      refine pw_iload_n dX8_ones_12 rfl rfl ?_
      refine pw_ishr dX8_ones_13 ?_
      refine pw_iconst (v := 1) dX8_ones_14 (by decide) ?_
      refine pw_iand dX8_ones_15 ?_
      refine pw_iadd dX8_ones_16 ?_
      refine pw_istore_n dX8_ones_17 rfl (by decide) rfl ?_
      refine pw_iinc (v := nI (k + 1)) dX8_ones_18 rfl (nI_add _ _) rfl ?_
      refine pw_goto (tgt := 4) dX8_ones_21 (by decide) ?_
      exact ih
  refine pw_iconst (v := 0) dX8_ones_0 (by decide) ?_
  refine pw_istore_n dX8_ones_1 rfl (by decide) rfl ?_
  refine pw_iconst (v := 0) dX8_ones_2 (by decide) ?_
  refine pw_istore_n dX8_ones_3 rfl (by decide) rfl ?_
  exact L4 0 (Nat.zero_le _)

set_option maxRecDepth 4000 in
theorem sp_stateOf {σ : pT} {I : pI} {F : pF} {m a : Nat} (h : isMo σ m) (ha : a < 24) : PE yX8_stateOf cX8_stateOf mX8_stateOf [.ref m, .int (nI a)] σ I F (some (.int (I (m + 1) (251 + 10 * a + 6)))) I F := by
  refine PE.of oP_X8_stateOf (catOK rfl) (Nat.le_of_ble_eq_true rfl) ?_
  show PW _ _ _ 0 [.ref m, .int (nI a)] [] _ _ _ _
  refine pw_aload_n dX8_stateOf_0 rfl rfl ?_
  refine pw_iload_n dX8_stateOf_1 rfl rfl ?_
  refine pw_bipush (v := 6) dX8_stateOf_2 (by decide) ?_
  refine pe_callVi dX8_stateOf_4 oX_X8_ofTask lk_RX8_84 (sp_ofTask (a := a) (w := 6) h (by omega) (by omega)) (mo_k h) rfl rfl (Nat.le_of_ble_eq_true rfl) (by decide) ?_
  exact pw_iret dX8_stateOf_7 rfl ⟨rfl, rfl, rfl, rfl⟩

set_option maxRecDepth 4000 in
theorem sp_isBusy {σ : pT} {I : pI} {F : pF} {m a : Nat} (h : isMo σ m) (ha : a < 24) : PE yX8_isBusy cX8_isBusy mX8_isBusy [.ref m, .int (nI a)] σ I F (some (.int (bI (decide (1 ≤ I (m + 1) (251 + 10 * a + 6) ∧ I (m + 1) (251 + 10 * a + 6) ≤ 3))))) I F := by
  refine PE.of oP_X8_isBusy (catOK rfl) (Nat.le_of_ble_eq_true rfl) ?_
  show PW _ _ _ 0 [.ref m, .int (nI a)] [] _ _ _ _
  refine pw_aload_n dX8_isBusy_0 rfl rfl ?_
  refine pw_iload_n dX8_isBusy_1 rfl rfl ?_
  refine pe_callVi dX8_isBusy_2 oX_X8_stateOf lk_RX8_87 (sp_stateOf (a := a) h (by omega)) (mo_k h) rfl rfl (Nat.le_of_ble_eq_true rfl) (by decide) ?_
  refine pw_iconst (v := 1) dX8_isBusy_5 (by decide) ?_
  refine pw_iconst (v := 3) dX8_isBusy_6 (by decide) ?_
  refine pe_callSi dX8_isBusy_7 oX_X8_isIn lk_RX8_32 sp_isIn rfl rfl (Nat.le_of_ble_eq_true rfl) (by decide) ?_
  exact pw_bret dX8_isBusy_10 rfl ⟨rfl, rfl, rfl, rfl⟩

def mBusyF (N : Nat → Int32) (c z : Int32) : Nat → Int32 := fun t => if (decide (1 ≤ N (251 + 10 * t + 6) ∧ N (251 + 10 * t + 6) ≤ 3) && decide (N (251 + 10 * t + 7) = c)) = true then (if z = 0 then 1 else N (251 + 10 * t + 2)) else 0
def mServe (N : Nat → Int32) (n t c : Nat) : Bool := decide ((N (236 + 2 * c + 1) >>> (N (251 + 10 * t + 1) &&& 31)) &&& 1 = 1) && decide (N (251 + 10 * t + 2) ≤ N (236 + 2 * c) - sumT (mBusyF N (nI c) 1) n)
def mEnd (N : Nat → Int32) (t : Nat) : Int32 := N (251 + 10 * t + 5) + 2 * N (251 + 10 * t + 4) + 6
def mBarB (N : Nat → Int32) (k : Nat) (o : Int32) : Bool := decide ((N (246 + k) >>> (o &&& 31)) &&& 1 = 1)
def mBarP (N : Nat → Int32) (t k a : Nat) : Nat → Bool := fun i => decide (¬ i = t) && (decide (N (251 + 10 * i + 6) = 2) && ((decide (N (251 + 10 * i + 0) = nI a) || decide ((N (4 + 5 * a + 3) >>> (N (251 + 10 * i + 0) &&& 31)) &&& 1 = 1)) && mBarB N k (N (251 + 10 * i + 3))))
def mReas (N : Nat → Int32) (n t k a : Nat) : Int32 := if N (251 + 10 * t + 6) = 1 then (if N 0 < N (251 + 10 * t + 5) then 2 else if mEnd N t < N 0 + N (251 + 10 * t + 4) then 3 else if fstT (mBarP N t k a) n 0 = -5 then 0 else 4) else 1

set_option maxRecDepth 4000 in
theorem sp_busy {σ : pT} {I : pI} {F : pF} {m n : Nat} {c z : Int32} (h : isMo σ m) (hn : I (m + 1) 3 = nI n) (hn4 : n ≤ 24)  : PE yX8_busy cX8_busy mX8_busy [.ref m, .int c, .int z] σ I F (some (.int (sumT (mBusyF (I (m + 1)) c z) n))) I F := by
  refine PE.of oP_X8_busy (catOK rfl) (Nat.le_of_ble_eq_true rfl) ?_
  show PW _ _ _ 0 [.ref m, .int c, .int z, pJ, pJ, pJ] [] _ _ _ _
  have L5 : ∀ k, k ≤ n → ∀ w : Value, PW cX8_busy mX8_busy (fM (qE (some (.int (sumT (mBusyF (I (m + 1)) c z) n))) σ I F)) 5 [.ref m, .int c, .int z, .int (sumT (mBusyF (I (m + 1)) c z) k), .int (nI k), w] [] σ I F (0, 0) := by
    refine dn (fun k => ∀ w : Value, PW cX8_busy mX8_busy (fM (qE (some (.int (sumT (mBusyF (I (m + 1)) c z) n))) σ I F)) 5 [.ref m, .int c, .int z, .int (sumT (mBusyF (I (m + 1)) c z) k), .int (nI k), w] [] σ I F (0, 0)) n ?_ ?_
    · intro w
      refine pw_iload dX8_busy_5 rfl ?_
      refine pw_aload_n dX8_busy_7 rfl rfl ?_
      refine pw_getR (x := (m + 1)) dX8_busy_8 fd_RX8_7 (by decide) (mo_k h) rfl (mo_r1 h) ?_
      refine pw_iconst (v := 3) dX8_busy_11 (by decide) ?_
      refine pw_ialdN (j := 3) dX8_busy_12 (mo_k1 h) (by omega) (by decide) ?_
      rw [hn]
      refine pw_icmp_ge (tgt := 77) dX8_busy_13 (by decide) (fun c_13 => ?_) (fun c_13 => absurd (Int32.le_refl _) c_13)
      refine pw_iload_n dX8_busy_77 rfl rfl ?_
      exact pw_iret dX8_busy_78 rfl ⟨rfl, rfl, rfl, rfl⟩
    · intro k hk ih
      intro w
      refine pw_iload dX8_busy_5 rfl ?_
      refine pw_aload_n dX8_busy_7 rfl rfl ?_
      refine pw_getR (x := (m + 1)) dX8_busy_8 fd_RX8_7 (by decide) (mo_k h) rfl (mo_r1 h) ?_
      refine pw_iconst (v := 3) dX8_busy_11 (by decide) ?_
      refine pw_ialdN (j := 3) dX8_busy_12 (mo_k1 h) (by omega) (by decide) ?_
      rw [hn]
      refine pw_icmp_ge (tgt := 77) dX8_busy_13 (by decide) (fun c_13 => absurd c_13 (nI_ge hk (by omega))) (fun c_13 => ?_)
      refine pw_aload_n dX8_busy_16 rfl rfl ?_
      refine pw_iload dX8_busy_17 rfl ?_
      refine pe_callVi dX8_busy_19 oX_X8_isBusy lk_RX8_90 (sp_isBusy (a := k) h (by omega)) (mo_k h) rfl rfl (Nat.le_of_ble_eq_true rfl) (by decide) ?_
      refine pw_ifB_eq (tgt := 41) dX8_busy_22 (by decide) (fun c_22 => ?_) (fun c_22 => ?_)
      · refine pw_iconst (v := 0) dX8_busy_41 (by decide) ?_
        refine pw_istore dX8_busy_42 (by decide) rfl ?_
        refine pw_iload_n dX8_busy_44 rfl rfl ?_
        refine pw_iload dX8_busy_45 rfl ?_
        refine pw_if_ne (tgt := 54) dX8_busy_47 (by decide) (fun c_47 => ?_) (fun c_47 => ?_)
        · refine pw_iload_n dX8_busy_54 rfl rfl ?_
          refine pw_if_eq (tgt := 68) dX8_busy_55 (by decide) (fun c_55 => ?_) (fun c_55 => ?_)
          · refine pw_iconst (v := 1) dX8_busy_68 (by decide) ?_
            refine pw_iadd dX8_busy_69 ?_
            refine pw_istore_n dX8_busy_70 rfl (by decide) rfl ?_
            refine pw_iinc (v := nI (k + 1)) dX8_busy_71 rfl (nI_add _ _) rfl ?_
            refine pw_goto (tgt := 5) dX8_busy_74 (by decide) ?_
            exact absurd c_47 (by decide)
          · refine pw_aload_n dX8_busy_58 rfl rfl ?_
            refine pw_iload dX8_busy_59 rfl ?_
            refine pw_iconst (v := 2) dX8_busy_61 (by decide) ?_
            refine pe_callVi dX8_busy_62 oX_X8_ofTask lk_RX8_84 (sp_ofTask (a := k) (w := 2) h (by omega) (by omega)) (mo_k h) rfl rfl (Nat.le_of_ble_eq_true rfl) (by decide) ?_
            refine pw_goto (tgt := 69) dX8_busy_65 (by decide) ?_
            refine pw_iadd dX8_busy_69 ?_
            refine pw_istore_n dX8_busy_70 rfl (by decide) rfl ?_
            refine pw_iinc (v := nI (k + 1)) dX8_busy_71 rfl (nI_add _ _) rfl ?_
            refine pw_goto (tgt := 5) dX8_busy_74 (by decide) ?_
            exact absurd c_47 (by decide)
        · refine pw_iconst (v := 0) dX8_busy_50 (by decide) ?_
          refine pw_goto (tgt := 69) dX8_busy_51 (by decide) ?_
          refine pw_iadd dX8_busy_69 ?_
          refine pw_istore_n dX8_busy_70 rfl (by decide) rfl ?_
          refine pw_iinc (v := nI (k + 1)) dX8_busy_71 rfl (nI_add _ _) rfl ?_
          refine pw_goto (tgt := 5) dX8_busy_74 (by decide) ?_
          have hP : (mBusyF (I (m + 1)) c z) k = 0 := by simp [mBusyF, c_22, c_47]
          rw [sum_t hP] at ih
          exact ih _
      · refine pw_aload_n dX8_busy_25 rfl rfl ?_
        refine pw_iload dX8_busy_26 rfl ?_
        refine pw_bipush (v := 7) dX8_busy_28 (by decide) ?_
        refine pe_callVi dX8_busy_30 oX_X8_ofTask lk_RX8_84 (sp_ofTask (a := k) (w := 7) h (by omega) (by omega)) (mo_k h) rfl rfl (Nat.le_of_ble_eq_true rfl) (by decide) ?_
        refine pw_iload_n dX8_busy_33 rfl rfl ?_
        refine pw_icmp_ne (tgt := 41) dX8_busy_34 (by decide) (fun c_34 => ?_) (fun c_34 => ?_)
        · refine pw_iconst (v := 0) dX8_busy_41 (by decide) ?_
          refine pw_istore dX8_busy_42 (by decide) rfl ?_
          refine pw_iload_n dX8_busy_44 rfl rfl ?_
          refine pw_iload dX8_busy_45 rfl ?_
          refine pw_if_ne (tgt := 54) dX8_busy_47 (by decide) (fun c_47 => ?_) (fun c_47 => ?_)
          · refine pw_iload_n dX8_busy_54 rfl rfl ?_
            refine pw_if_eq (tgt := 68) dX8_busy_55 (by decide) (fun c_55 => ?_) (fun c_55 => ?_)
            · refine pw_iconst (v := 1) dX8_busy_68 (by decide) ?_
              refine pw_iadd dX8_busy_69 ?_
              refine pw_istore_n dX8_busy_70 rfl (by decide) rfl ?_
              refine pw_iinc (v := nI (k + 1)) dX8_busy_71 rfl (nI_add _ _) rfl ?_
              refine pw_goto (tgt := 5) dX8_busy_74 (by decide) ?_
              exact absurd c_47 (by decide)
            · refine pw_aload_n dX8_busy_58 rfl rfl ?_
              refine pw_iload dX8_busy_59 rfl ?_
              refine pw_iconst (v := 2) dX8_busy_61 (by decide) ?_
              refine pe_callVi dX8_busy_62 oX_X8_ofTask lk_RX8_84 (sp_ofTask (a := k) (w := 2) h (by omega) (by omega)) (mo_k h) rfl rfl (Nat.le_of_ble_eq_true rfl) (by decide) ?_
              refine pw_goto (tgt := 69) dX8_busy_65 (by decide) ?_
              refine pw_iadd dX8_busy_69 ?_
              refine pw_istore_n dX8_busy_70 rfl (by decide) rfl ?_
              refine pw_iinc (v := nI (k + 1)) dX8_busy_71 rfl (nI_add _ _) rfl ?_
              refine pw_goto (tgt := 5) dX8_busy_74 (by decide) ?_
              exact absurd c_47 (by decide)
          · refine pw_iconst (v := 0) dX8_busy_50 (by decide) ?_
            refine pw_goto (tgt := 69) dX8_busy_51 (by decide) ?_
            refine pw_iadd dX8_busy_69 ?_
            refine pw_istore_n dX8_busy_70 rfl (by decide) rfl ?_
            refine pw_iinc (v := nI (k + 1)) dX8_busy_71 rfl (nI_add _ _) rfl ?_
            refine pw_goto (tgt := 5) dX8_busy_74 (by decide) ?_
            have hP : (mBusyF (I (m + 1)) c z) k = 0 := by simp [mBusyF, c_22, c_34, c_47]
            rw [sum_t hP] at ih
            exact ih _
        · refine pw_iconst (v := 1) dX8_busy_37 (by decide) ?_
          refine pw_goto (tgt := 42) dX8_busy_38 (by decide) ?_
          refine pw_istore dX8_busy_42 (by decide) rfl ?_
          refine pw_iload_n dX8_busy_44 rfl rfl ?_
          refine pw_iload dX8_busy_45 rfl ?_
          refine pw_if_ne (tgt := 54) dX8_busy_47 (by decide) (fun c_47 => ?_) (fun c_47 => ?_)
          · refine pw_iload_n dX8_busy_54 rfl rfl ?_
            refine pw_if_eq (tgt := 68) dX8_busy_55 (by decide) (fun c_55 => ?_) (fun c_55 => ?_)
            · refine pw_iconst (v := 1) dX8_busy_68 (by decide) ?_
              refine pw_iadd dX8_busy_69 ?_
              refine pw_istore_n dX8_busy_70 rfl (by decide) rfl ?_
              refine pw_iinc (v := nI (k + 1)) dX8_busy_71 rfl (nI_add _ _) rfl ?_
              refine pw_goto (tgt := 5) dX8_busy_74 (by decide) ?_
              have hP : (mBusyF (I (m + 1)) c z) k = 1 := by simp [mBusyF, c_22, c_34, c_47, c_55]
              rw [sum_t hP] at ih
              exact ih _
            · refine pw_aload_n dX8_busy_58 rfl rfl ?_
              refine pw_iload dX8_busy_59 rfl ?_
              refine pw_iconst (v := 2) dX8_busy_61 (by decide) ?_
              refine pe_callVi dX8_busy_62 oX_X8_ofTask lk_RX8_84 (sp_ofTask (a := k) (w := 2) h (by omega) (by omega)) (mo_k h) rfl rfl (Nat.le_of_ble_eq_true rfl) (by decide) ?_
              refine pw_goto (tgt := 69) dX8_busy_65 (by decide) ?_
              refine pw_iadd dX8_busy_69 ?_
              refine pw_istore_n dX8_busy_70 rfl (by decide) rfl ?_
              refine pw_iinc (v := nI (k + 1)) dX8_busy_71 rfl (nI_add _ _) rfl ?_
              refine pw_goto (tgt := 5) dX8_busy_74 (by decide) ?_
              have hP : (mBusyF (I (m + 1)) c z) k = I (m + 1) (251 + 10 * k + 2) := by simp [mBusyF, c_22, c_34, c_47, c_55]
              rw [sum_t hP] at ih
              exact ih _
          · refine pw_iconst (v := 0) dX8_busy_50 (by decide) ?_
            refine pw_goto (tgt := 69) dX8_busy_51 (by decide) ?_
            refine pw_iadd dX8_busy_69 ?_
            refine pw_istore_n dX8_busy_70 rfl (by decide) rfl ?_
            refine pw_iinc (v := nI (k + 1)) dX8_busy_71 rfl (nI_add _ _) rfl ?_
            refine pw_goto (tgt := 5) dX8_busy_74 (by decide) ?_
            exact absurd c_47 (by decide)
  refine pw_iconst (v := 0) dX8_busy_0 (by decide) ?_
  refine pw_istore_n dX8_busy_1 rfl (by decide) rfl ?_
  refine pw_iconst (v := 0) dX8_busy_2 (by decide) ?_
  refine pw_istore dX8_busy_3 (by decide) rfl ?_
  exact L5 0 (Nat.zero_le _) _

set_option maxRecDepth 4000 in
theorem sp_bars {σ : pT} {I : pI} {F : pF} {m k : Nat} {o : Int32} (h : isMo σ m) (hk5 : k < 5) : PE yX8_bars cX8_bars mX8_bars [.ref m, .int (nI k), .int o] σ I F (some (.int (bI (mBarB (I (m + 1)) k o)))) I F := by
  refine PE.of oP_X8_bars (catOK rfl) (Nat.le_of_ble_eq_true rfl) ?_
  show PW _ _ _ 0 [.ref m, .int (nI k), .int o] [] _ _ _ _
  refine pw_aload_n dX8_bars_0 rfl rfl ?_
  refine pw_getR (x := (m + 1)) dX8_bars_1 fd_RX8_7 (by decide) (mo_k h) rfl (mo_r1 h) ?_
  refine pw_sipush (v := 246) dX8_bars_4 (by decide) ?_
  refine pw_iload_n dX8_bars_7 rfl rfl ?_
  refine pw_iadd dX8_bars_8 ?_
  rw [show (246 + nI k : Int32) = nI (246 + k) from nI_add _ _]
  refine pw_ialdN (j := (246 + k)) dX8_bars_9 (mo_k1 h) (by omega) (by decide) ?_
  refine pw_iload_n dX8_bars_10 rfl rfl ?_
  refine pw_ishr dX8_bars_11 ?_
  refine pw_iconst (v := 1) dX8_bars_12 (by decide) ?_
  refine pw_iand dX8_bars_13 ?_
  refine pw_iconst (v := 1) dX8_bars_14 (by decide) ?_
  refine pw_icmp_ne (tgt := 22) dX8_bars_15 (by decide) (fun c_15 => ?_) (fun c_15 => ?_)
  · refine pw_iconst (v := 0) dX8_bars_22 (by decide) ?_
    exact pw_zret dX8_bars_23 rfl (by first | rfl | decide) ⟨b_f (by simp [mBarB, c_15]), rfl, rfl, rfl⟩
  · refine pw_iconst (v := 1) dX8_bars_18 (by decide) ?_
    refine pw_goto (tgt := 23) dX8_bars_19 (by decide) ?_
    exact pw_zret dX8_bars_23 rfl (by first | rfl | decide) ⟨b_t (by simp [mBarB, c_15]), rfl, rfl, rfl⟩

set_option maxRecDepth 4000 in
theorem sp_canHang {σ : pT} {I : pI} {F : pF} {m n t d : Nat} (h : isMo σ m) (hn : I (m + 1) 3 = nI n) (hn4 : n ≤ 24) (ht : t < 24) (hd : d < 5) : PE yX8_canHang cX8_canHang mX8_canHang [.ref m, .int (nI t), .int (nI d)] σ I F (some (.int (bI (mServe (I (m + 1)) n t d)))) I F := by
  refine PE.of oP_X8_canHang (catOK rfl) (Nat.le_of_ble_eq_true rfl) ?_
  show PW _ _ _ 0 [.ref m, .int (nI t), .int (nI d), pJ] [] _ _ _ _
  refine pw_aload_n dX8_canHang_0 rfl rfl ?_
  refine pw_getR (x := (m + 1)) dX8_canHang_1 fd_RX8_7 (by decide) (mo_k h) rfl (mo_r1 h) ?_
  refine pw_sipush (v := 236) dX8_canHang_4 (by decide) ?_
  refine pw_iconst (v := 2) dX8_canHang_7 (by decide) ?_
  refine pw_iload_n dX8_canHang_8 rfl rfl ?_
  refine pw_imul dX8_canHang_9 ?_
  rw [show (2 * nI d : Int32) = nI (2 * d) from pk_mul _ _]
  refine pw_iadd dX8_canHang_10 ?_
  rw [show (236 + nI (2 * d) : Int32) = nI (236 + (2 * d)) from nI_add _ _]
  refine pw_iconst (v := 1) dX8_canHang_11 (by decide) ?_
  refine pw_iadd dX8_canHang_12 ?_
  rw [show (nI (236 + (2 * d)) + 1 : Int32) = nI ((236 + (2 * d)) + 1) from nI_add _ _]
  refine pw_ialdN (j := ((236 + (2 * d)) + 1)) dX8_canHang_13 (mo_k1 h) (by omega) (by decide) ?_
  refine pw_aload_n dX8_canHang_14 rfl rfl ?_
  refine pw_iload_n dX8_canHang_15 rfl rfl ?_
  refine pw_iconst (v := 1) dX8_canHang_16 (by decide) ?_
  refine pe_callVi dX8_canHang_17 oX_X8_ofTask lk_RX8_84 (sp_ofTask (a := t) (w := 1) h (by omega) (by omega)) (mo_k h) rfl rfl (Nat.le_of_ble_eq_true rfl) (by decide) ?_
  refine pw_ishr dX8_canHang_20 ?_
  refine pw_iconst (v := 1) dX8_canHang_21 (by decide) ?_
  refine pw_iand dX8_canHang_22 ?_
  refine pw_iconst (v := 1) dX8_canHang_23 (by decide) ?_
  refine pw_icmp_ne (tgt := 31) dX8_canHang_24 (by decide) (fun c_24 => ?_) (fun c_24 => ?_)
  · refine pw_iconst (v := 0) dX8_canHang_31 (by decide) ?_
    refine pw_istore_n dX8_canHang_32 rfl (by decide) rfl ?_
    refine pw_iload_n dX8_canHang_33 rfl rfl ?_
    refine pw_if_eq (tgt := 69) dX8_canHang_34 (by decide) (fun c_34 => ?_) (fun c_34 => ?_)
    · refine pw_iconst (v := 0) dX8_canHang_69 (by decide) ?_
      exact pw_zret dX8_canHang_70 rfl (by first | rfl | decide) ⟨b_f (by simp [mServe, i_nle, i_lt, i_le, i_nlt, c_24]), rfl, rfl, rfl⟩
    · refine pw_aload_n dX8_canHang_37 rfl rfl ?_
      refine pw_getR (x := (m + 1)) dX8_canHang_38 fd_RX8_7 (by decide) (mo_k h) rfl (mo_r1 h) ?_
      refine pw_sipush (v := 236) dX8_canHang_41 (by decide) ?_
      refine pw_iconst (v := 2) dX8_canHang_44 (by decide) ?_
      refine pw_iload_n dX8_canHang_45 rfl rfl ?_
      refine pw_imul dX8_canHang_46 ?_
      rw [show (2 * nI d : Int32) = nI (2 * d) from pk_mul _ _]
      refine pw_iadd dX8_canHang_47 ?_
      rw [show (236 + nI (2 * d) : Int32) = nI (236 + (2 * d)) from nI_add _ _]
      refine pw_ialdN (j := (236 + (2 * d))) dX8_canHang_48 (mo_k1 h) (by omega) (by decide) ?_
      refine pw_aload_n dX8_canHang_49 rfl rfl ?_
      refine pw_iload_n dX8_canHang_50 rfl rfl ?_
      refine pw_iconst (v := 1) dX8_canHang_51 (by decide) ?_
      refine pe_callVi dX8_canHang_52 oX_X8_busy lk_RX8_93 (sp_busy h hn hn4) (mo_k h) rfl rfl (Nat.le_of_ble_eq_true rfl) (by decide) ?_
      refine pw_isub dX8_canHang_55 ?_
      refine pw_aload_n dX8_canHang_56 rfl rfl ?_
      refine pw_iload_n dX8_canHang_57 rfl rfl ?_
      refine pw_iconst (v := 2) dX8_canHang_58 (by decide) ?_
      refine pe_callVi dX8_canHang_59 oX_X8_ofTask lk_RX8_84 (sp_ofTask (a := t) (w := 2) h (by omega) (by omega)) (mo_k h) rfl rfl (Nat.le_of_ble_eq_true rfl) (by decide) ?_
      refine pw_icmp_lt (tgt := 69) dX8_canHang_62 (by decide) (fun c_62 => ?_) (fun c_62 => ?_)
      · refine pw_iconst (v := 0) dX8_canHang_69 (by decide) ?_
        exact pw_zret dX8_canHang_70 rfl (by first | rfl | decide) ⟨absurd c_34 (by decide), rfl, rfl, rfl⟩
      · refine pw_iconst (v := 1) dX8_canHang_65 (by decide) ?_
        refine pw_goto (tgt := 70) dX8_canHang_66 (by decide) ?_
        exact pw_zret dX8_canHang_70 rfl (by first | rfl | decide) ⟨absurd c_34 (by decide), rfl, rfl, rfl⟩
  · refine pw_iconst (v := 1) dX8_canHang_27 (by decide) ?_
    refine pw_goto (tgt := 32) dX8_canHang_28 (by decide) ?_
    refine pw_istore_n dX8_canHang_32 rfl (by decide) rfl ?_
    refine pw_iload_n dX8_canHang_33 rfl rfl ?_
    refine pw_if_eq (tgt := 69) dX8_canHang_34 (by decide) (fun c_34 => ?_) (fun c_34 => ?_)
    · refine pw_iconst (v := 0) dX8_canHang_69 (by decide) ?_
      exact pw_zret dX8_canHang_70 rfl (by first | rfl | decide) ⟨absurd c_34 (by decide), rfl, rfl, rfl⟩
    · refine pw_aload_n dX8_canHang_37 rfl rfl ?_
      refine pw_getR (x := (m + 1)) dX8_canHang_38 fd_RX8_7 (by decide) (mo_k h) rfl (mo_r1 h) ?_
      refine pw_sipush (v := 236) dX8_canHang_41 (by decide) ?_
      refine pw_iconst (v := 2) dX8_canHang_44 (by decide) ?_
      refine pw_iload_n dX8_canHang_45 rfl rfl ?_
      refine pw_imul dX8_canHang_46 ?_
      rw [show (2 * nI d : Int32) = nI (2 * d) from pk_mul _ _]
      refine pw_iadd dX8_canHang_47 ?_
      rw [show (236 + nI (2 * d) : Int32) = nI (236 + (2 * d)) from nI_add _ _]
      refine pw_ialdN (j := (236 + (2 * d))) dX8_canHang_48 (mo_k1 h) (by omega) (by decide) ?_
      refine pw_aload_n dX8_canHang_49 rfl rfl ?_
      refine pw_iload_n dX8_canHang_50 rfl rfl ?_
      refine pw_iconst (v := 1) dX8_canHang_51 (by decide) ?_
      refine pe_callVi dX8_canHang_52 oX_X8_busy lk_RX8_93 (sp_busy h hn hn4) (mo_k h) rfl rfl (Nat.le_of_ble_eq_true rfl) (by decide) ?_
      refine pw_isub dX8_canHang_55 ?_
      refine pw_aload_n dX8_canHang_56 rfl rfl ?_
      refine pw_iload_n dX8_canHang_57 rfl rfl ?_
      refine pw_iconst (v := 2) dX8_canHang_58 (by decide) ?_
      refine pe_callVi dX8_canHang_59 oX_X8_ofTask lk_RX8_84 (sp_ofTask (a := t) (w := 2) h (by omega) (by omega)) (mo_k h) rfl rfl (Nat.le_of_ble_eq_true rfl) (by decide) ?_
      refine pw_icmp_lt (tgt := 69) dX8_canHang_62 (by decide) (fun c_62 => ?_) (fun c_62 => ?_)
      · refine pw_iconst (v := 0) dX8_canHang_69 (by decide) ?_
        exact pw_zret dX8_canHang_70 rfl (by first | rfl | decide) ⟨b_f (by simp [mServe, i_nle, i_lt, i_le, i_nlt, c_24, c_62]), rfl, rfl, rfl⟩
      · refine pw_iconst (v := 1) dX8_canHang_65 (by decide) ?_
        refine pw_goto (tgt := 70) dX8_canHang_66 (by decide) ?_
        exact pw_zret dX8_canHang_70 rfl (by first | rfl | decide) ⟨b_t (by simp [mServe, i_nle, i_lt, i_le, i_nlt, c_24, c_62]), rfl, rfl, rfl⟩

set_option maxRecDepth 4000 in
theorem sp_endOf {σ : pT} {I : pI} {F : pF} {m t : Nat} (h : isMo σ m) (ht : t < 24) : PE yX8_endOf cX8_endOf mX8_endOf [.ref m, .int (nI t)] σ I F (some (.int (mEnd (I (m + 1)) t))) I F := by
  refine PE.of oP_X8_endOf (catOK rfl) (Nat.le_of_ble_eq_true rfl) ?_
  show PW _ _ _ 0 [.ref m, .int (nI t)] [] _ _ _ _
  refine pw_aload_n dX8_endOf_0 rfl rfl ?_
  refine pw_iload_n dX8_endOf_1 rfl rfl ?_
  refine pw_iconst (v := 5) dX8_endOf_2 (by decide) ?_
  refine pe_callVi dX8_endOf_3 oX_X8_ofTask lk_RX8_84 (sp_ofTask (a := t) (w := 5) h (by omega) (by omega)) (mo_k h) rfl rfl (Nat.le_of_ble_eq_true rfl) (by decide) ?_
  refine pw_iconst (v := 2) dX8_endOf_6 (by decide) ?_
  refine pw_aload_n dX8_endOf_7 rfl rfl ?_
  refine pw_iload_n dX8_endOf_8 rfl rfl ?_
  refine pw_iconst (v := 4) dX8_endOf_9 (by decide) ?_
  refine pe_callVi dX8_endOf_10 oX_X8_ofTask lk_RX8_84 (sp_ofTask (a := t) (w := 4) h (by omega) (by omega)) (mo_k h) rfl rfl (Nat.le_of_ble_eq_true rfl) (by decide) ?_
  refine pw_imul dX8_endOf_13 ?_
  refine pw_iadd dX8_endOf_14 ?_
  refine pw_bipush (v := 6) dX8_endOf_15 (by decide) ?_
  refine pw_iadd dX8_endOf_17 ?_
  exact pw_iret dX8_endOf_18 rfl ⟨rfl, rfl, rfl, rfl⟩

set_option maxRecDepth 4000 in
theorem sp_isTooLate {σ : pT} {I : pI} {F : pF} {m t : Nat} (h : isMo σ m) (ht : t < 24) : PE yX8_isTooLate cX8_isTooLate mX8_isTooLate [.ref m, .int (nI t)] σ I F (some (.int (bI (decide (mEnd (I (m + 1)) t < I (m + 1) 0 + I (m + 1) (251 + 10 * t + 4)))))) I F := by
  refine PE.of oP_X8_isTooLate (catOK rfl) (Nat.le_of_ble_eq_true rfl) ?_
  show PW _ _ _ 0 [.ref m, .int (nI t)] [] _ _ _ _
  refine pw_aload_n dX8_isTooLate_0 rfl rfl ?_
  refine pw_getR (x := (m + 1)) dX8_isTooLate_1 fd_RX8_7 (by decide) (mo_k h) rfl (mo_r1 h) ?_
  refine pw_iconst (v := 0) dX8_isTooLate_4 (by decide) ?_
  refine pw_ialdN (j := 0) dX8_isTooLate_5 (mo_k1 h) (by omega) (by decide) ?_
  refine pw_aload_n dX8_isTooLate_6 rfl rfl ?_
  refine pw_iload_n dX8_isTooLate_7 rfl rfl ?_
  refine pw_iconst (v := 4) dX8_isTooLate_8 (by decide) ?_
  refine pe_callVi dX8_isTooLate_9 oX_X8_ofTask lk_RX8_84 (sp_ofTask (a := t) (w := 4) h (by omega) (by omega)) (mo_k h) rfl rfl (Nat.le_of_ble_eq_true rfl) (by decide) ?_
  refine pw_iadd dX8_isTooLate_12 ?_
  refine pw_aload_n dX8_isTooLate_13 rfl rfl ?_
  refine pw_iload_n dX8_isTooLate_14 rfl rfl ?_
  refine pe_callVi dX8_isTooLate_15 oX_X8_endOf lk_RX8_97 (sp_endOf (t := t) h (by omega)) (mo_k h) rfl rfl (Nat.le_of_ble_eq_true rfl) (by decide) ?_
  refine pw_icmp_le (tgt := 25) dX8_isTooLate_18 (by decide) (fun c_18 => ?_) (fun c_18 => ?_)
  · refine pw_iconst (v := 0) dX8_isTooLate_25 (by decide) ?_
    exact pw_zret dX8_isTooLate_26 rfl (by first | rfl | decide) (by first | exact ⟨ret_t (i_lt c_18), rfl, rfl, rfl⟩ | exact ⟨ret_f (i_nle c_18), rfl, rfl, rfl⟩)
  · refine pw_iconst (v := 1) dX8_isTooLate_21 (by decide) ?_
    refine pw_goto (tgt := 26) dX8_isTooLate_22 (by decide) ?_
    exact pw_zret dX8_isTooLate_26 rfl (by first | rfl | decide) (by first | exact ⟨ret_t (i_lt c_18), rfl, rfl, rfl⟩ | exact ⟨ret_f (i_nle c_18), rfl, rfl, rfl⟩)

set_option maxRecDepth 4000 in
theorem sp_barredBy {σ : pT} {I : pI} {F : pF} {m n t kt at_ : Nat} (h : isMo σ m) (hn : I (m + 1) 3 = nI n) (hn4 : n ≤ 24) (hkd : I (m + 1) (251 + 10 * t + 3) = nI kt) (hk5 : kt < 5) (hat : I (m + 1) (251 + 10 * t + 0) = nI at_) (haA : at_ < 8) (ht : t < n) : PE yX8_barredBy cX8_barredBy mX8_barredBy [.ref m, .int (nI t)] σ I F (some (.int (fstT (mBarP (I (m + 1)) t kt at_) n 0))) I F := by
  refine PE.of oP_X8_barredBy (catOK rfl) (Nat.le_of_ble_eq_true rfl) ?_
  show PW _ _ _ 0 [.ref m, .int (nI t), pJ, pJ, pJ, pJ] [] _ _ _ _
  have L9 : ∀ k, k ≤ n → ∀ w w2 : Value, fstT (mBarP (I (m + 1)) t kt at_) (n - k) k = fstT (mBarP (I (m + 1)) t kt at_) n 0 → PW cX8_barredBy mX8_barredBy (fM (qE (some (.int (fstT (mBarP (I (m + 1)) t kt at_) n 0))) σ I F)) 9 [.ref m, .int (nI t), .int (nI at_), .int (nI k), w, w2] [] σ I F (0, 0) := by
    refine dn (fun k => ∀ w w2 : Value, fstT (mBarP (I (m + 1)) t kt at_) (n - k) k = fstT (mBarP (I (m + 1)) t kt at_) n 0 → PW cX8_barredBy mX8_barredBy (fM (qE (some (.int (fstT (mBarP (I (m + 1)) t kt at_) n 0))) σ I F)) 9 [.ref m, .int (nI t), .int (nI at_), .int (nI k), w, w2] [] σ I F (0, 0)) n ?_ ?_
    · intro w w2 hx
      refine pw_iload_n dX8_barredBy_9 rfl rfl ?_
      refine pw_aload_n dX8_barredBy_10 rfl rfl ?_
      refine pw_getR (x := (m + 1)) dX8_barredBy_11 fd_RX8_7 (by decide) (mo_k h) rfl (mo_r1 h) ?_
      refine pw_iconst (v := 3) dX8_barredBy_14 (by decide) ?_
      refine pw_ialdN (j := 3) dX8_barredBy_15 (mo_k1 h) (by omega) (by decide) ?_
      rw [hn]
      refine pw_icmp_ge (tgt := 101) dX8_barredBy_16 (by decide) (fun c_16 => ?_) (fun c_16 => absurd (Int32.le_refl _) c_16)
      refine pw_bipush (v := (-5)) dX8_barredBy_101 (by decide) ?_
      exact pw_iret dX8_barredBy_103 rfl ⟨by rw [fst_0] at hx; rw [← hx], rfl, rfl, rfl⟩
    · intro k hk ih
      intro w w2 hx
      refine pw_iload_n dX8_barredBy_9 rfl rfl ?_
      refine pw_aload_n dX8_barredBy_10 rfl rfl ?_
      refine pw_getR (x := (m + 1)) dX8_barredBy_11 fd_RX8_7 (by decide) (mo_k h) rfl (mo_r1 h) ?_
      refine pw_iconst (v := 3) dX8_barredBy_14 (by decide) ?_
      refine pw_ialdN (j := 3) dX8_barredBy_15 (mo_k1 h) (by omega) (by decide) ?_
      rw [hn]
      refine pw_icmp_ge (tgt := 101) dX8_barredBy_16 (by decide) (fun c_16 => absurd c_16 (nI_ge hk (by omega))) (fun c_16 => ?_)
      refine pw_aload_n dX8_barredBy_19 rfl rfl ?_
      refine pw_iload_n dX8_barredBy_20 rfl rfl ?_
      refine pw_iconst (v := 0) dX8_barredBy_21 (by decide) ?_
      refine pe_callVi dX8_barredBy_22 oX_X8_ofTask lk_RX8_84 (sp_ofTask (a := k) (w := 0) h (by omega) (by omega)) (mo_k h) rfl rfl (Nat.le_of_ble_eq_true rfl) (by decide) ?_
      refine pw_istore dX8_barredBy_25 (by decide) rfl ?_
      refine pw_iload dX8_barredBy_27 rfl ?_
      refine pw_iload_n dX8_barredBy_29 rfl rfl ?_
      refine pw_icmp_eq (tgt := 48) dX8_barredBy_30 (by decide) (fun c_30 => ?_) (fun c_30 => ?_)
      · refine pw_iconst (v := 1) dX8_barredBy_48 (by decide) ?_
        refine pw_goto (tgt := 53) dX8_barredBy_49 (by decide) ?_
        refine pw_istore dX8_barredBy_53 (by decide) rfl ?_
        refine pw_iload_n dX8_barredBy_55 rfl rfl ?_
        refine pw_iload_n dX8_barredBy_56 rfl rfl ?_
        refine pw_icmp_eq (tgt := 95) dX8_barredBy_57 (by decide) (fun c_57 => ?_) (fun c_57 => ?_)
        · have nt : k = t := (nI_eq (by omega) (by omega)).mp c_57
          refine pw_iinc (v := nI (k + 1)) dX8_barredBy_95 rfl (nI_add _ _) rfl ?_
          refine pw_goto (tgt := 9) dX8_barredBy_98 (by decide) ?_
          have hP : (mBarP (I (m + 1)) t kt at_) k = false := by simp only [Nat.add_zero] at c_30; simp [mBarP, nt, c_30]
          rw [fst_f hk hP] at hx
          exact ih _ _ hx
        · have nt : ¬ k = t := fun z => c_57 (by rw [z])
          refine pw_aload_n dX8_barredBy_60 rfl rfl ?_
          refine pw_iload_n dX8_barredBy_61 rfl rfl ?_
          refine pe_callVi dX8_barredBy_62 oX_X8_stateOf lk_RX8_87 (sp_stateOf (a := k) h (by omega)) (mo_k h) rfl rfl (Nat.le_of_ble_eq_true rfl) (by decide) ?_
          refine pw_iconst (v := 2) dX8_barredBy_65 (by decide) ?_
          refine pw_icmp_ne (tgt := 95) dX8_barredBy_66 (by decide) (fun c_66 => ?_) (fun c_66 => ?_)
          · refine pw_iinc (v := nI (k + 1)) dX8_barredBy_95 rfl (nI_add _ _) rfl ?_
            refine pw_goto (tgt := 9) dX8_barredBy_98 (by decide) ?_
            have hP : (mBarP (I (m + 1)) t kt at_) k = false := by simp only [Nat.add_zero] at c_30; simp [mBarP, nt, c_30, c_66]
            rw [fst_f hk hP] at hx
            exact ih _ _ hx
          · refine pw_iload dX8_barredBy_69 rfl ?_
            refine pw_if_eq (tgt := 95) dX8_barredBy_71 (by decide) (fun c_71 => ?_) (fun c_71 => ?_)
            · refine pw_iinc (v := nI (k + 1)) dX8_barredBy_95 rfl (nI_add _ _) rfl ?_
              refine pw_goto (tgt := 9) dX8_barredBy_98 (by decide) ?_
              exact absurd c_71 (by decide)
            · refine pw_aload_n dX8_barredBy_74 rfl rfl ?_
              refine pw_aload_n dX8_barredBy_75 rfl rfl ?_
              refine pw_iload_n dX8_barredBy_76 rfl rfl ?_
              refine pw_iconst (v := 3) dX8_barredBy_77 (by decide) ?_
              refine pe_callVi dX8_barredBy_78 oX_X8_ofTask lk_RX8_84 (sp_ofTask (a := t) (w := 3) h (by omega) (by omega)) (mo_k h) rfl rfl (Nat.le_of_ble_eq_true rfl) (by decide) ?_
              rw [hkd]
              refine pw_aload_n dX8_barredBy_81 rfl rfl ?_
              refine pw_iload_n dX8_barredBy_82 rfl rfl ?_
              refine pw_iconst (v := 3) dX8_barredBy_83 (by decide) ?_
              refine pe_callVi dX8_barredBy_84 oX_X8_ofTask lk_RX8_84 (sp_ofTask (a := k) (w := 3) h (by omega) (by omega)) (mo_k h) rfl rfl (Nat.le_of_ble_eq_true rfl) (by decide) ?_
              refine pe_callVi dX8_barredBy_87 oX_X8_bars lk_RX8_77 (sp_bars (k := kt) h (by omega)) (mo_k h) rfl rfl (Nat.le_of_ble_eq_true rfl) (by decide) ?_
              refine pw_ifB_eq (tgt := 95) dX8_barredBy_90 (by decide) (fun c_90 => ?_) (fun c_90 => ?_)
              · refine pw_iinc (v := nI (k + 1)) dX8_barredBy_95 rfl (nI_add _ _) rfl ?_
                refine pw_goto (tgt := 9) dX8_barredBy_98 (by decide) ?_
                have hP : (mBarP (I (m + 1)) t kt at_) k = false := by simp only [Nat.add_zero] at c_30; simp [mBarP, nt, c_30, c_66, c_90]
                rw [fst_f hk hP] at hx
                exact ih _ _ hx
              · refine pw_iload_n dX8_barredBy_93 rfl rfl ?_
                exact pw_iret dX8_barredBy_94 rfl ⟨by rw [fst_t hk (by simp only [Nat.add_zero] at c_30; simp [mBarP, nt, c_30, c_66, c_90])] at hx; rw [← hx], rfl, rfl, rfl⟩
      · refine pw_aload_n dX8_barredBy_33 rfl rfl ?_
        refine pw_iload_n dX8_barredBy_34 rfl rfl ?_
        refine pw_iconst (v := 3) dX8_barredBy_35 (by decide) ?_
        refine pe_callVi dX8_barredBy_36 oX_X8_of lk_RX8_69 (sp_of (a := at_) (w := 3) h (by omega) (by omega)) (mo_k h) rfl rfl (Nat.le_of_ble_eq_true rfl) (by decide) ?_
        refine pw_iload dX8_barredBy_39 rfl ?_
        refine pw_ishr dX8_barredBy_41 ?_
        refine pw_iconst (v := 1) dX8_barredBy_42 (by decide) ?_
        refine pw_iand dX8_barredBy_43 ?_
        refine pw_iconst (v := 1) dX8_barredBy_44 (by decide) ?_
        refine pw_icmp_ne (tgt := 52) dX8_barredBy_45 (by decide) (fun c_45 => ?_) (fun c_45 => ?_)
        · refine pw_iconst (v := 0) dX8_barredBy_52 (by decide) ?_
          refine pw_istore dX8_barredBy_53 (by decide) rfl ?_
          refine pw_iload_n dX8_barredBy_55 rfl rfl ?_
          refine pw_iload_n dX8_barredBy_56 rfl rfl ?_
          refine pw_icmp_eq (tgt := 95) dX8_barredBy_57 (by decide) (fun c_57 => ?_) (fun c_57 => ?_)
          · have nt : k = t := (nI_eq (by omega) (by omega)).mp c_57
            refine pw_iinc (v := nI (k + 1)) dX8_barredBy_95 rfl (nI_add _ _) rfl ?_
            refine pw_goto (tgt := 9) dX8_barredBy_98 (by decide) ?_
            have hP : (mBarP (I (m + 1)) t kt at_) k = false := by simp only [Nat.add_zero] at c_30; simp only [Nat.add_zero] at c_45; simp [mBarP, nt, c_30, c_45]
            rw [fst_f hk hP] at hx
            exact ih _ _ hx
          · have nt : ¬ k = t := fun z => c_57 (by rw [z])
            refine pw_aload_n dX8_barredBy_60 rfl rfl ?_
            refine pw_iload_n dX8_barredBy_61 rfl rfl ?_
            refine pe_callVi dX8_barredBy_62 oX_X8_stateOf lk_RX8_87 (sp_stateOf (a := k) h (by omega)) (mo_k h) rfl rfl (Nat.le_of_ble_eq_true rfl) (by decide) ?_
            refine pw_iconst (v := 2) dX8_barredBy_65 (by decide) ?_
            refine pw_icmp_ne (tgt := 95) dX8_barredBy_66 (by decide) (fun c_66 => ?_) (fun c_66 => ?_)
            · refine pw_iinc (v := nI (k + 1)) dX8_barredBy_95 rfl (nI_add _ _) rfl ?_
              refine pw_goto (tgt := 9) dX8_barredBy_98 (by decide) ?_
              have hP : (mBarP (I (m + 1)) t kt at_) k = false := by simp only [Nat.add_zero] at c_30; simp only [Nat.add_zero] at c_45; simp [mBarP, nt, c_30, c_45, c_66]
              rw [fst_f hk hP] at hx
              exact ih _ _ hx
            · refine pw_iload dX8_barredBy_69 rfl ?_
              refine pw_if_eq (tgt := 95) dX8_barredBy_71 (by decide) (fun c_71 => ?_) (fun c_71 => ?_)
              · refine pw_iinc (v := nI (k + 1)) dX8_barredBy_95 rfl (nI_add _ _) rfl ?_
                refine pw_goto (tgt := 9) dX8_barredBy_98 (by decide) ?_
                have hP : (mBarP (I (m + 1)) t kt at_) k = false := by simp only [Nat.add_zero] at c_30; simp only [Nat.add_zero] at c_45; simp [mBarP, nt, c_30, c_45, c_66]
                rw [fst_f hk hP] at hx
                exact ih _ _ hx
              · refine pw_aload_n dX8_barredBy_74 rfl rfl ?_
                refine pw_aload_n dX8_barredBy_75 rfl rfl ?_
                refine pw_iload_n dX8_barredBy_76 rfl rfl ?_
                refine pw_iconst (v := 3) dX8_barredBy_77 (by decide) ?_
                refine pe_callVi dX8_barredBy_78 oX_X8_ofTask lk_RX8_84 (sp_ofTask (a := t) (w := 3) h (by omega) (by omega)) (mo_k h) rfl rfl (Nat.le_of_ble_eq_true rfl) (by decide) ?_
                rw [hkd]
                refine pw_aload_n dX8_barredBy_81 rfl rfl ?_
                refine pw_iload_n dX8_barredBy_82 rfl rfl ?_
                refine pw_iconst (v := 3) dX8_barredBy_83 (by decide) ?_
                refine pe_callVi dX8_barredBy_84 oX_X8_ofTask lk_RX8_84 (sp_ofTask (a := k) (w := 3) h (by omega) (by omega)) (mo_k h) rfl rfl (Nat.le_of_ble_eq_true rfl) (by decide) ?_
                refine pe_callVi dX8_barredBy_87 oX_X8_bars lk_RX8_77 (sp_bars (k := kt) h (by omega)) (mo_k h) rfl rfl (Nat.le_of_ble_eq_true rfl) (by decide) ?_
                refine pw_ifB_eq (tgt := 95) dX8_barredBy_90 (by decide) (fun c_90 => ?_) (fun c_90 => ?_)
                · refine pw_iinc (v := nI (k + 1)) dX8_barredBy_95 rfl (nI_add _ _) rfl ?_
                  refine pw_goto (tgt := 9) dX8_barredBy_98 (by decide) ?_
                  exact absurd c_71 (by decide)
                · refine pw_iload_n dX8_barredBy_93 rfl rfl ?_
                  exact pw_iret dX8_barredBy_94 rfl ⟨absurd c_71 (by decide), rfl, rfl, rfl⟩
        · refine pw_iconst (v := 1) dX8_barredBy_48 (by decide) ?_
          refine pw_goto (tgt := 53) dX8_barredBy_49 (by decide) ?_
          refine pw_istore dX8_barredBy_53 (by decide) rfl ?_
          refine pw_iload_n dX8_barredBy_55 rfl rfl ?_
          refine pw_iload_n dX8_barredBy_56 rfl rfl ?_
          refine pw_icmp_eq (tgt := 95) dX8_barredBy_57 (by decide) (fun c_57 => ?_) (fun c_57 => ?_)
          · have nt : k = t := (nI_eq (by omega) (by omega)).mp c_57
            refine pw_iinc (v := nI (k + 1)) dX8_barredBy_95 rfl (nI_add _ _) rfl ?_
            refine pw_goto (tgt := 9) dX8_barredBy_98 (by decide) ?_
            have hP : (mBarP (I (m + 1)) t kt at_) k = false := by simp only [Nat.add_zero] at c_30; simp only [Nat.add_zero] at c_45; simp [mBarP, nt, c_30, c_45]
            rw [fst_f hk hP] at hx
            exact ih _ _ hx
          · have nt : ¬ k = t := fun z => c_57 (by rw [z])
            refine pw_aload_n dX8_barredBy_60 rfl rfl ?_
            refine pw_iload_n dX8_barredBy_61 rfl rfl ?_
            refine pe_callVi dX8_barredBy_62 oX_X8_stateOf lk_RX8_87 (sp_stateOf (a := k) h (by omega)) (mo_k h) rfl rfl (Nat.le_of_ble_eq_true rfl) (by decide) ?_
            refine pw_iconst (v := 2) dX8_barredBy_65 (by decide) ?_
            refine pw_icmp_ne (tgt := 95) dX8_barredBy_66 (by decide) (fun c_66 => ?_) (fun c_66 => ?_)
            · refine pw_iinc (v := nI (k + 1)) dX8_barredBy_95 rfl (nI_add _ _) rfl ?_
              refine pw_goto (tgt := 9) dX8_barredBy_98 (by decide) ?_
              have hP : (mBarP (I (m + 1)) t kt at_) k = false := by simp only [Nat.add_zero] at c_30; simp only [Nat.add_zero] at c_45; simp [mBarP, nt, c_30, c_45, c_66]
              rw [fst_f hk hP] at hx
              exact ih _ _ hx
            · refine pw_iload dX8_barredBy_69 rfl ?_
              refine pw_if_eq (tgt := 95) dX8_barredBy_71 (by decide) (fun c_71 => ?_) (fun c_71 => ?_)
              · refine pw_iinc (v := nI (k + 1)) dX8_barredBy_95 rfl (nI_add _ _) rfl ?_
                refine pw_goto (tgt := 9) dX8_barredBy_98 (by decide) ?_
                exact absurd c_71 (by decide)
              · refine pw_aload_n dX8_barredBy_74 rfl rfl ?_
                refine pw_aload_n dX8_barredBy_75 rfl rfl ?_
                refine pw_iload_n dX8_barredBy_76 rfl rfl ?_
                refine pw_iconst (v := 3) dX8_barredBy_77 (by decide) ?_
                refine pe_callVi dX8_barredBy_78 oX_X8_ofTask lk_RX8_84 (sp_ofTask (a := t) (w := 3) h (by omega) (by omega)) (mo_k h) rfl rfl (Nat.le_of_ble_eq_true rfl) (by decide) ?_
                rw [hkd]
                refine pw_aload_n dX8_barredBy_81 rfl rfl ?_
                refine pw_iload_n dX8_barredBy_82 rfl rfl ?_
                refine pw_iconst (v := 3) dX8_barredBy_83 (by decide) ?_
                refine pe_callVi dX8_barredBy_84 oX_X8_ofTask lk_RX8_84 (sp_ofTask (a := k) (w := 3) h (by omega) (by omega)) (mo_k h) rfl rfl (Nat.le_of_ble_eq_true rfl) (by decide) ?_
                refine pe_callVi dX8_barredBy_87 oX_X8_bars lk_RX8_77 (sp_bars (k := kt) h (by omega)) (mo_k h) rfl rfl (Nat.le_of_ble_eq_true rfl) (by decide) ?_
                refine pw_ifB_eq (tgt := 95) dX8_barredBy_90 (by decide) (fun c_90 => ?_) (fun c_90 => ?_)
                · refine pw_iinc (v := nI (k + 1)) dX8_barredBy_95 rfl (nI_add _ _) rfl ?_
                  refine pw_goto (tgt := 9) dX8_barredBy_98 (by decide) ?_
                  have hP : (mBarP (I (m + 1)) t kt at_) k = false := by simp only [Nat.add_zero] at c_30; simp only [Nat.add_zero] at c_45; simp [mBarP, nt, c_30, c_45, c_66, c_90]
                  rw [fst_f hk hP] at hx
                  exact ih _ _ hx
                · refine pw_iload_n dX8_barredBy_93 rfl rfl ?_
                  exact pw_iret dX8_barredBy_94 rfl ⟨by rw [fst_t hk (by simp only [Nat.add_zero] at c_30; simp only [Nat.add_zero] at c_45; simp [mBarP, nt, c_30, c_45, c_66, c_90])] at hx; rw [← hx], rfl, rfl, rfl⟩
  refine pw_aload_n dX8_barredBy_0 rfl rfl ?_
  refine pw_iload_n dX8_barredBy_1 rfl rfl ?_
  refine pw_iconst (v := 0) dX8_barredBy_2 (by decide) ?_
  refine pe_callVi dX8_barredBy_3 oX_X8_ofTask lk_RX8_84 (sp_ofTask (a := t) (w := 0) h (by omega) (by omega)) (mo_k h) rfl rfl (Nat.le_of_ble_eq_true rfl) (by decide) ?_
  rw [hat]
  refine pw_istore_n dX8_barredBy_6 rfl (by decide) rfl ?_
  refine pw_iconst (v := 0) dX8_barredBy_7 (by decide) ?_
  refine pw_istore_n dX8_barredBy_8 rfl (by decide) rfl ?_
  exact L9 0 (Nat.zero_le _) _ _ rfl

set_option maxRecDepth 4000 in
theorem sp_reasonOf {σ : pT} {I : pI} {F : pF} {m n t kt at_ : Nat} (h : isMo σ m) (hn : I (m + 1) 3 = nI n) (hn4 : n ≤ 24) (hkd : I (m + 1) (251 + 10 * t + 3) = nI kt) (hk5 : kt < 5) (hat : I (m + 1) (251 + 10 * t + 0) = nI at_) (haA : at_ < 8) (ht : t < n) : PE yX8_reasonOf cX8_reasonOf mX8_reasonOf [.ref m, .int (nI t)] σ I F (some (.int (mReas (I (m + 1)) n t kt at_))) I F := by
  refine PE.of oP_X8_reasonOf (catOK rfl) (Nat.le_of_ble_eq_true rfl) ?_
  show PW _ _ _ 0 [.ref m, .int (nI t)] [] _ _ _ _
  refine pw_aload_n dX8_reasonOf_0 rfl rfl ?_
  refine pw_iload_n dX8_reasonOf_1 rfl rfl ?_
  refine pe_callVi dX8_reasonOf_2 oX_X8_stateOf lk_RX8_87 (sp_stateOf (a := t) h (by omega)) (mo_k h) rfl rfl (Nat.le_of_ble_eq_true rfl) (by decide) ?_
  refine pw_iconst (v := 1) dX8_reasonOf_5 (by decide) ?_
  refine pw_icmp_eq (tgt := 11) dX8_reasonOf_6 (by decide) (fun c_6 => ?_) (fun c_6 => ?_)
  · refine pw_aload_n dX8_reasonOf_11 rfl rfl ?_
    refine pw_getR (x := (m + 1)) dX8_reasonOf_12 fd_RX8_7 (by decide) (mo_k h) rfl (mo_r1 h) ?_
    refine pw_iconst (v := 0) dX8_reasonOf_15 (by decide) ?_
    refine pw_ialdN (j := 0) dX8_reasonOf_16 (mo_k1 h) (by omega) (by decide) ?_
    refine pw_aload_n dX8_reasonOf_17 rfl rfl ?_
    refine pw_iload_n dX8_reasonOf_18 rfl rfl ?_
    refine pw_iconst (v := 5) dX8_reasonOf_19 (by decide) ?_
    refine pe_callVi dX8_reasonOf_20 oX_X8_ofTask lk_RX8_84 (sp_ofTask (a := t) (w := 5) h (by omega) (by omega)) (mo_k h) rfl rfl (Nat.le_of_ble_eq_true rfl) (by decide) ?_
    refine pw_icmp_ge (tgt := 28) dX8_reasonOf_23 (by decide) (fun c_23 => ?_) (fun c_23 => ?_)
    · refine pw_aload_n dX8_reasonOf_28 rfl rfl ?_
      refine pw_iload_n dX8_reasonOf_29 rfl rfl ?_
      refine pe_callVi dX8_reasonOf_30 oX_X8_isTooLate lk_RX8_100 (sp_isTooLate (t := t) h (by omega)) (mo_k h) rfl rfl (Nat.le_of_ble_eq_true rfl) (by decide) ?_
      refine pw_ifB_eq (tgt := 38) dX8_reasonOf_33 (by decide) (fun c_33 => ?_) (fun c_33 => ?_)
      · refine pw_aload_n dX8_reasonOf_38 rfl rfl ?_
        refine pw_iload_n dX8_reasonOf_39 rfl rfl ?_
        refine pe_callVi dX8_reasonOf_40 oX_X8_barredBy lk_RX8_103 (sp_barredBy h hn hn4 hkd hk5 hat haA ht) (mo_k h) rfl rfl (Nat.le_of_ble_eq_true rfl) (by decide) ?_
        refine pw_bipush (v := (-5)) dX8_reasonOf_43 (by decide) ?_
        refine pw_icmp_ne (tgt := 52) dX8_reasonOf_45 (by decide) (fun c_45 => ?_) (fun c_45 => ?_)
        · refine pw_iconst (v := 4) dX8_reasonOf_52 (by decide) ?_
          exact pw_iret dX8_reasonOf_53 rfl ⟨by rw [mReas, if_pos c_6, if_neg (i_nlt' c_23), if_neg (of_decide_eq_false c_33), if_neg c_45], rfl, rfl, rfl⟩
        · refine pw_iconst (v := 0) dX8_reasonOf_48 (by decide) ?_
          refine pw_goto (tgt := 53) dX8_reasonOf_49 (by decide) ?_
          exact pw_iret dX8_reasonOf_53 rfl ⟨by rw [mReas, if_pos c_6, if_neg (i_nlt' c_23), if_neg (of_decide_eq_false c_33), if_pos c_45], rfl, rfl, rfl⟩
      · refine pw_iconst (v := 3) dX8_reasonOf_36 (by decide) ?_
        exact pw_iret dX8_reasonOf_37 rfl ⟨by rw [mReas, if_pos c_6, if_neg (i_nlt' c_23), if_pos (of_decide_eq_true c_33)], rfl, rfl, rfl⟩
    · refine pw_iconst (v := 2) dX8_reasonOf_26 (by decide) ?_
      exact pw_iret dX8_reasonOf_27 rfl ⟨by rw [mReas, if_pos c_6, if_pos (i_lt c_23)], rfl, rfl, rfl⟩
  · refine pw_iconst (v := 1) dX8_reasonOf_9 (by decide) ?_
    exact pw_iret dX8_reasonOf_10 rfl ⟨by rw [mReas, if_neg c_6], rfl, rfl, rfl⟩
