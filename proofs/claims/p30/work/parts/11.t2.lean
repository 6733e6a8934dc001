/-! counting, adding, looking for the first -/
def cntT (P : Nat → Bool) : Nat → Nat
  | 0 => 0
  | n + 1 => cntT P n + (if P n then 1 else 0)
def sumT (f : Nat → Int32) : Nat → Int32
  | 0 => 0
  | n + 1 => sumT f n + f n
/-- the first from k on, among so many; -5 if there is none -/
def fstT (P : Nat → Bool) : Nat → Nat → Int32
  | 0, _ => -5
  | r + 1, k => if P k then nI k else fstT P r (k + 1)
theorem cnt_t {P : Nat → Bool} {k : Nat} (h : P k = true) : cntT P (k + 1) = cntT P k + 1 := by simp [cntT, h]
theorem cnt_f {P : Nat → Bool} {k : Nat} (h : P k = false) : cntT P (k + 1) = cntT P k := by simp [cntT, h]
theorem sum_t {f : Nat → Int32} {k : Nat} {x : Int32} (h : f k = x) : sumT f (k + 1) = sumT f k + x := by simp [sumT, h]
theorem sum_0 {f : Nat → Int32} {k : Nat} (h : f k = 0) : sumT f (k + 1) = sumT f k := by simp [sumT, h]
theorem fst_t {P : Nat → Bool} {n k : Nat} (hk : k < n) (h : P k = true) : fstT P (n - k) k = nI k := by
  rw [show n - k = (n - (k + 1)) + 1 by omega]
  simp [fstT, h]
theorem fst_f {P : Nat → Bool} {n k : Nat} (hk : k < n) (h : P k = false) : fstT P (n - k) k = fstT P (n - (k + 1)) (k + 1) := by
  rw [show n - k = (n - (k + 1)) + 1 by omega]
  simp [fstT, h]
theorem fst_0 {P : Nat → Bool} {n : Nat} : fstT P (n - n) n = -5 := by simp [fstT]
theorem until_t {w b x : UInt32} {n k : Nat} (hk : k < n) (h : ¬ 0 ≤ Op.cmpValue (FP.fcmp x b) .g) : untilB w b (n - k) k x = nI k := by
  rw [show n - k = (n - (k + 1)) + 1 by omega]
  simp [untilB, h]
theorem until_f {w b x : UInt32} {n k : Nat} (hk : k < n) (h : 0 ≤ Op.cmpValue (FP.fcmp x b) .g) : untilB w b (n - k) k x = untilB w b (n - (k + 1)) (k + 1) (wornF w x) := by
  rw [show n - k = (n - (k + 1)) + 1 by omega]
  simp [untilB, h]
theorem until_0 {w b x : UInt32} {n : Nat} : untilB w b (n - n) n x = -5 := by simp [untilB]
theorem k_ge {x : Int32} {n : Nat} (h : x = nI n) : x ≤ nI n := by
  rw [h]
  exact Int32.le_refl _
theorem k_lt {x : Int32} {n k : Nat} (h : x = nI n) (hk : k < n) (hb : n < 2 ^ 31) : ¬ x ≤ nI k := by
  rw [h]
  exact nI_ge hk hb

set_option maxRecDepth 4000 in
theorem sp_hoursUntil {σ : pT} {I : pI} {F : pF} {q : Nat} {b : UInt32} (h : (σ.2.1 q).1 = 0 + 1) : PE yX0_hoursUntilBelow cX0_hoursUntilBelow mX0_hoursUntilBelow [.ref q, .float b] σ I F (some (.int (untilB (F q 1) b 201 0 (F q 2)))) I F := by
  refine PE.of oP_X0_hoursUntilBelow (catOK rfl) (Nat.le_of_ble_eq_true rfl) ?_
  show PW _ _ _ 0 [.ref q, .float b, pJ, pJ] [] _ _ _ _
  have L7 : ∀ k, k ≤ 201 → ∀ x : UInt32, untilB (F q 1) b (201 - k) k x = untilB (F q 1) b 201 0 (F q 2) → PW cX0_hoursUntilBelow mX0_hoursUntilBelow (fM (qE (some (.int (untilB (F q 1) b 201 0 (F q 2)))) σ I F)) 7 [.ref q, .float b, .float x, .int (nI k)] [] σ I F (0, 0) := by
    refine dn (fun k => ∀ x : UInt32, untilB (F q 1) b (201 - k) k x = untilB (F q 1) b 201 0 (F q 2) → PW cX0_hoursUntilBelow mX0_hoursUntilBelow (fM (qE (some (.int (untilB (F q 1) b 201 0 (F q 2)))) σ I F)) 7 [.ref q, .float b, .float x, .int (nI k)] [] σ I F (0, 0)) 201 ?_ ?_
    · intro x hx
      refine pw_iload_n dX0_hoursUntilBelow_7 rfl rfl ?_
      refine pw_sipush (v := 200) dX0_hoursUntilBelow_8 (by decide) ?_
      refine pw_icmp_gt (tgt := 34) dX0_hoursUntilBelow_11 (by decide) (fun c_11 => ?_) (fun c_11 => absurd (by decide) c_11)
      refine pw_bipush (v := (-5)) dX0_hoursUntilBelow_34 (by decide) ?_
      exact pw_iret dX0_hoursUntilBelow_36 rfl ⟨by rw [until_0] at hx; rw [← hx], rfl, rfl, rfl⟩
    · intro k hk ih
      intro x hx
      refine pw_iload_n dX0_hoursUntilBelow_7 rfl rfl ?_
      refine pw_sipush (v := 200) dX0_hoursUntilBelow_8 (by decide) ?_
      refine pw_icmp_gt (tgt := 34) dX0_hoursUntilBelow_11 (by decide) (fun c_11 => absurd c_11 (nI_nlt (a := 200) (by omega) (by omega))) (fun c_11 => ?_)
      refine pw_fload_n dX0_hoursUntilBelow_14 rfl rfl ?_
      refine pw_fload_n dX0_hoursUntilBelow_15 rfl rfl ?_
      refine pw_fcmp dX0_hoursUntilBelow_16 ?_
      refine pw_if_ge (tgt := 22) dX0_hoursUntilBelow_17 (by decide) (fun c_17 => ?_) (fun c_17 => ?_)
      · refine pw_aload_n dX0_hoursUntilBelow_22 rfl rfl ?_
        refine pw_fload_n dX0_hoursUntilBelow_23 rfl rfl ?_
        refine pe_callVf dX0_hoursUntilBelow_24 oX_X0_afterAnHour lk_RX0_33 (sp_afterAnHour h) h rfl rfl (Nat.le_of_ble_eq_true rfl) (by decide) ?_
        refine pw_fstore_n dX0_hoursUntilBelow_27 rfl (by decide) rfl ?_
        refine pw_iinc (v := nI (k + 1)) dX0_hoursUntilBelow_28 rfl (nI_add _ _) rfl ?_
        refine pw_goto (tgt := 7) dX0_hoursUntilBelow_31 (by decide) ?_
        exact ih _ (by rw [until_f hk c_17] at hx; exact hx)
      · refine pw_iload_n dX0_hoursUntilBelow_20 rfl rfl ?_
        exact pw_iret dX0_hoursUntilBelow_21 rfl ⟨by rw [until_t hk c_17] at hx; rw [← hx], rfl, rfl, rfl⟩
  refine pw_aload_n dX0_hoursUntilBelow_0 rfl rfl ?_
  refine pw_getF dX0_hoursUntilBelow_1 fd_RX0_19 (by decide) h rfl ?_
  refine pw_fstore_n dX0_hoursUntilBelow_4 rfl (by decide) rfl ?_
  refine pw_iconst (v := 0) dX0_hoursUntilBelow_5 (by decide) ?_
  refine pw_istore_n dX0_hoursUntilBelow_6 rfl (by decide) rfl ?_
  exact L7 0 (Nat.zero_le _) _ rfl

set_option maxRecDepth 4000 in
theorem sp_tasksOfAsset {σ : pT} {I : pI} {F : pF} {p n : Nat} {a f l : Int32} (h : isPl σ p) (hn : I p 6 = nI n) (hn4 : n ≤ 24)  : PE yX5_tasksOfAsset cX5_tasksOfAsset mX5_tasksOfAsset [.ref p, .int a, .int f, .int l] σ I F (some (.int (nI (cntT (fun t => decide (I (p + 18 + t) 0 = a) && decide (f ≤ I (p + 18 + t) 7 ∧ I (p + 18 + t) 7 ≤ l)) n)))) I F := by
  refine PE.of oP_X5_tasksOfAsset (catOK rfl) (Nat.le_of_ble_eq_true rfl) ?_
  show PW _ _ _ 0 [.ref p, .int a, .int f, .int l, pJ, pJ] [] _ _ _ _
  have L6 : ∀ k, k ≤ n → PW cX5_tasksOfAsset mX5_tasksOfAsset (fM (qE (some (.int (nI (cntT (fun t => decide (I (p + 18 + t) 0 = a) && decide (f ≤ I (p + 18 + t) 7 ∧ I (p + 18 + t) 7 ≤ l)) n)))) σ I F)) 6 [.ref p, .int a, .int f, .int l, .int (nI (cntT (fun t => decide (I (p + 18 + t) 0 = a) && decide (f ≤ I (p + 18 + t) 7 ∧ I (p + 18 + t) 7 ≤ l)) k)), .int (nI k)] [] σ I F (0, 0) := by
    refine dn (fun k => PW cX5_tasksOfAsset mX5_tasksOfAsset (fM (qE (some (.int (nI (cntT (fun t => decide (I (p + 18 + t) 0 = a) && decide (f ≤ I (p + 18 + t) 7 ∧ I (p + 18 + t) 7 ≤ l)) n)))) σ I F)) 6 [.ref p, .int a, .int f, .int l, .int (nI (cntT (fun t => decide (I (p + 18 + t) 0 = a) && decide (f ≤ I (p + 18 + t) 7 ∧ I (p + 18 + t) 7 ≤ l)) k)), .int (nI k)] [] σ I F (0, 0)) n ?_ ?_
    · skip
      refine pw_iload dX5_tasksOfAsset_6 rfl ?_
      refine pw_aload_n dX5_tasksOfAsset_8 rfl rfl ?_
      refine pw_getI dX5_tasksOfAsset_9 fd_RX5_40 (by decide) (pl_k h) rfl ?_
      refine pw_icmp_ge (tgt := 53) dX5_tasksOfAsset_12 (by decide) (fun c_12 => ?_) (fun c_12 => absurd (k_ge hn) c_12)
      refine pw_iload dX5_tasksOfAsset_53 rfl ?_
      exact pw_iret dX5_tasksOfAsset_55 rfl ⟨rfl, rfl, rfl, rfl⟩
    · intro k hk ih
      refine pw_iload dX5_tasksOfAsset_6 rfl ?_
      refine pw_aload_n dX5_tasksOfAsset_8 rfl rfl ?_
      refine pw_getI dX5_tasksOfAsset_9 fd_RX5_40 (by decide) (pl_k h) rfl ?_
      refine pw_icmp_ge (tgt := 53) dX5_tasksOfAsset_12 (by decide) (fun c_12 => absurd c_12 (k_lt hn hk (by omega))) (fun c_12 => ?_)
      refine pw_aload_n dX5_tasksOfAsset_15 rfl rfl ?_
      refine pw_getR (x := (p + 3)) dX5_tasksOfAsset_16 fd_RX5_25 (by decide) (pl_k h) rfl (pl_rT h) ?_
      refine pw_iload dX5_tasksOfAsset_19 rfl ?_
      refine pw_aaldN (j := k) (x := (p + 18 + k)) dX5_tasksOfAsset_21 (pl_kT h) (by omega) (by decide) (by decide) (pl_eT h (by omega)) ?_
      refine pw_getI dX5_tasksOfAsset_22 fd_RX5_111 (by decide) (pl_oT h (by omega)) rfl ?_
      refine pw_iload_n dX5_tasksOfAsset_25 rfl rfl ?_
      refine pw_icmp_ne (tgt := 47) dX5_tasksOfAsset_26 (by decide) (fun c_26 => ?_) (fun c_26 => ?_)
      · refine pw_iinc (v := nI (k + 1)) dX5_tasksOfAsset_47 rfl (nI_add _ _) rfl ?_
        refine pw_goto (tgt := 6) dX5_tasksOfAsset_50 (by decide) ?_
        have hP : (fun t => decide (I (p + 18 + t) 0 = a) && decide (f ≤ I (p + 18 + t) 7 ∧ I (p + 18 + t) 7 ≤ l)) k = false := by simp [c_26]
        rw [cnt_f hP] at ih
        exact ih
      · refine pw_aload_n dX5_tasksOfAsset_29 rfl rfl ?_
        refine pw_getR (x := (p + 3)) dX5_tasksOfAsset_30 fd_RX5_25 (by decide) (pl_k h) rfl (pl_rT h) ?_
        refine pw_iload dX5_tasksOfAsset_33 rfl ?_
        refine pw_aaldN (j := k) (x := (p + 18 + k)) dX5_tasksOfAsset_35 (pl_kT h) (by omega) (by decide) (by decide) (pl_eT h (by omega)) ?_
        refine pw_iload_n dX5_tasksOfAsset_36 rfl rfl ?_
        refine pw_iload_n dX5_tasksOfAsset_37 rfl rfl ?_
        refine pe_callVi dX5_tasksOfAsset_38 oX_X6_isIn lk_RX5_162 (sp_T_isIn (pl_oT h (by omega))) (pl_oT h (by omega)) rfl rfl (Nat.le_of_ble_eq_true rfl) (by decide) ?_
        refine pw_ifB_eq (tgt := 47) dX5_tasksOfAsset_41 (by decide) (fun c_41 => ?_) (fun c_41 => ?_)
        · refine pw_iinc (v := nI (k + 1)) dX5_tasksOfAsset_47 rfl (nI_add _ _) rfl ?_
          refine pw_goto (tgt := 6) dX5_tasksOfAsset_50 (by decide) ?_
          have hP : (fun t => decide (I (p + 18 + t) 0 = a) && decide (f ≤ I (p + 18 + t) 7 ∧ I (p + 18 + t) 7 ≤ l)) k = false := by simp [c_26, c_41]
          rw [cnt_f hP] at ih
          exact ih
        · refine pw_iinc (v := nI ((cntT (fun t => decide (I (p + 18 + t) 0 = a) && decide (f ≤ I (p + 18 + t) 7 ∧ I (p + 18 + t) 7 ≤ l)) k) + 1)) dX5_tasksOfAsset_44 rfl (nI_add _ _) rfl ?_
          refine pw_iinc (v := nI (k + 1)) dX5_tasksOfAsset_47 rfl (nI_add _ _) rfl ?_
          refine pw_goto (tgt := 6) dX5_tasksOfAsset_50 (by decide) ?_
          have hP : (fun t => decide (I (p + 18 + t) 0 = a) && decide (f ≤ I (p + 18 + t) 7 ∧ I (p + 18 + t) 7 ≤ l)) k = true := by simp [c_26, c_41]
          rw [cnt_t hP] at ih
          exact ih
  refine pw_iconst (v := 0) dX5_tasksOfAsset_0 (by decide) ?_
  refine pw_istore dX5_tasksOfAsset_1 (by decide) rfl ?_
  refine pw_iconst (v := 0) dX5_tasksOfAsset_3 (by decide) ?_
  refine pw_istore dX5_tasksOfAsset_4 (by decide) rfl ?_
  exact L6 0 (Nat.zero_le _)

set_option maxRecDepth 4000 in
theorem sp_tasksOfCrew {σ : pT} {I : pI} {F : pF} {p n : Nat} {a f l : Int32} (h : isPl σ p) (hn : I p 6 = nI n) (hn4 : n ≤ 24)  : PE yX5_tasksOfCrew cX5_tasksOfCrew mX5_tasksOfCrew [.ref p, .int a, .int f, .int l] σ I F (some (.int (nI (cntT (fun t => decide (I (p + 18 + t) 8 = a) && decide (f ≤ I (p + 18 + t) 7 ∧ I (p + 18 + t) 7 ≤ l)) n)))) I F := by
  refine PE.of oP_X5_tasksOfCrew (catOK rfl) (Nat.le_of_ble_eq_true rfl) ?_
  show PW _ _ _ 0 [.ref p, .int a, .int f, .int l, pJ, pJ] [] _ _ _ _
  have L6 : ∀ k, k ≤ n → PW cX5_tasksOfCrew mX5_tasksOfCrew (fM (qE (some (.int (nI (cntT (fun t => decide (I (p + 18 + t) 8 = a) && decide (f ≤ I (p + 18 + t) 7 ∧ I (p + 18 + t) 7 ≤ l)) n)))) σ I F)) 6 [.ref p, .int a, .int f, .int l, .int (nI (cntT (fun t => decide (I (p + 18 + t) 8 = a) && decide (f ≤ I (p + 18 + t) 7 ∧ I (p + 18 + t) 7 ≤ l)) k)), .int (nI k)] [] σ I F (0, 0) := by
    refine dn (fun k => PW cX5_tasksOfCrew mX5_tasksOfCrew (fM (qE (some (.int (nI (cntT (fun t => decide (I (p + 18 + t) 8 = a) && decide (f ≤ I (p + 18 + t) 7 ∧ I (p + 18 + t) 7 ≤ l)) n)))) σ I F)) 6 [.ref p, .int a, .int f, .int l, .int (nI (cntT (fun t => decide (I (p + 18 + t) 8 = a) && decide (f ≤ I (p + 18 + t) 7 ∧ I (p + 18 + t) 7 ≤ l)) k)), .int (nI k)] [] σ I F (0, 0)) n ?_ ?_
    · skip
      refine pw_iload dX5_tasksOfCrew_6 rfl ?_
      refine pw_aload_n dX5_tasksOfCrew_8 rfl rfl ?_
      refine pw_getI dX5_tasksOfCrew_9 fd_RX5_40 (by decide) (pl_k h) rfl ?_
      refine pw_icmp_ge (tgt := 53) dX5_tasksOfCrew_12 (by decide) (fun c_12 => ?_) (fun c_12 => absurd (k_ge hn) c_12)
      refine pw_iload dX5_tasksOfCrew_53 rfl ?_
      exact pw_iret dX5_tasksOfCrew_55 rfl ⟨rfl, rfl, rfl, rfl⟩
    · intro k hk ih
      refine pw_iload dX5_tasksOfCrew_6 rfl ?_
      refine pw_aload_n dX5_tasksOfCrew_8 rfl rfl ?_
      refine pw_getI dX5_tasksOfCrew_9 fd_RX5_40 (by decide) (pl_k h) rfl ?_
      refine pw_icmp_ge (tgt := 53) dX5_tasksOfCrew_12 (by decide) (fun c_12 => absurd c_12 (k_lt hn hk (by omega))) (fun c_12 => ?_)
      refine pw_aload_n dX5_tasksOfCrew_15 rfl rfl ?_
      refine pw_getR (x := (p + 3)) dX5_tasksOfCrew_16 fd_RX5_25 (by decide) (pl_k h) rfl (pl_rT h) ?_
      refine pw_iload dX5_tasksOfCrew_19 rfl ?_
      refine pw_aaldN (j := k) (x := (p + 18 + k)) dX5_tasksOfCrew_21 (pl_kT h) (by omega) (by decide) (by decide) (pl_eT h (by omega)) ?_
      refine pw_getI dX5_tasksOfCrew_22 fd_RX5_124 (by decide) (pl_oT h (by omega)) rfl ?_
      refine pw_iload_n dX5_tasksOfCrew_25 rfl rfl ?_
      refine pw_icmp_ne (tgt := 47) dX5_tasksOfCrew_26 (by decide) (fun c_26 => ?_) (fun c_26 => ?_)
      · refine pw_iinc (v := nI (k + 1)) dX5_tasksOfCrew_47 rfl (nI_add _ _) rfl ?_
        refine pw_goto (tgt := 6) dX5_tasksOfCrew_50 (by decide) ?_
        have hP : (fun t => decide (I (p + 18 + t) 8 = a) && decide (f ≤ I (p + 18 + t) 7 ∧ I (p + 18 + t) 7 ≤ l)) k = false := by simp [c_26]
        rw [cnt_f hP] at ih
        exact ih
      · refine pw_aload_n dX5_tasksOfCrew_29 rfl rfl ?_
        refine pw_getR (x := (p + 3)) dX5_tasksOfCrew_30 fd_RX5_25 (by decide) (pl_k h) rfl (pl_rT h) ?_
        refine pw_iload dX5_tasksOfCrew_33 rfl ?_
        refine pw_aaldN (j := k) (x := (p + 18 + k)) dX5_tasksOfCrew_35 (pl_kT h) (by omega) (by decide) (by decide) (pl_eT h (by omega)) ?_
        refine pw_iload_n dX5_tasksOfCrew_36 rfl rfl ?_
        refine pw_iload_n dX5_tasksOfCrew_37 rfl rfl ?_
        refine pe_callVi dX5_tasksOfCrew_38 oX_X6_isIn lk_RX5_162 (sp_T_isIn (pl_oT h (by omega))) (pl_oT h (by omega)) rfl rfl (Nat.le_of_ble_eq_true rfl) (by decide) ?_
        refine pw_ifB_eq (tgt := 47) dX5_tasksOfCrew_41 (by decide) (fun c_41 => ?_) (fun c_41 => ?_)
        · refine pw_iinc (v := nI (k + 1)) dX5_tasksOfCrew_47 rfl (nI_add _ _) rfl ?_
          refine pw_goto (tgt := 6) dX5_tasksOfCrew_50 (by decide) ?_
          have hP : (fun t => decide (I (p + 18 + t) 8 = a) && decide (f ≤ I (p + 18 + t) 7 ∧ I (p + 18 + t) 7 ≤ l)) k = false := by simp [c_26, c_41]
          rw [cnt_f hP] at ih
          exact ih
        · refine pw_iinc (v := nI ((cntT (fun t => decide (I (p + 18 + t) 8 = a) && decide (f ≤ I (p + 18 + t) 7 ∧ I (p + 18 + t) 7 ≤ l)) k) + 1)) dX5_tasksOfCrew_44 rfl (nI_add _ _) rfl ?_
          refine pw_iinc (v := nI (k + 1)) dX5_tasksOfCrew_47 rfl (nI_add _ _) rfl ?_
          refine pw_goto (tgt := 6) dX5_tasksOfCrew_50 (by decide) ?_
          have hP : (fun t => decide (I (p + 18 + t) 8 = a) && decide (f ≤ I (p + 18 + t) 7 ∧ I (p + 18 + t) 7 ≤ l)) k = true := by simp [c_26, c_41]
          rw [cnt_t hP] at ih
          exact ih
  refine pw_iconst (v := 0) dX5_tasksOfCrew_0 (by decide) ?_
  refine pw_istore dX5_tasksOfCrew_1 (by decide) rfl ?_
  refine pw_iconst (v := 0) dX5_tasksOfCrew_3 (by decide) ?_
  refine pw_istore dX5_tasksOfCrew_4 (by decide) rfl ?_
  exact L6 0 (Nat.zero_le _)

set_option maxRecDepth 4000 in
theorem sp_tasksIn {σ : pT} {I : pI} {F : pF} {p n : Nat} {f l : Int32} (h : isPl σ p) (hn : I p 6 = nI n) (hn4 : n ≤ 24)  : PE yX5_tasksIn cX5_tasksIn mX5_tasksIn [.ref p, .int f, .int l] σ I F (some (.int (nI (cntT (fun t => decide (f ≤ I (p + 18 + t) 7 ∧ I (p + 18 + t) 7 ≤ l)) n)))) I F := by
  refine PE.of oP_X5_tasksIn (catOK rfl) (Nat.le_of_ble_eq_true rfl) ?_
  show PW _ _ _ 0 [.ref p, .int f, .int l, pJ, pJ] [] _ _ _ _
  have L5 : ∀ k, k ≤ n → PW cX5_tasksIn mX5_tasksIn (fM (qE (some (.int (nI (cntT (fun t => decide (f ≤ I (p + 18 + t) 7 ∧ I (p + 18 + t) 7 ≤ l)) n)))) σ I F)) 5 [.ref p, .int f, .int l, .int (nI (cntT (fun t => decide (f ≤ I (p + 18 + t) 7 ∧ I (p + 18 + t) 7 ≤ l)) k)), .int (nI k)] [] σ I F (0, 0) := by
    refine dn (fun k => PW cX5_tasksIn mX5_tasksIn (fM (qE (some (.int (nI (cntT (fun t => decide (f ≤ I (p + 18 + t) 7 ∧ I (p + 18 + t) 7 ≤ l)) n)))) σ I F)) 5 [.ref p, .int f, .int l, .int (nI (cntT (fun t => decide (f ≤ I (p + 18 + t) 7 ∧ I (p + 18 + t) 7 ≤ l)) k)), .int (nI k)] [] σ I F (0, 0)) n ?_ ?_
    · skip
      refine pw_iload dX5_tasksIn_5 rfl ?_
      refine pw_aload_n dX5_tasksIn_7 rfl rfl ?_
      refine pw_getI dX5_tasksIn_8 fd_RX5_40 (by decide) (pl_k h) rfl ?_
      refine pw_icmp_ge (tgt := 38) dX5_tasksIn_11 (by decide) (fun c_11 => ?_) (fun c_11 => absurd (k_ge hn) c_11)
      refine pw_iload_n dX5_tasksIn_38 rfl rfl ?_
      exact pw_iret dX5_tasksIn_39 rfl ⟨rfl, rfl, rfl, rfl⟩
    · intro k hk ih
      refine pw_iload dX5_tasksIn_5 rfl ?_
      refine pw_aload_n dX5_tasksIn_7 rfl rfl ?_
      refine pw_getI dX5_tasksIn_8 fd_RX5_40 (by decide) (pl_k h) rfl ?_
      refine pw_icmp_ge (tgt := 38) dX5_tasksIn_11 (by decide) (fun c_11 => absurd c_11 (k_lt hn hk (by omega))) (fun c_11 => ?_)
      refine pw_aload_n dX5_tasksIn_14 rfl rfl ?_
      refine pw_getR (x := (p + 3)) dX5_tasksIn_15 fd_RX5_25 (by decide) (pl_k h) rfl (pl_rT h) ?_
      refine pw_iload dX5_tasksIn_18 rfl ?_
      refine pw_aaldN (j := k) (x := (p + 18 + k)) dX5_tasksIn_20 (pl_kT h) (by omega) (by decide) (by decide) (pl_eT h (by omega)) ?_
      refine pw_iload_n dX5_tasksIn_21 rfl rfl ?_
      refine pw_iload_n dX5_tasksIn_22 rfl rfl ?_
      refine pe_callVi dX5_tasksIn_23 oX_X6_isIn lk_RX5_162 (sp_T_isIn (pl_oT h (by omega))) (pl_oT h (by omega)) rfl rfl (Nat.le_of_ble_eq_true rfl) (by decide) ?_
      refine pw_ifB_eq (tgt := 32) dX5_tasksIn_26 (by decide) (fun c_26 => ?_) (fun c_26 => ?_)
      · refine pw_iinc (v := nI (k + 1)) dX5_tasksIn_32 rfl (nI_add _ _) rfl ?_
        refine pw_goto (tgt := 5) dX5_tasksIn_35 (by decide) ?_
        have hP : (fun t => decide (f ≤ I (p + 18 + t) 7 ∧ I (p + 18 + t) 7 ≤ l)) k = false := by simp [c_26]
        rw [cnt_f hP] at ih
        exact ih
      · refine pw_iinc (v := nI ((cntT (fun t => decide (f ≤ I (p + 18 + t) 7 ∧ I (p + 18 + t) 7 ≤ l)) k) + 1)) dX5_tasksIn_29 rfl (nI_add _ _) rfl ?_
        refine pw_iinc (v := nI (k + 1)) dX5_tasksIn_32 rfl (nI_add _ _) rfl ?_
        refine pw_goto (tgt := 5) dX5_tasksIn_35 (by decide) ?_
        have hP : (fun t => decide (f ≤ I (p + 18 + t) 7 ∧ I (p + 18 + t) 7 ≤ l)) k = true := by simp [c_26]
        rw [cnt_t hP] at ih
        exact ih
  refine pw_iconst (v := 0) dX5_tasksIn_0 (by decide) ?_
  refine pw_istore_n dX5_tasksIn_1 rfl (by decide) rfl ?_
  refine pw_iconst (v := 0) dX5_tasksIn_2 (by decide) ?_
  refine pw_istore dX5_tasksIn_3 (by decide) rfl ?_
  exact L5 0 (Nat.zero_le _)

set_option maxRecDepth 4000 in
theorem sp_assetsRunning {σ : pT} {I : pI} {F : pF} {p n : Nat} (h : isPl σ p) (hn : I p 4 = nI n) (hn8 : n ≤ 8) : PE yX5_assetsRunning cX5_assetsRunning mX5_assetsRunning [.ref p] σ I F (some (.int (nI (cntT (fun a => decide (¬ I (p + 5 + a) 4 = 0)) n)))) I F := by
  refine PE.of oP_X5_assetsRunning (catOK rfl) (Nat.le_of_ble_eq_true rfl) ?_
  show PW _ _ _ 0 [.ref p, pJ, pJ] [] _ _ _ _
  have L4 : ∀ k, k ≤ n → PW cX5_assetsRunning mX5_assetsRunning (fM (qE (some (.int (nI (cntT (fun a => decide (¬ I (p + 5 + a) 4 = 0)) n)))) σ I F)) 4 [.ref p, .int (nI (cntT (fun a => decide (¬ I (p + 5 + a) 4 = 0)) k)), .int (nI k)] [] σ I F (0, 0) := by
    refine dn (fun k => PW cX5_assetsRunning mX5_assetsRunning (fM (qE (some (.int (nI (cntT (fun a => decide (¬ I (p + 5 + a) 4 = 0)) n)))) σ I F)) 4 [.ref p, .int (nI (cntT (fun a => decide (¬ I (p + 5 + a) 4 = 0)) k)), .int (nI k)] [] σ I F (0, 0)) n ?_ ?_
    · skip
      refine pw_iload_n dX5_assetsRunning_4 rfl rfl ?_
      refine pw_aload_n dX5_assetsRunning_5 rfl rfl ?_
      refine pw_getI dX5_assetsRunning_6 fd_RX5_33 (by decide) (pl_k h) rfl ?_
      refine pw_icmp_ge (tgt := 33) dX5_assetsRunning_9 (by decide) (fun c_9 => ?_) (fun c_9 => absurd (k_ge hn) c_9)
      refine pw_iload_n dX5_assetsRunning_33 rfl rfl ?_
      exact pw_iret dX5_assetsRunning_34 rfl ⟨rfl, rfl, rfl, rfl⟩
    · intro k hk ih
      refine pw_iload_n dX5_assetsRunning_4 rfl rfl ?_
      refine pw_aload_n dX5_assetsRunning_5 rfl rfl ?_
      refine pw_getI dX5_assetsRunning_6 fd_RX5_33 (by decide) (pl_k h) rfl ?_
      refine pw_icmp_ge (tgt := 33) dX5_assetsRunning_9 (by decide) (fun c_9 => absurd c_9 (k_lt hn hk (by omega))) (fun c_9 => ?_)
      refine pw_aload_n dX5_assetsRunning_12 rfl rfl ?_
      refine pw_getR (x := (p + 1)) dX5_assetsRunning_13 fd_RX5_11 (by decide) (pl_k h) rfl (pl_rA h) ?_
      refine pw_iload_n dX5_assetsRunning_16 rfl rfl ?_
      refine pw_aaldN (j := k) (x := (p + 5 + k)) dX5_assetsRunning_17 (pl_kA h) (by omega) (by decide) (by decide) (pl_eA h (by omega)) ?_
      refine pw_getI dX5_assetsRunning_18 fd_RX5_94 (by decide) (pl_oA h (by omega)) rfl ?_
      refine pw_if_eq (tgt := 27) dX5_assetsRunning_21 (by decide) (fun c_21 => ?_) (fun c_21 => ?_)
      · refine pw_iinc (v := nI (k + 1)) dX5_assetsRunning_27 rfl (nI_add _ _) rfl ?_
        refine pw_goto (tgt := 4) dX5_assetsRunning_30 (by decide) ?_
        have hP : (fun a => decide (¬ I (p + 5 + a) 4 = 0)) k = false := by simp [c_21]
        rw [cnt_f hP] at ih
        exact ih
      · refine pw_iinc (v := nI ((cntT (fun a => decide (¬ I (p + 5 + a) 4 = 0)) k) + 1)) dX5_assetsRunning_24 rfl (nI_add _ _) rfl ?_
        refine pw_iinc (v := nI (k + 1)) dX5_assetsRunning_27 rfl (nI_add _ _) rfl ?_
        refine pw_goto (tgt := 4) dX5_assetsRunning_30 (by decide) ?_
        have hP : (fun a => decide (¬ I (p + 5 + a) 4 = 0)) k = true := by simp [c_21]
        rw [cnt_t hP] at ih
        exact ih
  refine pw_iconst (v := 0) dX5_assetsRunning_0 (by decide) ?_
  refine pw_istore_n dX5_assetsRunning_1 rfl (by decide) rfl ?_
  refine pw_iconst (v := 0) dX5_assetsRunning_2 (by decide) ?_
  refine pw_istore_n dX5_assetsRunning_3 rfl (by decide) rfl ?_
  exact L4 0 (Nat.zero_le _)

set_option maxRecDepth 4000 in
theorem sp_busyPeople {σ : pT} {I : pI} {F : pF} {p n : Nat} {a : Int32} (h : isPl σ p) (hn : I p 6 = nI n) (hn4 : n ≤ 24)  : PE yX5_busyPeople cX5_busyPeople mX5_busyPeople [.ref p, .int a] σ I F (some (.int (sumT (fun t => if (decide (I (p + 18 + t) 8 = a) && decide (1 ≤ I (p + 18 + t) 7 ∧ I (p + 18 + t) 7 ≤ 3)) = true then I (p + 18 + t) 2 else 0) n))) I F := by
  refine PE.of oP_X5_busyPeople (catOK rfl) (Nat.le_of_ble_eq_true rfl) ?_
  show PW _ _ _ 0 [.ref p, .int a, pJ, pJ] [] _ _ _ _
  have L4 : ∀ k, k ≤ n → PW cX5_busyPeople mX5_busyPeople (fM (qE (some (.int (sumT (fun t => if (decide (I (p + 18 + t) 8 = a) && decide (1 ≤ I (p + 18 + t) 7 ∧ I (p + 18 + t) 7 ≤ 3)) = true then I (p + 18 + t) 2 else 0) n))) σ I F)) 4 [.ref p, .int a, .int (sumT (fun t => if (decide (I (p + 18 + t) 8 = a) && decide (1 ≤ I (p + 18 + t) 7 ∧ I (p + 18 + t) 7 ≤ 3)) = true then I (p + 18 + t) 2 else 0) k), .int (nI k)] [] σ I F (0, 0) := by
    refine dn (fun k => PW cX5_busyPeople mX5_busyPeople (fM (qE (some (.int (sumT (fun t => if (decide (I (p + 18 + t) 8 = a) && decide (1 ≤ I (p + 18 + t) 7 ∧ I (p + 18 + t) 7 ≤ 3)) = true then I (p + 18 + t) 2 else 0) n))) σ I F)) 4 [.ref p, .int a, .int (sumT (fun t => if (decide (I (p + 18 + t) 8 = a) && decide (1 ≤ I (p + 18 + t) 7 ∧ I (p + 18 + t) 7 ≤ 3)) = true then I (p + 18 + t) 2 else 0) k), .int (nI k)] [] σ I F (0, 0)) n ?_ ?_
    · skip
      refine pw_iload_n dX5_busyPeople_4 rfl rfl ?_
      refine pw_aload_n dX5_busyPeople_5 rfl rfl ?_
      refine pw_getI dX5_busyPeople_6 fd_RX5_40 (by decide) (pl_k h) rfl ?_
      refine pw_icmp_ge (tgt := 55) dX5_busyPeople_9 (by decide) (fun c_9 => ?_) (fun c_9 => absurd (k_ge hn) c_9)
      refine pw_iload_n dX5_busyPeople_55 rfl rfl ?_
      exact pw_iret dX5_busyPeople_56 rfl ⟨rfl, rfl, rfl, rfl⟩
    · intro k hk ih
      refine pw_iload_n dX5_busyPeople_4 rfl rfl ?_
      refine pw_aload_n dX5_busyPeople_5 rfl rfl ?_
      refine pw_getI dX5_busyPeople_6 fd_RX5_40 (by decide) (pl_k h) rfl ?_
      refine pw_icmp_ge (tgt := 55) dX5_busyPeople_9 (by decide) (fun c_9 => absurd c_9 (k_lt hn hk (by omega))) (fun c_9 => ?_)
      refine pw_aload_n dX5_busyPeople_12 rfl rfl ?_
      refine pw_getR (x := (p + 3)) dX5_busyPeople_13 fd_RX5_25 (by decide) (pl_k h) rfl (pl_rT h) ?_
      refine pw_iload_n dX5_busyPeople_16 rfl rfl ?_
      refine pw_aaldN (j := k) (x := (p + 18 + k)) dX5_busyPeople_17 (pl_kT h) (by omega) (by decide) (by decide) (pl_eT h (by omega)) ?_
      refine pw_getI dX5_busyPeople_18 fd_RX5_124 (by decide) (pl_oT h (by omega)) rfl ?_
      refine pw_iload_n dX5_busyPeople_21 rfl rfl ?_
      refine pw_icmp_ne (tgt := 49) dX5_busyPeople_22 (by decide) (fun c_22 => ?_) (fun c_22 => ?_)
      · refine pw_iinc (v := nI (k + 1)) dX5_busyPeople_49 rfl (nI_add _ _) rfl ?_
        refine pw_goto (tgt := 4) dX5_busyPeople_52 (by decide) ?_
        have hP : (fun t => if (decide (I (p + 18 + t) 8 = a) && decide (1 ≤ I (p + 18 + t) 7 ∧ I (p + 18 + t) 7 ≤ 3)) = true then I (p + 18 + t) 2 else 0) k = 0 := by simp [c_22]
        rw [sum_0 hP] at ih
        exact ih
      · refine pw_aload_n dX5_busyPeople_25 rfl rfl ?_
        refine pw_getR (x := (p + 3)) dX5_busyPeople_26 fd_RX5_25 (by decide) (pl_k h) rfl (pl_rT h) ?_
        refine pw_iload_n dX5_busyPeople_29 rfl rfl ?_
        refine pw_aaldN (j := k) (x := (p + 18 + k)) dX5_busyPeople_30 (pl_kT h) (by omega) (by decide) (by decide) (pl_eT h (by omega)) ?_
        refine pe_callVi dX5_busyPeople_31 oX_X6_tagHangs lk_RX5_200 (sp_T_tagHangs (pl_oT h (by omega))) (pl_oT h (by omega)) rfl rfl (Nat.le_of_ble_eq_true rfl) (by decide) ?_
        refine pw_ifB_eq (tgt := 49) dX5_busyPeople_34 (by decide) (fun c_34 => ?_) (fun c_34 => ?_)
        · refine pw_iinc (v := nI (k + 1)) dX5_busyPeople_49 rfl (nI_add _ _) rfl ?_
          refine pw_goto (tgt := 4) dX5_busyPeople_52 (by decide) ?_
          have hP : (fun t => if (decide (I (p + 18 + t) 8 = a) && decide (1 ≤ I (p + 18 + t) 7 ∧ I (p + 18 + t) 7 ≤ 3)) = true then I (p + 18 + t) 2 else 0) k = 0 := by simp [c_22, c_34]
          rw [sum_0 hP] at ih
          exact ih
        · refine pw_iload_n dX5_busyPeople_37 rfl rfl ?_
          refine pw_aload_n dX5_busyPeople_38 rfl rfl ?_
          refine pw_getR (x := (p + 3)) dX5_busyPeople_39 fd_RX5_25 (by decide) (pl_k h) rfl (pl_rT h) ?_
          refine pw_iload_n dX5_busyPeople_42 rfl rfl ?_
          refine pw_aaldN (j := k) (x := (p + 18 + k)) dX5_busyPeople_43 (pl_kT h) (by omega) (by decide) (by decide) (pl_eT h (by omega)) ?_
          refine pw_getI dX5_busyPeople_44 fd_RX5_195 (by decide) (pl_oT h (by omega)) rfl ?_
          refine pw_iadd dX5_busyPeople_47 ?_
          refine pw_istore_n dX5_busyPeople_48 rfl (by decide) rfl ?_
          refine pw_iinc (v := nI (k + 1)) dX5_busyPeople_49 rfl (nI_add _ _) rfl ?_
          refine pw_goto (tgt := 4) dX5_busyPeople_52 (by decide) ?_
          have hP : (fun t => if (decide (I (p + 18 + t) 8 = a) && decide (1 ≤ I (p + 18 + t) 7 ∧ I (p + 18 + t) 7 ≤ 3)) = true then I (p + 18 + t) 2 else 0) k = I (p + 18 + k) 2 := by simp [c_22, c_34]
          rw [sum_t hP] at ih
          exact ih
  refine pw_iconst (v := 0) dX5_busyPeople_0 (by decide) ?_
  refine pw_istore_n dX5_busyPeople_1 rfl (by decide) rfl ?_
  refine pw_iconst (v := 0) dX5_busyPeople_2 (by decide) ?_
  refine pw_istore_n dX5_busyPeople_3 rfl (by decide) rfl ?_
  exact L4 0 (Nat.zero_le _)

set_option maxRecDepth 4000 in
theorem sp_allBusyPeople {σ : pT} {I : pI} {F : pF} {p n : Nat} (h : isPl σ p) (hn : I p 6 = nI n) (hn4 : n ≤ 24)  : PE yX5_allBusyPeople cX5_allBusyPeople mX5_allBusyPeople [.ref p] σ I F (some (.int (sumT (fun t => if decide (1 ≤ I (p + 18 + t) 7 ∧ I (p + 18 + t) 7 ≤ 3) = true then I (p + 18 + t) 2 else 0) n))) I F := by
  refine PE.of oP_X5_allBusyPeople (catOK rfl) (Nat.le_of_ble_eq_true rfl) ?_
  show PW _ _ _ 0 [.ref p, pJ, pJ] [] _ _ _ _
  have L4 : ∀ k, k ≤ n → PW cX5_allBusyPeople mX5_allBusyPeople (fM (qE (some (.int (sumT (fun t => if decide (1 ≤ I (p + 18 + t) 7 ∧ I (p + 18 + t) 7 ≤ 3) = true then I (p + 18 + t) 2 else 0) n))) σ I F)) 4 [.ref p, .int (sumT (fun t => if decide (1 ≤ I (p + 18 + t) 7 ∧ I (p + 18 + t) 7 ≤ 3) = true then I (p + 18 + t) 2 else 0) k), .int (nI k)] [] σ I F (0, 0) := by
    refine dn (fun k => PW cX5_allBusyPeople mX5_allBusyPeople (fM (qE (some (.int (sumT (fun t => if decide (1 ≤ I (p + 18 + t) 7 ∧ I (p + 18 + t) 7 ≤ 3) = true then I (p + 18 + t) 2 else 0) n))) σ I F)) 4 [.ref p, .int (sumT (fun t => if decide (1 ≤ I (p + 18 + t) 7 ∧ I (p + 18 + t) 7 ≤ 3) = true then I (p + 18 + t) 2 else 0) k), .int (nI k)] [] σ I F (0, 0)) n ?_ ?_
    · skip
      refine pw_iload_n dX5_allBusyPeople_4 rfl rfl ?_
      refine pw_aload_n dX5_allBusyPeople_5 rfl rfl ?_
      refine pw_getI dX5_allBusyPeople_6 fd_RX5_40 (by decide) (pl_k h) rfl ?_
      refine pw_icmp_ge (tgt := 42) dX5_allBusyPeople_9 (by decide) (fun c_9 => ?_) (fun c_9 => absurd (k_ge hn) c_9)
      refine pw_iload_n dX5_allBusyPeople_42 rfl rfl ?_
      exact pw_iret dX5_allBusyPeople_43 rfl ⟨rfl, rfl, rfl, rfl⟩
    · intro k hk ih
      refine pw_iload_n dX5_allBusyPeople_4 rfl rfl ?_
      refine pw_aload_n dX5_allBusyPeople_5 rfl rfl ?_
      refine pw_getI dX5_allBusyPeople_6 fd_RX5_40 (by decide) (pl_k h) rfl ?_
      refine pw_icmp_ge (tgt := 42) dX5_allBusyPeople_9 (by decide) (fun c_9 => absurd c_9 (k_lt hn hk (by omega))) (fun c_9 => ?_)
      refine pw_aload_n dX5_allBusyPeople_12 rfl rfl ?_
      refine pw_getR (x := (p + 3)) dX5_allBusyPeople_13 fd_RX5_25 (by decide) (pl_k h) rfl (pl_rT h) ?_
      refine pw_iload_n dX5_allBusyPeople_16 rfl rfl ?_
      refine pw_aaldN (j := k) (x := (p + 18 + k)) dX5_allBusyPeople_17 (pl_kT h) (by omega) (by decide) (by decide) (pl_eT h (by omega)) ?_
      refine pe_callVi dX5_allBusyPeople_18 oX_X6_tagHangs lk_RX5_200 (sp_T_tagHangs (pl_oT h (by omega))) (pl_oT h (by omega)) rfl rfl (Nat.le_of_ble_eq_true rfl) (by decide) ?_
      refine pw_ifB_eq (tgt := 36) dX5_allBusyPeople_21 (by decide) (fun c_21 => ?_) (fun c_21 => ?_)
      · refine pw_iinc (v := nI (k + 1)) dX5_allBusyPeople_36 rfl (nI_add _ _) rfl ?_
        refine pw_goto (tgt := 4) dX5_allBusyPeople_39 (by decide) ?_
        have hP : (fun t => if decide (1 ≤ I (p + 18 + t) 7 ∧ I (p + 18 + t) 7 ≤ 3) = true then I (p + 18 + t) 2 else 0) k = 0 := by simp [c_21]
        rw [sum_0 hP] at ih
        exact ih
      · refine pw_iload_n dX5_allBusyPeople_24 rfl rfl ?_
        refine pw_aload_n dX5_allBusyPeople_25 rfl rfl ?_
        refine pw_getR (x := (p + 3)) dX5_allBusyPeople_26 fd_RX5_25 (by decide) (pl_k h) rfl (pl_rT h) ?_
        refine pw_iload_n dX5_allBusyPeople_29 rfl rfl ?_
        refine pw_aaldN (j := k) (x := (p + 18 + k)) dX5_allBusyPeople_30 (pl_kT h) (by omega) (by decide) (by decide) (pl_eT h (by omega)) ?_
        refine pw_getI dX5_allBusyPeople_31 fd_RX5_195 (by decide) (pl_oT h (by omega)) rfl ?_
        refine pw_iadd dX5_allBusyPeople_34 ?_
        refine pw_istore_n dX5_allBusyPeople_35 rfl (by decide) rfl ?_
        refine pw_iinc (v := nI (k + 1)) dX5_allBusyPeople_36 rfl (nI_add _ _) rfl ?_
        refine pw_goto (tgt := 4) dX5_allBusyPeople_39 (by decide) ?_
        have hP : (fun t => if decide (1 ≤ I (p + 18 + t) 7 ∧ I (p + 18 + t) 7 ≤ 3) = true then I (p + 18 + t) 2 else 0) k = I (p + 18 + k) 2 := by simp [c_21]
        rw [sum_t hP] at ih
        exact ih
  refine pw_iconst (v := 0) dX5_allBusyPeople_0 (by decide) ?_
  refine pw_istore_n dX5_allBusyPeople_1 rfl (by decide) rfl ?_
  refine pw_iconst (v := 0) dX5_allBusyPeople_2 (by decide) ?_
  refine pw_istore_n dX5_allBusyPeople_3 rfl (by decide) rfl ?_
  exact L4 0 (Nat.zero_le _)

set_option maxRecDepth 4000 in
theorem sp_slipsSoFar {σ : pT} {I : pI} {F : pF} {p n : Nat} (h : isPl σ p) (hn : I p 6 = nI n) (hn4 : n ≤ 24)  : PE yX5_slipsSoFar cX5_slipsSoFar mX5_slipsSoFar [.ref p] σ I F (some (.int (sumT (fun t => I (p + 18 + t) 10) n))) I F := by
  refine PE.of oP_X5_slipsSoFar (catOK rfl) (Nat.le_of_ble_eq_true rfl) ?_
  show PW _ _ _ 0 [.ref p, pJ, pJ] [] _ _ _ _
  have L4 : ∀ k, k ≤ n → PW cX5_slipsSoFar mX5_slipsSoFar (fM (qE (some (.int (sumT (fun t => I (p + 18 + t) 10) n))) σ I F)) 4 [.ref p, .int (sumT (fun t => I (p + 18 + t) 10) k), .int (nI k)] [] σ I F (0, 0) := by
    refine dn (fun k => PW cX5_slipsSoFar mX5_slipsSoFar (fM (qE (some (.int (sumT (fun t => I (p + 18 + t) 10) n))) σ I F)) 4 [.ref p, .int (sumT (fun t => I (p + 18 + t) 10) k), .int (nI k)] [] σ I F (0, 0)) n ?_ ?_
    · skip
      refine pw_iload_n dX5_slipsSoFar_4 rfl rfl ?_
      refine pw_aload_n dX5_slipsSoFar_5 rfl rfl ?_
      refine pw_getI dX5_slipsSoFar_6 fd_RX5_40 (by decide) (pl_k h) rfl ?_
      refine pw_icmp_ge (tgt := 30) dX5_slipsSoFar_9 (by decide) (fun c_9 => ?_) (fun c_9 => absurd (k_ge hn) c_9)
      refine pw_iload_n dX5_slipsSoFar_30 rfl rfl ?_
      exact pw_iret dX5_slipsSoFar_31 rfl ⟨rfl, rfl, rfl, rfl⟩
    · intro k hk ih
      refine pw_iload_n dX5_slipsSoFar_4 rfl rfl ?_
      refine pw_aload_n dX5_slipsSoFar_5 rfl rfl ?_
      refine pw_getI dX5_slipsSoFar_6 fd_RX5_40 (by decide) (pl_k h) rfl ?_
      refine pw_icmp_ge (tgt := 30) dX5_slipsSoFar_9 (by decide) (fun c_9 => absurd c_9 (k_lt hn hk (by omega))) (fun c_9 => ?_)
      refine pw_iload_n dX5_slipsSoFar_12 rfl rfl ?_
      refine pw_aload_n dX5_slipsSoFar_13 rfl rfl ?_
      refine pw_getR (x := (p + 3)) dX5_slipsSoFar_14 fd_RX5_25 (by decide) (pl_k h) rfl (pl_rT h) ?_
      refine pw_iload_n dX5_slipsSoFar_17 rfl rfl ?_
      refine pw_aaldN (j := k) (x := (p + 18 + k)) dX5_slipsSoFar_18 (pl_kT h) (by omega) (by decide) (by decide) (pl_eT h (by omega)) ?_
      refine pw_getI dX5_slipsSoFar_19 fd_RX5_140 (by decide) (pl_oT h (by omega)) rfl ?_
      refine pw_iadd dX5_slipsSoFar_22 ?_
      refine pw_istore_n dX5_slipsSoFar_23 rfl (by decide) rfl ?_
      refine pw_iinc (v := nI (k + 1)) dX5_slipsSoFar_24 rfl (nI_add _ _) rfl ?_
      refine pw_goto (tgt := 4) dX5_slipsSoFar_27 (by decide) ?_
      exact ih
  refine pw_iconst (v := 0) dX5_slipsSoFar_0 (by decide) ?_
  refine pw_istore_n dX5_slipsSoFar_1 rfl (by decide) rfl ?_
  refine pw_iconst (v := 0) dX5_slipsSoFar_2 (by decide) ?_
  refine pw_istore_n dX5_slipsSoFar_3 rfl (by decide) rfl ?_
  exact L4 0 (Nat.zero_le _)

