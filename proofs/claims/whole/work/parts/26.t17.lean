/-! the model's work -/
def mRunC (N : Nat → Int32) (nA : Nat) : Int32 := sumT (fun a => N (4 + 5 * a + 2)) nA
def mRunE (N : Nat → Int32) (a : Int32) : Int32 := if 0 ≤ a ∧ a < N 1 then (if N (4 + 5 * a.toNatClampNeg + 4) ≤ 0 then (if N (4 + 5 * a.toNatClampNeg + 2) = 1 then -5 else 0) else -4) else -1
def mStopE (N : Nat → Int32) (a : Int32) : Int32 := if 0 ≤ a ∧ a < N 1 then (if N (4 + 5 * a.toNatClampNeg + 2) = 0 then -5 else 0) else -1
def mGoesR (I : pI) (F : pF) (m nA : Nat) (a r : Int32) : Int32 × pI × pF := (mRunC (up2 I (m + 1) (4 + 5 * a.toNatClampNeg + 2) r (m + 1)) nA, up2 I (m + 1) (4 + 5 * a.toNatClampNeg + 2) r, F)
def mTop (N : Nat → Int32) (a : Nat) : Int32 := if N (4 + 5 * a + 4) = 0 then -5 else N (44 + 24 * a + (N (4 + 5 * a + 4)).toNatClampNeg - 1)
def mAt (N : Nat → Int32) (t : Nat) : Nat := (N (251 + 10 * t + 0)).toNatClampNeg
def mKd (N : Nat → Int32) (t : Nat) : Nat := (N (251 + 10 * t + 3)).toNatClampNeg
def mHangE (N : Nat → Int32) (n : Nat) (a c : Int32) : Int32 := if (0 ≤ a ∧ a < N 3) ∧ (0 ≤ c ∧ c < N 2) then
    (if N (251 + 10 * a.toNatClampNeg + 6) = 0 ∧ N (4 + 5 * mAt N a.toNatClampNeg + 2) = 0 ∧ mServe N n a.toNatClampNeg c.toNatClampNeg = true then 0 else -4) else -1
def mHangI (I : pI) (m t a g : Nat) (c : Int32) : pI := up2 (up2 (up2 (up2 I (m + 1) (44 + 24 * a + g) (nI t)) (m + 1) (4 + 5 * a + 4) (nI (g + 1))) (m + 1) (251 + 10 * t + 6) 1) (m + 1) (251 + 10 * t + 7) c
def mHangR (I : pI) (F : pF) (m : Nat) (a c : Int32) : Int32 × pI × pF :=
  (nI ((I (m + 1) (4 + 5 * mAt (I (m + 1)) a.toNatClampNeg + 4)).toNatClampNeg + 1), mHangI I m a.toNatClampNeg (mAt (I (m + 1)) a.toNatClampNeg) (I (m + 1) (4 + 5 * mAt (I (m + 1)) a.toNatClampNeg + 4)).toNatClampNeg c, F)
def mBeginE (N : Nat → Int32) (n : Nat) (a : Int32) : Int32 := if 0 ≤ a ∧ a < N 3 then (if mReas N n a.toNatClampNeg (mKd N a.toNatClampNeg) (mAt N a.toNatClampNeg) = 0 then 0 else -4) else -1
def mBeginR (I : pI) (F : pF) (m : Nat) (a : Int32) : Int32 × pI × pF :=
  (I (m + 1) 0 + I (m + 1) (251 + 10 * a.toNatClampNeg + 4), up2 (up2 I (m + 1) (251 + 10 * a.toNatClampNeg + 6) 2) (m + 1) (251 + 10 * a.toNatClampNeg + 8) (I (m + 1) (251 + 10 * a.toNatClampNeg + 4)), F)
def mLiftE (N : Nat → Int32) (a c : Int32) : Int32 := if (0 ≤ a ∧ a < N 3) ∧ (0 ≤ c ∧ c < N 2) then
    (if (N (251 + 10 * a.toNatClampNeg + 6) = 1 ∨ N (251 + 10 * a.toNatClampNeg + 6) = 3) ∧ N (251 + 10 * a.toNatClampNeg + 7) = c ∧ mTop N (mAt N a.toNatClampNeg) = a then 0 else -4) else -1
def mLiftI (I : pI) (m t a : Nat) : pI := if I (m + 1) (251 + 10 * t + 6) = 3 then up2 (up2 I (m + 1) (4 + 5 * a + 4) (I (m + 1) (4 + 5 * a + 4) - 1)) (m + 1) (251 + 10 * t + 6) 4 else up2 (up2 (up2 I (m + 1) (4 + 5 * a + 4) (I (m + 1) (4 + 5 * a + 4) - 1)) (m + 1) (251 + 10 * t + 6) 0) (m + 1) (251 + 10 * t + 7) (-5)
def mLiftR (I : pI) (F : pF) (m : Nat) (a : Int32) : Int32 × pI × pF :=
  (I (m + 1) (4 + 5 * mAt (I (m + 1)) a.toNatClampNeg + 4) - 1, mLiftI I m a.toNatClampNeg (mAt (I (m + 1)) a.toNatClampNeg), F)
def mWear (N : Nat → Int32) (a : Nat) : UInt32 := FP.fdiv (FP.i2f (N (4 + 5 * a + 1))) 1148846080
def mMend (F : pF) (m a : Nat) : pF := up2 F (m + 2) a (FP.fadd (F (m + 2) a) (FP.fmul (FP.fsub 1065353216 (F (m + 2) a)) 1061158912))
def mRunOne (I : pI) (m a : Nat) (F : pF) : pF := up2 (up2 F (m + 3) a (FP.fadd (F (m + 3) a) (FP.fmul (FP.i2f (I (m + 1) (4 + 5 * a + 0))) (F (m + 2) a)))) (m + 2) a (wornF (mWear (I (m + 1)) a) (F (m + 2) a))
def mRunN (I : pI) (m : Nat) : Nat → pF → pF
  | 0, F => F
  | k + 1, F => if I (m + 1) (4 + 5 * k + 2) = 1 then mRunOne I m k (mRunN I m k F) else mRunN I m k F
theorem mRun_t {I : pI} {m k : Nat} {F : pF} (h : I (m + 1) (4 + 5 * k + 2) = 1) : mRunN I m (k + 1) F = mRunOne I m k (mRunN I m k F) := by rw [mRunN, if_pos h]
theorem mRun_f {I : pI} {m k : Nat} {F : pF} (h : ¬ I (m + 1) (4 + 5 * k + 2) = 1) : mRunN I m (k + 1) F = mRunN I m k F := by rw [mRunN, if_neg h]
def mSlipI (I : pI) (m t : Nat) : pI := if I (m + 1) (251 + 10 * t + 6) = 0 ∧ 3 ≤ I (m + 1) (251 + 10 * t + 9) then up2 I (m + 1) (251 + 10 * t + 6) 5 else up2 (up2 I (m + 1) (251 + 10 * t + 5) (I (m + 1) (251 + 10 * t + 5) + 24)) (m + 1) (251 + 10 * t + 9) (I (m + 1) (251 + 10 * t + 9) + 1)
def mWk1 (m k : Nat) (W : pI × pF × Nat) : pI × pF × Nat :=
  if W.1 (m + 1) (251 + 10 * k + 6) = 2 then
    if W.1 (m + 1) (251 + 10 * k + 8) - 1 = 0 then (up2 (up2 W.1 (m + 1) (251 + 10 * k + 8) (W.1 (m + 1) (251 + 10 * k + 8) - 1)) (m + 1) (251 + 10 * k + 6) 3, mMend W.2.1 m (mAt (W.1 (m + 1)) k), W.2.2 + 1)
    else (up2 W.1 (m + 1) (251 + 10 * k + 8) (W.1 (m + 1) (251 + 10 * k + 8) - 1), W.2.1, W.2.2)
  else W
def mWkN (m : Nat) : Nat → pI → pF → pI × pF × Nat
  | 0, I, F => (I, F, 0)
  | k + 1, I, F => mWk1 m k (mWkN m k I F)
theorem mWk1_n {m k : Nat} {W : pI × pF × Nat} (h : ¬ W.1 (m + 1) (251 + 10 * k + 6) = 2) : mWk1 m k W = W := by rw [mWk1, if_neg h]
theorem mWk1_a {m k : Nat} {I : pI} {F : pF} {c : Nat} (h : I (m + 1) (251 + 10 * k + 6) = 2) (h2 : ¬ I (m + 1) (251 + 10 * k + 8) - 1 = 0) : mWk1 m k (I, F, c) = (up2 I (m + 1) (251 + 10 * k + 8) (I (m + 1) (251 + 10 * k + 8) - 1), F, c) := by
  have h : ((I, F, c) : pI × pF × Nat).1 (m + 1) (251 + 10 * k + 6) = 2 := h
  rw [mWk1, if_pos h, if_neg h2]
theorem mWk1_b {m k a : Nat} {I : pI} {F : pF} {c : Nat} (h : I (m + 1) (251 + 10 * k + 6) = 2) (h2 : I (m + 1) (251 + 10 * k + 8) - 1 = 0) (ha : I (m + 1) (251 + 10 * k + 0) = nI a) (ha3 : a < 8) : mWk1 m k (I, F, c) = (up2 (up2 I (m + 1) (251 + 10 * k + 8) (I (m + 1) (251 + 10 * k + 8) - 1)) (m + 1) (251 + 10 * k + 6) 3, mMend F m a, c + 1) := by
  have h : ((I, F, c) : pI × pF × Nat).1 (m + 1) (251 + 10 * k + 6) = 2 := h
  rw [mWk1, if_pos h, if_pos h2]
  simp only [mAt, ha, nI_clamp (show a < 2 ^ 31 by omega)]
theorem mWk1_fr {m k : Nat} {W : pI × pF × Nat} {i j : Nat} (h : i ≠ m + 1 ∨ (j ≠ 251 + 10 * k + 6 ∧ j ≠ 251 + 10 * k + 8)) : (mWk1 m k W).1 i j = W.1 i j := by
  unfold mWk1
  split
  · split
    · show up2 (up2 W.1 _ _ _) _ _ _ i j = _
      rw [up2_n (by omega), up2_n (by omega)]
    · exact up2_n (by omega)
  · rfl
theorem mWkN_fr {m : Nat} {I : pI} {F : pF} {i j : Nat} (h : i ≠ m + 1 ∨ j < 251 ∨ j % 10 = 1 ∨ j % 10 = 4) : ∀ (n : Nat), (mWkN m n I F).1 i j = I i j
  | 0 => rfl
  | k + 1 => (mWk1_fr (by omega)).trans (mWkN_fr h k)
def mSl1 (m k : Nat) (I : pI) : pI := if (0 ≤ I (m + 1) (251 + 10 * k + 6) ∧ I (m + 1) (251 + 10 * k + 6) ≤ 1) ∧ mEnd (I (m + 1)) k < I (m + 1) 0 + I (m + 1) (251 + 10 * k + 4) then mSlipI I m k else I
def mSlN (m : Nat) : Nat → pI → pI
  | 0, I => I
  | k + 1, I => mSl1 m k (mSlN m k I)
theorem mSlip_fr {m k i j : Nat} {I : pI} (h : i ≠ m + 1 ∨ (j ≠ 251 + 10 * k + 5 ∧ j ≠ 251 + 10 * k + 6 ∧ j ≠ 251 + 10 * k + 9)) : mSlipI I m k i j = I i j := by
  unfold mSlipI
  split
  · exact up2_n (by omega)
  · rw [up2_n (by omega), up2_n (by omega)]
theorem mSl1_fr {m k i j : Nat} {I : pI} (h : i ≠ m + 1 ∨ (j ≠ 251 + 10 * k + 5 ∧ j ≠ 251 + 10 * k + 6 ∧ j ≠ 251 + 10 * k + 9)) : mSl1 m k I i j = I i j := by
  unfold mSl1
  split
  · exact mSlip_fr h
  · rfl
theorem mSlN_fr {m i j : Nat} {I : pI} (h : i ≠ m + 1 ∨ j < 251 ∨ j % 10 = 1 ∨ j % 10 = 4) : ∀ n, mSlN m n I i j = I i j
  | 0 => rfl
  | k + 1 => (mSl1_fr (by omega)).trans (mSlN_fr h k)
/-- an hour -/
def mHr (m nA n : Nat) (W : pI × pF × Nat) : pI × pF × Nat :=
  (mSlN m n (up2 (mWkN m n W.1 (mRunN W.1 m nA W.2.1)).1 (m + 1) 0 ((mWkN m n W.1 (mRunN W.1 m nA W.2.1)).1 (m + 1) 0 + 1)), (mWkN m n W.1 (mRunN W.1 m nA W.2.1)).2.1, W.2.2 + (mWkN m n W.1 (mRunN W.1 m nA W.2.1)).2.2)
def mPsN (m nA n : Nat) : Nat → pI → pF → pI × pF × Nat
  | 0, I, F => (I, F, 0)
  | k + 1, I, F => mHr m nA n (mPsN m nA n k I F)
theorem mHr_fr {m nA n i j : Nat} {W : pI × pF × Nat} (h : i ≠ m + 1 ∨ (0 < j ∧ j < 251) ∨ j % 10 = 1 ∧ 251 ≤ j) : (mHr m nA n W).1 i j = W.1 i j := by
  show mSlN m n (up2 _ (m + 1) 0 _) i j = _
  rw [mSlN_fr (by omega), up2_n (by omega), mWkN_fr (by omega)]
theorem mPsN_fr {m nA n i j : Nat} {I : pI} {F : pF} (h : i ≠ m + 1 ∨ (0 < j ∧ j < 251) ∨ j % 10 = 1 ∧ 251 ≤ j) : ∀ k, (mPsN m nA n k I F).1 i j = I i j
  | 0 => rfl
  | k + 1 => (mHr_fr h).trans (mPsN_fr h k)
def mPassE (N : Nat → Int32) (x : Int32) : Int32 := if 1 ≤ x ∧ x ≤ 48 then (if N 0 + x ≤ 2000 then 0 else -4) else -2
def mPassR (I : pI) (F : pF) (m nA n : Nat) (x : Int32) : Int32 × pI × pF := (nI (mPsN m nA n x.toNatClampNeg I F).2.2, (mPsN m nA n x.toNatClampNeg I F).1, (mPsN m nA n x.toNatClampNeg I F).2.1)

set_option maxRecDepth 4000 in
theorem sp_m_running {σ : pT} {I : pI} {F : pF} {m nA : Nat} (h : isMo σ m) (hA : I (m + 1) 1 = nI nA) (hA8 : nA ≤ 8)  : PE yX8_running cX8_running mX8_running [.ref m] σ I F (some (.int (mRunC (I (m + 1)) nA))) I F := by
  refine PE.of oP_X8_running (catOK rfl) (Nat.le_of_ble_eq_true rfl) ?_
  show PW _ _ _ 0 [.ref m, pJ, pJ] [] _ _ _ _
  have L4 : ∀ k, k ≤ nA → PW cX8_running mX8_running (fM (qE (some (.int (mRunC (I (m + 1)) nA))) σ I F)) 4 [.ref m, .int (sumT (fun a => I (m + 1) (4 + 5 * a + 2)) k), .int (nI k)] [] σ I F (0, 0) := by
    refine dn (fun k => PW cX8_running mX8_running (fM (qE (some (.int (mRunC (I (m + 1)) nA))) σ I F)) 4 [.ref m, .int (sumT (fun a => I (m + 1) (4 + 5 * a + 2)) k), .int (nI k)] [] σ I F (0, 0)) nA ?_ ?_
    · skip
      refine pw_iload_n dX8_running_4 rfl rfl ?_
      refine pw_aload_n dX8_running_5 rfl rfl ?_
      refine pw_getR (x := (m + 1)) dX8_running_6 fd_RX8_7 (by decide) (mo_k h) rfl (mo_r1 h) ?_
      refine pw_iconst (v := 1) dX8_running_9 (by decide) ?_
      refine pw_ialdN (j := 1) dX8_running_10 (mo_k1 h) (by omega) (by decide) ?_
      refine pw_icmp_ge (tgt := 29) dX8_running_11 (by decide) (fun c_11 => ?_) (fun c_11 => absurd (k_ge hA) c_11)
      refine pw_iload_n dX8_running_29 rfl rfl ?_
      exact pw_iret dX8_running_30 rfl ⟨rfl, rfl, rfl, rfl⟩
    · intro k hk ih
      refine pw_iload_n dX8_running_4 rfl rfl ?_
      refine pw_aload_n dX8_running_5 rfl rfl ?_
      refine pw_getR (x := (m + 1)) dX8_running_6 fd_RX8_7 (by decide) (mo_k h) rfl (mo_r1 h) ?_
      refine pw_iconst (v := 1) dX8_running_9 (by decide) ?_
      refine pw_ialdN (j := 1) dX8_running_10 (mo_k1 h) (by omega) (by decide) ?_
      refine pw_icmp_ge (tgt := 29) dX8_running_11 (by decide) (fun c_11 => absurd c_11 (k_lt hA hk (by omega))) (fun c_11 => ?_)
      refine pw_iload_n dX8_running_14 rfl rfl ?_
      refine pw_aload_n dX8_running_15 rfl rfl ?_
      refine pw_iload_n dX8_running_16 rfl rfl ?_
      refine pw_iconst (v := 2) dX8_running_17 (by decide) ?_
      refine pe_callVi dX8_running_18 oX_X8_of lk_RX8_69 (sp_of (a := k) (w := 2) h (by omega) (by omega)) (mo_k h) rfl rfl (Nat.le_of_ble_eq_true rfl) (by decide) ?_
      refine pw_iadd dX8_running_21 ?_
      refine pw_istore_n dX8_running_22 rfl (by decide) rfl ?_
      refine pw_iinc (v := nI (k + 1)) dX8_running_23 rfl (nI_add _ _) rfl ?_
      refine pw_goto (tgt := 4) dX8_running_26 (by decide) ?_
      exact ih
  refine pw_iconst (v := 0) dX8_running_0 (by decide) ?_
  refine pw_istore_n dX8_running_1 rfl (by decide) rfl ?_
  refine pw_iconst (v := 0) dX8_running_2 (by decide) ?_
  refine pw_istore_n dX8_running_3 rfl (by decide) rfl ?_
  exact L4 0 (Nat.zero_le _)

set_option maxRecDepth 4000 in
theorem sp_runError {σ : pT} {I : pI} {F : pF} {m nA : Nat} {a : Int32} (h : isMo σ m) (hA : I (m + 1) 1 = nI nA) (hA8 : nA ≤ 8)  : PE yX8_runError cX8_runError mX8_runError [.ref m, .int a] σ I F (some (.int (mRunE (I (m + 1)) a))) I F := by
  refine PE.of oP_X8_runError (catOK rfl) (Nat.le_of_ble_eq_true rfl) ?_
  show PW _ _ _ 0 [.ref m, .int a] [] _ _ _ _
  refine pw_aload_n dX8_runError_0 rfl rfl ?_
  refine pw_iload_n dX8_runError_1 rfl rfl ?_
  refine pe_callVi dX8_runError_2 oX_X8_isAsset lk_RX8_65 (sp_isAsset h hA hA8) (mo_k h) rfl rfl (Nat.le_of_ble_eq_true rfl) (by decide) ?_
  refine pw_ifB_ne (tgt := 10) dX8_runError_5 (by decide) (fun c_5 => ?_) (fun c_5 => ?_)
  · obtain ⟨i, hi, rfl⟩ := has_nat c_5 hA (by omega)
    refine pw_aload_n dX8_runError_10 rfl rfl ?_
    refine pw_iload_n dX8_runError_11 rfl rfl ?_
    refine pw_iconst (v := 4) dX8_runError_12 (by decide) ?_
    refine pe_callVi dX8_runError_13 oX_X8_of lk_RX8_69 (sp_of (a := i) (w := 4) h (by omega) (by omega)) (mo_k h) rfl rfl (Nat.le_of_ble_eq_true rfl) (by decide) ?_
    refine pw_if_le (tgt := 22) dX8_runError_16 (by decide) (fun c_16 => ?_) (fun c_16 => ?_)
    · refine pw_aload_n dX8_runError_22 rfl rfl ?_
      refine pw_iload_n dX8_runError_23 rfl rfl ?_
      refine pw_iconst (v := 2) dX8_runError_24 (by decide) ?_
      refine pe_callVi dX8_runError_25 oX_X8_of lk_RX8_69 (sp_of (a := i) (w := 2) h (by omega) (by omega)) (mo_k h) rfl rfl (Nat.le_of_ble_eq_true rfl) (by decide) ?_
      refine pw_iconst (v := 1) dX8_runError_28 (by decide) ?_
      refine pw_icmp_ne (tgt := 37) dX8_runError_29 (by decide) (fun c_29 => ?_) (fun c_29 => ?_)
      · refine pw_iconst (v := 0) dX8_runError_37 (by decide) ?_
        exact pw_iret dX8_runError_38 rfl ⟨by rw [mRunE, if_pos (of_decide_eq_true c_5), nI_clamp (show i < 2 ^ 31 by omega), if_pos c_16, if_neg c_29], rfl, rfl, rfl⟩
      · refine pw_bipush (v := (-5)) dX8_runError_32 (by decide) ?_
        refine pw_goto (tgt := 38) dX8_runError_34 (by decide) ?_
        exact pw_iret dX8_runError_38 rfl ⟨by rw [mRunE, if_pos (of_decide_eq_true c_5), nI_clamp (show i < 2 ^ 31 by omega), if_pos c_16, if_pos c_29], rfl, rfl, rfl⟩
    · refine pw_bipush (v := (-4)) dX8_runError_19 (by decide) ?_
      exact pw_iret dX8_runError_21 rfl ⟨by rw [mRunE, if_pos (of_decide_eq_true c_5), nI_clamp (show i < 2 ^ 31 by omega), if_neg c_16], rfl, rfl, rfl⟩
  · refine pw_iconst (v := (-1)) dX8_runError_8 (by decide) ?_
    exact pw_iret dX8_runError_9 rfl ⟨by rw [mRunE, if_neg (of_decide_eq_false c_5)], rfl, rfl, rfl⟩

set_option maxRecDepth 4000 in
theorem sp_stopError {σ : pT} {I : pI} {F : pF} {m nA : Nat} {a : Int32} (h : isMo σ m) (hA : I (m + 1) 1 = nI nA) (hA8 : nA ≤ 8)  : PE yX8_stopError cX8_stopError mX8_stopError [.ref m, .int a] σ I F (some (.int (mStopE (I (m + 1)) a))) I F := by
  refine PE.of oP_X8_stopError (catOK rfl) (Nat.le_of_ble_eq_true rfl) ?_
  show PW _ _ _ 0 [.ref m, .int a] [] _ _ _ _
  refine pw_aload_n dX8_stopError_0 rfl rfl ?_
  refine pw_iload_n dX8_stopError_1 rfl rfl ?_
  refine pe_callVi dX8_stopError_2 oX_X8_isAsset lk_RX8_65 (sp_isAsset h hA hA8) (mo_k h) rfl rfl (Nat.le_of_ble_eq_true rfl) (by decide) ?_
  refine pw_ifB_ne (tgt := 10) dX8_stopError_5 (by decide) (fun c_5 => ?_) (fun c_5 => ?_)
  · obtain ⟨i, hi, rfl⟩ := has_nat c_5 hA (by omega)
    refine pw_aload_n dX8_stopError_10 rfl rfl ?_
    refine pw_iload_n dX8_stopError_11 rfl rfl ?_
    refine pw_iconst (v := 2) dX8_stopError_12 (by decide) ?_
    refine pe_callVi dX8_stopError_13 oX_X8_of lk_RX8_69 (sp_of (a := i) (w := 2) h (by omega) (by omega)) (mo_k h) rfl rfl (Nat.le_of_ble_eq_true rfl) (by decide) ?_
    refine pw_if_ne (tgt := 24) dX8_stopError_16 (by decide) (fun c_16 => ?_) (fun c_16 => ?_)
    · refine pw_iconst (v := 0) dX8_stopError_24 (by decide) ?_
      exact pw_iret dX8_stopError_25 rfl ⟨by rw [mStopE, if_pos (of_decide_eq_true c_5), nI_clamp (show i < 2 ^ 31 by omega), if_neg c_16], rfl, rfl, rfl⟩
    · refine pw_bipush (v := (-5)) dX8_stopError_19 (by decide) ?_
      refine pw_goto (tgt := 25) dX8_stopError_21 (by decide) ?_
      exact pw_iret dX8_stopError_25 rfl ⟨by rw [mStopE, if_pos (of_decide_eq_true c_5), nI_clamp (show i < 2 ^ 31 by omega), if_pos c_16], rfl, rfl, rfl⟩
  · refine pw_iconst (v := (-1)) dX8_stopError_8 (by decide) ?_
    exact pw_iret dX8_stopError_9 rfl ⟨by rw [mStopE, if_neg (of_decide_eq_false c_5)], rfl, rfl, rfl⟩

set_option maxRecDepth 4000 in
theorem sp_goes {σ : pT} {I : pI} {F : pF} {m nA a : Nat} {r : Int32} (h : isMo σ m) (hA : I (m + 1) 1 = nI nA) (hA8 : nA ≤ 8) (ha : a < nA) : PE yX8_goes cX8_goes mX8_goes [.ref m, .int (nI a), .int r] σ I F (some (.int (mGoesR I F m nA (nI a) r).1)) (mGoesR I F m nA (nI a) r).2.1 (mGoesR I F m nA (nI a) r).2.2 := by
  refine PE.of oP_X8_goes (catOK rfl) (Nat.le_of_ble_eq_true rfl) ?_
  show PW _ _ _ 0 [.ref m, .int (nI a), .int r] [] _ _ _ _
  refine pw_aload_n dX8_goes_0 rfl rfl ?_
  refine pw_iload_n dX8_goes_1 rfl rfl ?_
  refine pw_iconst (v := 2) dX8_goes_2 (by decide) ?_
  refine pw_iload_n dX8_goes_3 rfl rfl ?_
  refine pe_callVv dX8_goes_4 oX_X8_sets lk_RX8_61 (sp_sets (a := a) (w := 2) h (by omega) (by omega)) (mo_k h) rfl rfl (Nat.le_of_ble_eq_true rfl) (by decide) ?_
  refine pw_aload_n dX8_goes_7 rfl rfl ?_
  refine pe_callVi dX8_goes_8 oX_X8_running lk_RX8_106 (sp_m_running h ((up2_nj (by omega)).trans hA) hA8) (mo_k h) rfl rfl (Nat.le_of_ble_eq_true rfl) (by decide) ?_
  exact pw_iret dX8_goes_11 rfl (rL (by rw [mGoesR, nI_clamp (show a < 2 ^ 31 by omega)]))

set_option maxRecDepth 4000 in
theorem sp_hangError {σ : pT} {I : pI} {F : pF} {m nA nC n : Nat} {a c : Int32} (h : isMo σ m) (hA : I (m + 1) 1 = nI nA) (hA8 : nA ≤ 8) (hC : I (m + 1) 2 = nI nC) (hC5 : nC ≤ 5) (hn : I (m + 1) 3 = nI n) (hn4 : n ≤ 24) (hW : ∀ t, t < n → ∃ a, a < nA ∧ I (m + 1) (251 + 10 * t + 0) = nI a)  : PE yX8_hangError cX8_hangError mX8_hangError [.ref m, .int a, .int c] σ I F (some (.int (mHangE (I (m + 1)) n a c))) I F := by
  refine PE.of oP_X8_hangError (catOK rfl) (Nat.le_of_ble_eq_true rfl) ?_
  show PW _ _ _ 0 [.ref m, .int a, .int c, pJ] [] _ _ _ _
  refine pw_aload_n dX8_hangError_0 rfl rfl ?_
  refine pw_iload_n dX8_hangError_1 rfl rfl ?_
  refine pe_callVi dX8_hangError_2 oX_X8_isTask lk_RX8_119 (sp_isTask h hn hn4) (mo_k h) rfl rfl (Nat.le_of_ble_eq_true rfl) (by decide) ?_
  refine pw_ifB_eq (tgt := 16) dX8_hangError_5 (by decide) (fun c_5 => ?_) (fun c_5 => ?_)
  · refine pw_iconst (v := (-1)) dX8_hangError_16 (by decide) ?_
    exact pw_iret dX8_hangError_17 rfl ⟨by rw [mHangE, if_neg (fun z9 => of_decide_eq_false c_5 z9.1)], rfl, rfl, rfl⟩
  · obtain ⟨t, ht, rfl⟩ := has_nat c_5 hn (by omega)
    obtain ⟨at_, haA, hat⟩ := hW t ht
    refine pw_aload_n dX8_hangError_8 rfl rfl ?_
    refine pw_iload_n dX8_hangError_9 rfl rfl ?_
    refine pe_callVi dX8_hangError_10 oX_X8_isCrew lk_RX8_122 (sp_isCrew h hC hC5) (mo_k h) rfl rfl (Nat.le_of_ble_eq_true rfl) (by decide) ?_
    refine pw_ifB_ne (tgt := 18) dX8_hangError_13 (by decide) (fun c_13 => ?_) (fun c_13 => ?_)
    · obtain ⟨d, hd, rfl⟩ := has_nat c_13 hC (by omega)
      refine pw_aload_n dX8_hangError_18 rfl rfl ?_
      refine pw_iload_n dX8_hangError_19 rfl rfl ?_
      refine pe_callVi dX8_hangError_20 oX_X8_stateOf lk_RX8_87 (sp_stateOf (a := t) h (by omega)) (mo_k h) rfl rfl (Nat.le_of_ble_eq_true rfl) (by decide) ?_
      refine pw_if_ne (tgt := 53) dX8_hangError_23 (by decide) (fun c_23 => ?_) (fun c_23 => ?_)
      · refine pw_iconst (v := 0) dX8_hangError_53 (by decide) ?_
        refine pw_istore_n dX8_hangError_54 rfl (by decide) rfl ?_
        refine pw_iload_n dX8_hangError_55 rfl rfl ?_
        refine pw_if_eq (tgt := 63) dX8_hangError_56 (by decide) (fun c_56 => ?_) (fun c_56 => absurd rfl c_56)
        refine pw_bipush (v := (-4)) dX8_hangError_63 (by decide) ?_
        exact pw_iret dX8_hangError_65 rfl ⟨by rw [mHangE, if_pos ⟨of_decide_eq_true c_5, of_decide_eq_true c_13⟩, mAt, nI_clamp (show t < 2 ^ 31 by omega), hat, nI_clamp (show at_ < 2 ^ 31 by omega), nI_clamp (show d < 2 ^ 31 by omega), if_neg (fun z => c_23 z.1)], rfl, rfl, rfl⟩
      · refine pw_aload_n dX8_hangError_26 rfl rfl ?_
        refine pw_aload_n dX8_hangError_27 rfl rfl ?_
        refine pw_iload_n dX8_hangError_28 rfl rfl ?_
        refine pw_iconst (v := 0) dX8_hangError_29 (by decide) ?_
        refine pe_callVi dX8_hangError_30 oX_X8_ofTask lk_RX8_84 (sp_ofTask (a := t) (w := 0) h (by omega) (by omega)) (mo_k h) rfl rfl (Nat.le_of_ble_eq_true rfl) (by decide) ?_
        rw [hat]
        refine pw_iconst (v := 2) dX8_hangError_33 (by decide) ?_
        refine pe_callVi dX8_hangError_34 oX_X8_of lk_RX8_69 (sp_of (a := at_) (w := 2) h (by omega) (by omega)) (mo_k h) rfl rfl (Nat.le_of_ble_eq_true rfl) (by decide) ?_
        refine pw_if_ne (tgt := 53) dX8_hangError_37 (by decide) (fun c_37 => ?_) (fun c_37 => ?_)
        · refine pw_iconst (v := 0) dX8_hangError_53 (by decide) ?_
          refine pw_istore_n dX8_hangError_54 rfl (by decide) rfl ?_
          refine pw_iload_n dX8_hangError_55 rfl rfl ?_
          refine pw_if_eq (tgt := 63) dX8_hangError_56 (by decide) (fun c_56 => ?_) (fun c_56 => absurd rfl c_56)
          refine pw_bipush (v := (-4)) dX8_hangError_63 (by decide) ?_
          exact pw_iret dX8_hangError_65 rfl ⟨by rw [mHangE, if_pos ⟨of_decide_eq_true c_5, of_decide_eq_true c_13⟩, mAt, nI_clamp (show t < 2 ^ 31 by omega), hat, nI_clamp (show at_ < 2 ^ 31 by omega), nI_clamp (show d < 2 ^ 31 by omega), if_neg (fun z => c_37 z.2.1)], rfl, rfl, rfl⟩
        · refine pw_aload_n dX8_hangError_40 rfl rfl ?_
          refine pw_iload_n dX8_hangError_41 rfl rfl ?_
          refine pw_iload_n dX8_hangError_42 rfl rfl ?_
          refine pe_callVi dX8_hangError_43 oX_X8_canHang lk_RX8_125 (sp_canHang (t := t) (d := d) h hn hn4 (by omega) (by omega)) (mo_k h) rfl rfl (Nat.le_of_ble_eq_true rfl) (by decide) ?_
          refine pw_ifB_eq (tgt := 53) dX8_hangError_46 (by decide) (fun c_46 => ?_) (fun c_46 => ?_)
          · refine pw_iconst (v := 0) dX8_hangError_53 (by decide) ?_
            refine pw_istore_n dX8_hangError_54 rfl (by decide) rfl ?_
            refine pw_iload_n dX8_hangError_55 rfl rfl ?_
            refine pw_if_eq (tgt := 63) dX8_hangError_56 (by decide) (fun c_56 => ?_) (fun c_56 => absurd rfl c_56)
            refine pw_bipush (v := (-4)) dX8_hangError_63 (by decide) ?_
            exact pw_iret dX8_hangError_65 rfl ⟨by rw [mHangE, if_pos ⟨of_decide_eq_true c_5, of_decide_eq_true c_13⟩, mAt, nI_clamp (show t < 2 ^ 31 by omega), hat, nI_clamp (show at_ < 2 ^ 31 by omega), nI_clamp (show d < 2 ^ 31 by omega), if_neg (fun z => by rw [z.2.2] at c_46; cases c_46)], rfl, rfl, rfl⟩
          · refine pw_iconst (v := 1) dX8_hangError_49 (by decide) ?_
            refine pw_goto (tgt := 54) dX8_hangError_50 (by decide) ?_
            refine pw_istore_n dX8_hangError_54 rfl (by decide) rfl ?_
            refine pw_iload_n dX8_hangError_55 rfl rfl ?_
            refine pw_if_eq (tgt := 63) dX8_hangError_56 (by decide) (fun c_56 => absurd c_56 (by decide)) (fun c_56 => ?_)
            refine pw_iconst (v := 0) dX8_hangError_59 (by decide) ?_
            refine pw_goto (tgt := 65) dX8_hangError_60 (by decide) ?_
            exact pw_iret dX8_hangError_65 rfl ⟨by rw [mHangE, if_pos ⟨of_decide_eq_true c_5, of_decide_eq_true c_13⟩, mAt, nI_clamp (show t < 2 ^ 31 by omega), hat, nI_clamp (show at_ < 2 ^ 31 by omega), nI_clamp (show d < 2 ^ 31 by omega), if_pos ⟨c_23, c_37, c_46⟩], rfl, rfl, rfl⟩
    · refine pw_iconst (v := (-1)) dX8_hangError_16 (by decide) ?_
      exact pw_iret dX8_hangError_17 rfl ⟨by rw [mHangE, if_neg (fun z9 => of_decide_eq_false c_13 z9.2)], rfl, rfl, rfl⟩

set_option maxRecDepth 4000 in
theorem sp_hangs {σ : pT} {I : pI} {F : pF} {m nA n t at_ g : Nat} {c : Int32} (h : isMo σ m) (ht : t < 24) (haA : at_ < 8) (hat : I (m + 1) (251 + 10 * t + 0) = nI at_) (hg : I (m + 1) (4 + 5 * at_ + 4) = nI g) (hg4 : g ≤ 24) : PE yX8_hangs cX8_hangs mX8_hangs [.ref m, .int (nI t), .int c] σ I F (some (.int (mHangR I F m (nI t) c).1)) (mHangR I F m (nI t) c).2.1 (mHangR I F m (nI t) c).2.2 := by
  refine PE.of oP_X8_hangs (catOK rfl) (Nat.le_of_ble_eq_true rfl) ?_
  show PW _ _ _ 0 [.ref m, .int (nI t), .int c, pJ, pJ] [] _ _ _ _
  refine pw_aload_n dX8_hangs_0 rfl rfl ?_
  refine pw_iload_n dX8_hangs_1 rfl rfl ?_
  refine pw_iconst (v := 0) dX8_hangs_2 (by decide) ?_
  refine pe_callVi dX8_hangs_3 oX_X8_ofTask lk_RX8_84 (sp_ofTask (a := t) (w := 0) h (by omega) (by omega)) (mo_k h) rfl rfl (Nat.le_of_ble_eq_true rfl) (by decide) ?_
  rw [hat]
  refine pw_istore_n dX8_hangs_6 rfl (by decide) rfl ?_
  refine pw_aload_n dX8_hangs_7 rfl rfl ?_
  refine pw_iload_n dX8_hangs_8 rfl rfl ?_
  refine pw_iconst (v := 4) dX8_hangs_9 (by decide) ?_
  refine pe_callVi dX8_hangs_10 oX_X8_of lk_RX8_69 (sp_of (a := at_) (w := 4) h (by omega) (by omega)) (mo_k h) rfl rfl (Nat.le_of_ble_eq_true rfl) (by decide) ?_
  rw [hg]
  refine pw_istore dX8_hangs_13 (by decide) rfl ?_
  refine pw_aload_n dX8_hangs_15 rfl rfl ?_
  refine pw_getR (x := (m + 1)) dX8_hangs_16 fd_RX8_7 (by decide) (mo_k h) rfl (mo_r1 h) ?_
  refine pw_bipush (v := 44) dX8_hangs_19 (by decide) ?_
  refine pw_bipush (v := 24) dX8_hangs_21 (by decide) ?_
  refine pw_iload_n dX8_hangs_23 rfl rfl ?_
  refine pw_imul dX8_hangs_24 ?_
  rw [show (24 * nI at_ : Int32) = nI (24 * at_) from pk_mul _ _]
  refine pw_iadd dX8_hangs_25 ?_
  rw [show (44 + nI (24 * at_) : Int32) = nI (44 + (24 * at_)) from nI_add _ _]
  refine pw_iload dX8_hangs_26 rfl ?_
  refine pw_iadd dX8_hangs_28 ?_
  rw [show (nI (44 + (24 * at_)) + nI g : Int32) = nI ((44 + (24 * at_)) + g) from nI_add _ _]
  refine pw_iload_n dX8_hangs_29 rfl rfl ?_
  refine pw_iastN (j := ((44 + (24 * at_)) + g)) dX8_hangs_30 (mo_k1 h) (by omega) (by decide) ?_
  refine pw_aload_n dX8_hangs_31 rfl rfl ?_
  refine pw_iload_n dX8_hangs_32 rfl rfl ?_
  refine pw_iconst (v := 4) dX8_hangs_33 (by decide) ?_
  refine pw_iload dX8_hangs_34 rfl ?_
  refine pw_iconst (v := 1) dX8_hangs_36 (by decide) ?_
  refine pw_iadd dX8_hangs_37 ?_
  rw [show (nI g + 1 : Int32) = nI (g + 1) from nI_add _ _]
  refine pe_callVv dX8_hangs_38 oX_X8_sets lk_RX8_61 (sp_sets (a := at_) (w := 4) h (by omega) (by omega)) (mo_k h) rfl rfl (Nat.le_of_ble_eq_true rfl) (by decide) ?_
  refine pw_aload_n dX8_hangs_41 rfl rfl ?_
  refine pw_iload_n dX8_hangs_42 rfl rfl ?_
  refine pw_bipush (v := 6) dX8_hangs_43 (by decide) ?_
  refine pw_iconst (v := 1) dX8_hangs_45 (by decide) ?_
  refine pe_callVv dX8_hangs_46 oX_X8_setsTask lk_RX8_81 (sp_setsTask (a := t) (w := 6) h (by omega) (by omega)) (mo_k h) rfl rfl (Nat.le_of_ble_eq_true rfl) (by decide) ?_
  refine pw_aload_n dX8_hangs_49 rfl rfl ?_
  refine pw_iload_n dX8_hangs_50 rfl rfl ?_
  refine pw_bipush (v := 7) dX8_hangs_51 (by decide) ?_
  refine pw_iload_n dX8_hangs_53 rfl rfl ?_
  refine pe_callVv dX8_hangs_54 oX_X8_setsTask lk_RX8_81 (sp_setsTask (a := t) (w := 7) h (by omega) (by omega)) (mo_k h) rfl rfl (Nat.le_of_ble_eq_true rfl) (by decide) ?_
  refine pw_iload dX8_hangs_57 rfl ?_
  refine pw_iconst (v := 1) dX8_hangs_59 (by decide) ?_
  refine pw_iadd dX8_hangs_60 ?_
  rw [show (nI g + 1 : Int32) = nI (g + 1) from nI_add _ _]
  exact pw_iret dX8_hangs_61 rfl (rL (by rw [mHangR, mAt, nI_clamp (show t < 2 ^ 31 by omega), hat, nI_clamp (show at_ < 2 ^ 31 by omega), hg, nI_clamp (show g < 2 ^ 31 by omega)]; rfl))

set_option maxRecDepth 4000 in
theorem sp_topOf {σ : pT} {I : pI} {F : pF} {m a g : Nat} (h : isMo σ m) (ha : a < 8) (hg : I (m + 1) (4 + 5 * a + 4) = nI g) (hg4 : g ≤ 24) : PE yX8_topOf cX8_topOf mX8_topOf [.ref m, .int (nI a)] σ I F (some (.int (mTop (I (m + 1)) a))) I F := by
  refine PE.of oP_X8_topOf (catOK rfl) (Nat.le_of_ble_eq_true rfl) ?_
  show PW _ _ _ 0 [.ref m, .int (nI a), pJ] [] _ _ _ _
  refine pw_aload_n dX8_topOf_0 rfl rfl ?_
  refine pw_iload_n dX8_topOf_1 rfl rfl ?_
  refine pw_iconst (v := 4) dX8_topOf_2 (by decide) ?_
  refine pe_callVi dX8_topOf_3 oX_X8_of lk_RX8_69 (sp_of (a := a) (w := 4) h (by omega) (by omega)) (mo_k h) rfl rfl (Nat.le_of_ble_eq_true rfl) (by decide) ?_
  rw [hg]
  refine pw_istore_n dX8_topOf_6 rfl (by decide) rfl ?_
  refine pw_iload_n dX8_topOf_7 rfl rfl ?_
  refine pw_if_ne (tgt := 16) dX8_topOf_8 (by decide) (fun c_8 => ?_) (fun c_8 => ?_)
  · have g0 : 0 < g := Nat.pos_of_ne_zero (fun z => c_8 (by rw [z]; rfl))
    refine pw_aload_n dX8_topOf_16 rfl rfl ?_
    refine pw_getR (x := (m + 1)) dX8_topOf_17 fd_RX8_7 (by decide) (mo_k h) rfl (mo_r1 h) ?_
    refine pw_bipush (v := 44) dX8_topOf_20 (by decide) ?_
    refine pw_bipush (v := 24) dX8_topOf_22 (by decide) ?_
    refine pw_iload_n dX8_topOf_24 rfl rfl ?_
    refine pw_imul dX8_topOf_25 ?_
    rw [show (24 * nI a : Int32) = nI (24 * a) from pk_mul _ _]
    refine pw_iadd dX8_topOf_26 ?_
    rw [show (44 + nI (24 * a) : Int32) = nI (44 + (24 * a)) from nI_add _ _]
    refine pw_iload_n dX8_topOf_27 rfl rfl ?_
    refine pw_iadd dX8_topOf_28 ?_
    rw [show (nI (44 + (24 * a)) + nI g : Int32) = nI ((44 + (24 * a)) + g) from nI_add _ _]
    refine pw_iconst (v := 1) dX8_topOf_29 (by decide) ?_
    refine pw_isub dX8_topOf_30 ?_
    rw [show (nI ((44 + (24 * a)) + g) - 1 : Int32) = nI (((44 + (24 * a)) + g) - 1) from pk_sub (a := ((44 + (24 * a)) + g)) (b := 1) (by omega)]
    refine pw_ialdN (j := (((44 + (24 * a)) + g) - 1)) dX8_topOf_31 (mo_k1 h) (by omega) (by decide) ?_
    exact pw_iret dX8_topOf_32 rfl ⟨by rw [mTop, hg, nI_clamp (show g < 2 ^ 31 by omega), if_neg c_8], rfl, rfl, rfl⟩
  · refine pw_bipush (v := (-5)) dX8_topOf_11 (by decide) ?_
    refine pw_goto (tgt := 32) dX8_topOf_13 (by decide) ?_
    exact pw_iret dX8_topOf_32 rfl ⟨by rw [mTop, hg, if_pos c_8], rfl, rfl, rfl⟩

set_option maxRecDepth 4000 in
theorem sp_liftError {σ : pT} {I : pI} {F : pF} {m nA nC n : Nat} {a c : Int32} (h : isMo σ m) (hA : I (m + 1) 1 = nI nA) (hA8 : nA ≤ 8) (hC : I (m + 1) 2 = nI nC) (hC5 : nC ≤ 5) (hn : I (m + 1) 3 = nI n) (hn4 : n ≤ 24) (hW : ∀ t, t < n → ∃ a, a < nA ∧ I (m + 1) (251 + 10 * t + 0) = nI a) (hG : ∀ a, a < nA → ∃ g, g ≤ 24 ∧ I (m + 1) (4 + 5 * a + 4) = nI g)  : PE yX8_liftError cX8_liftError mX8_liftError [.ref m, .int a, .int c] σ I F (some (.int (mLiftE (I (m + 1)) a c))) I F := by
  refine PE.of oP_X8_liftError (catOK rfl) (Nat.le_of_ble_eq_true rfl) ?_
  show PW _ _ _ 0 [.ref m, .int a, .int c, pJ] [] _ _ _ _
  refine pw_aload_n dX8_liftError_0 rfl rfl ?_
  refine pw_iload_n dX8_liftError_1 rfl rfl ?_
  refine pe_callVi dX8_liftError_2 oX_X8_isTask lk_RX8_119 (sp_isTask h hn hn4) (mo_k h) rfl rfl (Nat.le_of_ble_eq_true rfl) (by decide) ?_
  refine pw_ifB_eq (tgt := 16) dX8_liftError_5 (by decide) (fun c_5 => ?_) (fun c_5 => ?_)
  · refine pw_iconst (v := (-1)) dX8_liftError_16 (by decide) ?_
    exact pw_iret dX8_liftError_17 rfl ⟨by rw [mLiftE, if_neg (fun z9 => of_decide_eq_false c_5 z9.1)], rfl, rfl, rfl⟩
  · obtain ⟨t, ht, rfl⟩ := has_nat c_5 hn (by omega)
    obtain ⟨at_, haA, hat⟩ := hW t ht
    obtain ⟨g, hg4, hg⟩ := hG at_ haA
    refine pw_aload_n dX8_liftError_8 rfl rfl ?_
    refine pw_iload_n dX8_liftError_9 rfl rfl ?_
    refine pe_callVi dX8_liftError_10 oX_X8_isCrew lk_RX8_122 (sp_isCrew h hC hC5) (mo_k h) rfl rfl (Nat.le_of_ble_eq_true rfl) (by decide) ?_
    refine pw_ifB_ne (tgt := 18) dX8_liftError_13 (by decide) (fun c_13 => ?_) (fun c_13 => ?_)
    · obtain ⟨d, hd, rfl⟩ := has_nat c_13 hC (by omega)
      refine pw_aload_n dX8_liftError_18 rfl rfl ?_
      refine pw_iload_n dX8_liftError_19 rfl rfl ?_
      refine pe_callVi dX8_liftError_20 oX_X8_stateOf lk_RX8_87 (sp_stateOf (a := t) h (by omega)) (mo_k h) rfl rfl (Nat.le_of_ble_eq_true rfl) (by decide) ?_
      refine pw_iconst (v := 1) dX8_liftError_23 (by decide) ?_
      refine pw_icmp_eq (tgt := 36) dX8_liftError_24 (by decide) (fun c_24 => ?_) (fun c_24 => ?_)
      · refine pw_iconst (v := 1) dX8_liftError_36 (by decide) ?_
        refine pw_goto (tgt := 41) dX8_liftError_37 (by decide) ?_
        refine pw_istore_n dX8_liftError_41 rfl (by decide) rfl ?_
        refine pw_iload_n dX8_liftError_42 rfl rfl ?_
        refine pw_if_eq (tgt := 75) dX8_liftError_43 (by decide) (fun c_43 => absurd c_43 (by decide)) (fun c_43 => ?_)
        refine pw_aload_n dX8_liftError_46 rfl rfl ?_
        refine pw_iload_n dX8_liftError_47 rfl rfl ?_
        refine pw_bipush (v := 7) dX8_liftError_48 (by decide) ?_
        refine pe_callVi dX8_liftError_50 oX_X8_ofTask lk_RX8_84 (sp_ofTask (a := t) (w := 7) h (by omega) (by omega)) (mo_k h) rfl rfl (Nat.le_of_ble_eq_true rfl) (by decide) ?_
        refine pw_iload_n dX8_liftError_53 rfl rfl ?_
        refine pw_icmp_ne (tgt := 75) dX8_liftError_54 (by decide) (fun c_54 => ?_) (fun c_54 => ?_)
        · refine pw_bipush (v := (-4)) dX8_liftError_75 (by decide) ?_
          exact pw_iret dX8_liftError_77 rfl ⟨by rw [mLiftE, if_pos ⟨of_decide_eq_true c_5, of_decide_eq_true c_13⟩, mAt, nI_clamp (show t < 2 ^ 31 by omega), hat, nI_clamp (show at_ < 2 ^ 31 by omega), if_neg (fun z => c_54 z.2.1)], rfl, rfl, rfl⟩
        · refine pw_aload_n dX8_liftError_57 rfl rfl ?_
          refine pw_aload_n dX8_liftError_58 rfl rfl ?_
          refine pw_iload_n dX8_liftError_59 rfl rfl ?_
          refine pw_iconst (v := 0) dX8_liftError_60 (by decide) ?_
          refine pe_callVi dX8_liftError_61 oX_X8_ofTask lk_RX8_84 (sp_ofTask (a := t) (w := 0) h (by omega) (by omega)) (mo_k h) rfl rfl (Nat.le_of_ble_eq_true rfl) (by decide) ?_
          rw [hat]
          refine pe_callVi dX8_liftError_64 oX_X8_topOf lk_RX8_143 (sp_topOf h (by omega) hg hg4) (mo_k h) rfl rfl (Nat.le_of_ble_eq_true rfl) (by decide) ?_
          refine pw_iload_n dX8_liftError_67 rfl rfl ?_
          refine pw_icmp_ne (tgt := 75) dX8_liftError_68 (by decide) (fun c_68 => ?_) (fun c_68 => ?_)
          · refine pw_bipush (v := (-4)) dX8_liftError_75 (by decide) ?_
            exact pw_iret dX8_liftError_77 rfl ⟨by rw [mLiftE, if_pos ⟨of_decide_eq_true c_5, of_decide_eq_true c_13⟩, mAt, nI_clamp (show t < 2 ^ 31 by omega), hat, nI_clamp (show at_ < 2 ^ 31 by omega), if_neg (fun z => c_68 z.2.2)], rfl, rfl, rfl⟩
          · refine pw_iconst (v := 0) dX8_liftError_71 (by decide) ?_
            refine pw_goto (tgt := 77) dX8_liftError_72 (by decide) ?_
            exact pw_iret dX8_liftError_77 rfl ⟨by rw [mLiftE, if_pos ⟨of_decide_eq_true c_5, of_decide_eq_true c_13⟩, mAt, nI_clamp (show t < 2 ^ 31 by omega), hat, nI_clamp (show at_ < 2 ^ 31 by omega), if_pos ⟨(Or.inl c_24), c_54, c_68⟩], rfl, rfl, rfl⟩
      · refine pw_aload_n dX8_liftError_27 rfl rfl ?_
        refine pw_iload_n dX8_liftError_28 rfl rfl ?_
        refine pe_callVi dX8_liftError_29 oX_X8_stateOf lk_RX8_87 (sp_stateOf (a := t) h (by omega)) (mo_k h) rfl rfl (Nat.le_of_ble_eq_true rfl) (by decide) ?_
        refine pw_iconst (v := 3) dX8_liftError_32 (by decide) ?_
        refine pw_icmp_ne (tgt := 40) dX8_liftError_33 (by decide) (fun c_33 => ?_) (fun c_33 => ?_)
        · refine pw_iconst (v := 0) dX8_liftError_40 (by decide) ?_
          refine pw_istore_n dX8_liftError_41 rfl (by decide) rfl ?_
          refine pw_iload_n dX8_liftError_42 rfl rfl ?_
          refine pw_if_eq (tgt := 75) dX8_liftError_43 (by decide) (fun c_43 => ?_) (fun c_43 => absurd rfl c_43)
          refine pw_bipush (v := (-4)) dX8_liftError_75 (by decide) ?_
          exact pw_iret dX8_liftError_77 rfl ⟨by rw [mLiftE, if_pos ⟨of_decide_eq_true c_5, of_decide_eq_true c_13⟩, mAt, nI_clamp (show t < 2 ^ 31 by omega), hat, nI_clamp (show at_ < 2 ^ 31 by omega), if_neg (fun z => z.1.elim c_24 c_33)], rfl, rfl, rfl⟩
        · refine pw_iconst (v := 1) dX8_liftError_36 (by decide) ?_
          refine pw_goto (tgt := 41) dX8_liftError_37 (by decide) ?_
          refine pw_istore_n dX8_liftError_41 rfl (by decide) rfl ?_
          refine pw_iload_n dX8_liftError_42 rfl rfl ?_
          refine pw_if_eq (tgt := 75) dX8_liftError_43 (by decide) (fun c_43 => absurd c_43 (by decide)) (fun c_43 => ?_)
          refine pw_aload_n dX8_liftError_46 rfl rfl ?_
          refine pw_iload_n dX8_liftError_47 rfl rfl ?_
          refine pw_bipush (v := 7) dX8_liftError_48 (by decide) ?_
          refine pe_callVi dX8_liftError_50 oX_X8_ofTask lk_RX8_84 (sp_ofTask (a := t) (w := 7) h (by omega) (by omega)) (mo_k h) rfl rfl (Nat.le_of_ble_eq_true rfl) (by decide) ?_
          refine pw_iload_n dX8_liftError_53 rfl rfl ?_
          refine pw_icmp_ne (tgt := 75) dX8_liftError_54 (by decide) (fun c_54 => ?_) (fun c_54 => ?_)
          · refine pw_bipush (v := (-4)) dX8_liftError_75 (by decide) ?_
            exact pw_iret dX8_liftError_77 rfl ⟨by rw [mLiftE, if_pos ⟨of_decide_eq_true c_5, of_decide_eq_true c_13⟩, mAt, nI_clamp (show t < 2 ^ 31 by omega), hat, nI_clamp (show at_ < 2 ^ 31 by omega), if_neg (fun z => c_54 z.2.1)], rfl, rfl, rfl⟩
          · refine pw_aload_n dX8_liftError_57 rfl rfl ?_
            refine pw_aload_n dX8_liftError_58 rfl rfl ?_
            refine pw_iload_n dX8_liftError_59 rfl rfl ?_
            refine pw_iconst (v := 0) dX8_liftError_60 (by decide) ?_
            refine pe_callVi dX8_liftError_61 oX_X8_ofTask lk_RX8_84 (sp_ofTask (a := t) (w := 0) h (by omega) (by omega)) (mo_k h) rfl rfl (Nat.le_of_ble_eq_true rfl) (by decide) ?_
            rw [hat]
            refine pe_callVi dX8_liftError_64 oX_X8_topOf lk_RX8_143 (sp_topOf h (by omega) hg hg4) (mo_k h) rfl rfl (Nat.le_of_ble_eq_true rfl) (by decide) ?_
            refine pw_iload_n dX8_liftError_67 rfl rfl ?_
            refine pw_icmp_ne (tgt := 75) dX8_liftError_68 (by decide) (fun c_68 => ?_) (fun c_68 => ?_)
            · refine pw_bipush (v := (-4)) dX8_liftError_75 (by decide) ?_
              exact pw_iret dX8_liftError_77 rfl ⟨by rw [mLiftE, if_pos ⟨of_decide_eq_true c_5, of_decide_eq_true c_13⟩, mAt, nI_clamp (show t < 2 ^ 31 by omega), hat, nI_clamp (show at_ < 2 ^ 31 by omega), if_neg (fun z => c_68 z.2.2)], rfl, rfl, rfl⟩
            · refine pw_iconst (v := 0) dX8_liftError_71 (by decide) ?_
              refine pw_goto (tgt := 77) dX8_liftError_72 (by decide) ?_
              exact pw_iret dX8_liftError_77 rfl ⟨by rw [mLiftE, if_pos ⟨of_decide_eq_true c_5, of_decide_eq_true c_13⟩, mAt, nI_clamp (show t < 2 ^ 31 by omega), hat, nI_clamp (show at_ < 2 ^ 31 by omega), if_pos ⟨(Or.inr c_33), c_54, c_68⟩], rfl, rfl, rfl⟩
    · refine pw_iconst (v := (-1)) dX8_liftError_16 (by decide) ?_
      exact pw_iret dX8_liftError_17 rfl ⟨by rw [mLiftE, if_neg (fun z9 => of_decide_eq_false c_13 z9.2)], rfl, rfl, rfl⟩

set_option maxRecDepth 4000 in
theorem sp_lifts {σ : pT} {I : pI} {F : pF} {m t at_ : Nat} (h : isMo σ m) (ht : t < 24) (haA : at_ < 8) (hat : I (m + 1) (251 + 10 * t + 0) = nI at_) : PE yX8_lifts cX8_lifts mX8_lifts [.ref m, .int (nI t)] σ I F (some (.int (mLiftR I F m (nI t)).1)) (mLiftR I F m (nI t)).2.1 (mLiftR I F m (nI t)).2.2 := by
  refine PE.of oP_X8_lifts (catOK rfl) (Nat.le_of_ble_eq_true rfl) ?_
  show PW _ _ _ 0 [.ref m, .int (nI t), pJ] [] _ _ _ _
  refine pw_aload_n dX8_lifts_0 rfl rfl ?_
  refine pw_iload_n dX8_lifts_1 rfl rfl ?_
  refine pw_iconst (v := 0) dX8_lifts_2 (by decide) ?_
  refine pe_callVi dX8_lifts_3 oX_X8_ofTask lk_RX8_84 (sp_ofTask (a := t) (w := 0) h (by omega) (by omega)) (mo_k h) rfl rfl (Nat.le_of_ble_eq_true rfl) (by decide) ?_
  rw [hat]
  refine pw_istore_n dX8_lifts_6 rfl (by decide) rfl ?_
  refine pw_aload_n dX8_lifts_7 rfl rfl ?_
  refine pw_iload_n dX8_lifts_8 rfl rfl ?_
  refine pw_iconst (v := 4) dX8_lifts_9 (by decide) ?_
  refine pw_aload_n dX8_lifts_10 rfl rfl ?_
  refine pw_iload_n dX8_lifts_11 rfl rfl ?_
  refine pw_iconst (v := 4) dX8_lifts_12 (by decide) ?_
  refine pe_callVi dX8_lifts_13 oX_X8_of lk_RX8_69 (sp_of (a := at_) (w := 4) h (by omega) (by omega)) (mo_k h) rfl rfl (Nat.le_of_ble_eq_true rfl) (by decide) ?_
  refine pw_iconst (v := 1) dX8_lifts_16 (by decide) ?_
  refine pw_isub dX8_lifts_17 ?_
  refine pe_callVv dX8_lifts_18 oX_X8_sets lk_RX8_61 (sp_sets (a := at_) (w := 4) h (by omega) (by omega)) (mo_k h) rfl rfl (Nat.le_of_ble_eq_true rfl) (by decide) ?_
  refine pw_aload_n dX8_lifts_21 rfl rfl ?_
  refine pw_iload_n dX8_lifts_22 rfl rfl ?_
  refine pe_callVi dX8_lifts_23 oX_X8_stateOf lk_RX8_87 (sp_stateOf (a := t) h (by omega)) (mo_k h) rfl rfl (Nat.le_of_ble_eq_true rfl) (by decide) ?_
  rw [up2_nj (by omega)]
  refine pw_iconst (v := 3) dX8_lifts_26 (by decide) ?_
  refine pw_icmp_ne (tgt := 41) dX8_lifts_27 (by decide) (fun c_27 => ?_) (fun c_27 => ?_)
  · refine pw_aload_n dX8_lifts_41 rfl rfl ?_
    refine pw_iload_n dX8_lifts_42 rfl rfl ?_
    refine pw_bipush (v := 6) dX8_lifts_43 (by decide) ?_
    refine pw_iconst (v := 0) dX8_lifts_45 (by decide) ?_
    refine pe_callVv dX8_lifts_46 oX_X8_setsTask lk_RX8_81 (sp_setsTask (a := t) (w := 6) h (by omega) (by omega)) (mo_k h) rfl rfl (Nat.le_of_ble_eq_true rfl) (by decide) ?_
    refine pw_aload_n dX8_lifts_49 rfl rfl ?_
    refine pw_iload_n dX8_lifts_50 rfl rfl ?_
    refine pw_bipush (v := 7) dX8_lifts_51 (by decide) ?_
    refine pw_bipush (v := (-5)) dX8_lifts_53 (by decide) ?_
    refine pe_callVv dX8_lifts_55 oX_X8_setsTask lk_RX8_81 (sp_setsTask (a := t) (w := 7) h (by omega) (by omega)) (mo_k h) rfl rfl (Nat.le_of_ble_eq_true rfl) (by decide) ?_
    refine pw_aload_n dX8_lifts_58 rfl rfl ?_
    refine pw_iload_n dX8_lifts_59 rfl rfl ?_
    refine pw_iconst (v := 4) dX8_lifts_60 (by decide) ?_
    refine pe_callVi dX8_lifts_61 oX_X8_of lk_RX8_69 (sp_of (a := at_) (w := 4) h (by omega) (by omega)) (mo_k h) rfl rfl (Nat.le_of_ble_eq_true rfl) (by decide) ?_
    first | rw [up2_nj (by omega), up2_nj (by omega), up2_s] | rw [up2_nj (by omega), up2_s]
    exact pw_iret dX8_lifts_64 rfl (rL (by rw [mLiftR, mAt, nI_clamp (show t < 2 ^ 31 by omega), hat, nI_clamp (show at_ < 2 ^ 31 by omega), mLiftI, if_neg c_27]))
  · refine pw_aload_n dX8_lifts_30 rfl rfl ?_
    refine pw_iload_n dX8_lifts_31 rfl rfl ?_
    refine pw_bipush (v := 6) dX8_lifts_32 (by decide) ?_
    refine pw_iconst (v := 4) dX8_lifts_34 (by decide) ?_
    refine pe_callVv dX8_lifts_35 oX_X8_setsTask lk_RX8_81 (sp_setsTask (a := t) (w := 6) h (by omega) (by omega)) (mo_k h) rfl rfl (Nat.le_of_ble_eq_true rfl) (by decide) ?_
    refine pw_goto (tgt := 58) dX8_lifts_38 (by decide) ?_
    refine pw_aload_n dX8_lifts_58 rfl rfl ?_
    refine pw_iload_n dX8_lifts_59 rfl rfl ?_
    refine pw_iconst (v := 4) dX8_lifts_60 (by decide) ?_
    refine pe_callVi dX8_lifts_61 oX_X8_of lk_RX8_69 (sp_of (a := at_) (w := 4) h (by omega) (by omega)) (mo_k h) rfl rfl (Nat.le_of_ble_eq_true rfl) (by decide) ?_
    first | rw [up2_nj (by omega), up2_nj (by omega), up2_s] | rw [up2_nj (by omega), up2_s]
    exact pw_iret dX8_lifts_64 rfl (rL (by rw [mLiftR, mAt, nI_clamp (show t < 2 ^ 31 by omega), hat, nI_clamp (show at_ < 2 ^ 31 by omega), mLiftI, if_pos c_27]))

set_option maxRecDepth 4000 in
theorem sp_beginError {σ : pT} {I : pI} {F : pF} {m nA n : Nat} {a : Int32} (h : isMo σ m) (hA : I (m + 1) 1 = nI nA) (hA8 : nA ≤ 8) (hn : I (m + 1) 3 = nI n) (hn4 : n ≤ 24) (hW : ∀ t, t < n → ∃ a, a < nA ∧ I (m + 1) (251 + 10 * t + 0) = nI a) (hKd : ∀ t, t < n → ∃ k, k < 5 ∧ I (m + 1) (251 + 10 * t + 3) = nI k)  : PE yX8_beginError cX8_beginError mX8_beginError [.ref m, .int a] σ I F (some (.int (mBeginE (I (m + 1)) n a))) I F := by
  refine PE.of oP_X8_beginError (catOK rfl) (Nat.le_of_ble_eq_true rfl) ?_
  show PW _ _ _ 0 [.ref m, .int a] [] _ _ _ _
  refine pw_aload_n dX8_beginError_0 rfl rfl ?_
  refine pw_iload_n dX8_beginError_1 rfl rfl ?_
  refine pe_callVi dX8_beginError_2 oX_X8_isTask lk_RX8_119 (sp_isTask h hn hn4) (mo_k h) rfl rfl (Nat.le_of_ble_eq_true rfl) (by decide) ?_
  refine pw_ifB_ne (tgt := 10) dX8_beginError_5 (by decide) (fun c_5 => ?_) (fun c_5 => ?_)
  · obtain ⟨t, ht, rfl⟩ := has_nat c_5 hn (by omega)
    obtain ⟨at_, haA, hat⟩ := hW t ht
    obtain ⟨kt, hk5, hkd⟩ := hKd t ht
    refine pw_aload_n dX8_beginError_10 rfl rfl ?_
    refine pw_iload_n dX8_beginError_11 rfl rfl ?_
    refine pe_callVi dX8_beginError_12 oX_X8_reasonOf lk_RX8_134 (sp_reasonOf (at_ := at_) h hn hn4 hkd hk5 hat (by omega) ht) (mo_k h) rfl rfl (Nat.le_of_ble_eq_true rfl) (by decide) ?_
    refine pw_if_ne (tgt := 22) dX8_beginError_15 (by decide) (fun c_15 => ?_) (fun c_15 => ?_)
    · refine pw_bipush (v := (-4)) dX8_beginError_22 (by decide) ?_
      exact pw_iret dX8_beginError_24 rfl ⟨by rw [mBeginE, if_pos (of_decide_eq_true c_5), mKd, mAt, nI_clamp (show t < 2 ^ 31 by omega), hkd, hat, nI_clamp (show kt < 2 ^ 31 by omega), nI_clamp (show at_ < 2 ^ 31 by omega), if_neg c_15], rfl, rfl, rfl⟩
    · refine pw_iconst (v := 0) dX8_beginError_18 (by decide) ?_
      refine pw_goto (tgt := 24) dX8_beginError_19 (by decide) ?_
      exact pw_iret dX8_beginError_24 rfl ⟨by rw [mBeginE, if_pos (of_decide_eq_true c_5), mKd, mAt, nI_clamp (show t < 2 ^ 31 by omega), hkd, hat, nI_clamp (show kt < 2 ^ 31 by omega), nI_clamp (show at_ < 2 ^ 31 by omega), if_pos c_15], rfl, rfl, rfl⟩
  · refine pw_iconst (v := (-1)) dX8_beginError_8 (by decide) ?_
    exact pw_iret dX8_beginError_9 rfl ⟨by rw [mBeginE, if_neg (of_decide_eq_false c_5)], rfl, rfl, rfl⟩

set_option maxRecDepth 4000 in
theorem sp_begins {σ : pT} {I : pI} {F : pF} {m t : Nat} (h : isMo σ m) (ht : t < 24) : PE yX8_begins cX8_begins mX8_begins [.ref m, .int (nI t)] σ I F (some (.int (mBeginR I F m (nI t)).1)) (mBeginR I F m (nI t)).2.1 (mBeginR I F m (nI t)).2.2 := by
  refine PE.of oP_X8_begins (catOK rfl) (Nat.le_of_ble_eq_true rfl) ?_
  show PW _ _ _ 0 [.ref m, .int (nI t)] [] _ _ _ _
  refine pw_aload_n dX8_begins_0 rfl rfl ?_
  refine pw_iload_n dX8_begins_1 rfl rfl ?_
  refine pw_bipush (v := 6) dX8_begins_2 (by decide) ?_
  refine pw_iconst (v := 2) dX8_begins_4 (by decide) ?_
  refine pe_callVv dX8_begins_5 oX_X8_setsTask lk_RX8_81 (sp_setsTask (a := t) (w := 6) h (by omega) (by omega)) (mo_k h) rfl rfl (Nat.le_of_ble_eq_true rfl) (by decide) ?_
  refine pw_aload_n dX8_begins_8 rfl rfl ?_
  refine pw_iload_n dX8_begins_9 rfl rfl ?_
  refine pw_bipush (v := 8) dX8_begins_10 (by decide) ?_
  refine pw_aload_n dX8_begins_12 rfl rfl ?_
  refine pw_iload_n dX8_begins_13 rfl rfl ?_
  refine pw_iconst (v := 4) dX8_begins_14 (by decide) ?_
  refine pe_callVi dX8_begins_15 oX_X8_ofTask lk_RX8_84 (sp_ofTask (a := t) (w := 4) h (by omega) (by omega)) (mo_k h) rfl rfl (Nat.le_of_ble_eq_true rfl) (by decide) ?_
  rw [up2_nj (by omega)]
  refine pe_callVv dX8_begins_18 oX_X8_setsTask lk_RX8_81 (sp_setsTask (a := t) (w := 8) h (by omega) (by omega)) (mo_k h) rfl rfl (Nat.le_of_ble_eq_true rfl) (by decide) ?_
  refine pw_aload_n dX8_begins_21 rfl rfl ?_
  refine pw_getR (x := (m + 1)) dX8_begins_22 fd_RX8_7 (by decide) (mo_k h) rfl (mo_r1 h) ?_
  refine pw_iconst (v := 0) dX8_begins_25 (by decide) ?_
  refine pw_ialdN (j := 0) dX8_begins_26 (mo_k1 h) (by omega) (by decide) ?_
  rw [up2_nj (by omega), up2_nj (by omega)]
  refine pw_aload_n dX8_begins_27 rfl rfl ?_
  refine pw_iload_n dX8_begins_28 rfl rfl ?_
  refine pw_iconst (v := 4) dX8_begins_29 (by decide) ?_
  refine pe_callVi dX8_begins_30 oX_X8_ofTask lk_RX8_84 (sp_ofTask (a := t) (w := 4) h (by omega) (by omega)) (mo_k h) rfl rfl (Nat.le_of_ble_eq_true rfl) (by decide) ?_
  rw [up2_nj (by omega), up2_nj (by omega)]
  refine pw_iadd dX8_begins_33 ?_
  exact pw_iret dX8_begins_34 rfl (rL (by rw [mBeginR, nI_clamp (show t < 2 ^ 31 by omega)]))

set_option maxRecDepth 4000 in
theorem sp_m_worn {σ : pT} {I : pI} {F : pF} {m a : Nat} {x : UInt32} (h : isMo σ m) (ha : a < 8) : PE yX8_worn cX8_worn mX8_worn [.ref m, .int (nI a), .float x] σ I F (some (.float (wornF (mWear (I (m + 1)) a) x))) I F := by
  refine PE.of oP_X8_worn (catOK rfl) (Nat.le_of_ble_eq_true rfl) ?_
  show PW _ _ _ 0 [.ref m, .int (nI a), .float x, pJ, pJ] [] _ _ _ _
  refine pw_aload_n dX8_worn_0 rfl rfl ?_
  refine pw_iload_n dX8_worn_1 rfl rfl ?_
  refine pw_iconst (v := 1) dX8_worn_2 (by decide) ?_
  refine pe_callVi dX8_worn_3 oX_X8_of lk_RX8_69 (sp_of (a := a) (w := 1) h (by omega) (by omega)) (mo_k h) rfl rfl (Nat.le_of_ble_eq_true rfl) (by decide) ?_
  refine pw_i2f dX8_worn_6 ?_
  refine pw_ldcf dX8_worn_7 kc_RX8_152 ?_
  refine pw_fdiv dX8_worn_9 ?_
  refine pw_fstore_n dX8_worn_10 rfl (by decide) rfl ?_
  refine pw_fload_n dX8_worn_11 rfl rfl ?_
  refine pw_fload_n dX8_worn_12 rfl rfl ?_
  refine pw_fload_n dX8_worn_13 rfl rfl ?_
  refine pw_fmul dX8_worn_14 ?_
  refine pw_fsub dX8_worn_15 ?_
  refine pw_fstore dX8_worn_16 (by decide) rfl ?_
  refine pw_fload dX8_worn_18 rfl ?_
  refine pw_ldcf dX8_worn_20 kc_RX8_153 ?_
  refine pw_fcmp dX8_worn_22 ?_
  refine pw_if_ge (tgt := 31) dX8_worn_23 (by decide) (fun c_23 => ?_) (fun c_23 => ?_)
  · refine pw_fload dX8_worn_31 rfl ?_
    exact pw_fret dX8_worn_33 rfl ⟨by rw [wornF, mWear, if_pos c_23], rfl, rfl, rfl⟩
  · refine pw_ldcf dX8_worn_26 kc_RX8_153 ?_
    refine pw_goto (tgt := 33) dX8_worn_28 (by decide) ?_
    exact pw_fret dX8_worn_33 rfl ⟨by rw [wornF, mWear, if_neg c_23], rfl, rfl, rfl⟩

set_option maxRecDepth 4000 in
theorem sp_runsHour {σ : pT} {I : pI} {F : pF} {m a : Nat} (h : isMo σ m) (ha : a < 8) : PE yX8_runsHour cX8_runsHour mX8_runsHour [.ref m, .int (nI a)] σ I F none I (mRunOne I m a F) := by
  refine PE.of oP_X8_runsHour (catOK rfl) (Nat.le_of_ble_eq_true rfl) ?_
  show PW _ _ _ 0 [.ref m, .int (nI a)] [] _ _ _ _
  refine pw_aload_n dX8_runsHour_0 rfl rfl ?_
  refine pw_getR (x := (m + 3)) dX8_runsHour_1 fd_RX8_17 (by decide) (mo_k h) rfl (mo_r3 h) ?_
  refine pw_iload_n dX8_runsHour_4 rfl rfl ?_
  refine pw_aload_n dX8_runsHour_5 rfl rfl ?_
  refine pw_getR (x := (m + 3)) dX8_runsHour_6 fd_RX8_17 (by decide) (mo_k h) rfl (mo_r3 h) ?_
  refine pw_iload_n dX8_runsHour_9 rfl rfl ?_
  refine pw_faldN (j := a) dX8_runsHour_10 (mo_k3 h) (by omega) (by decide) ?_
  refine pw_aload_n dX8_runsHour_11 rfl rfl ?_
  refine pw_iload_n dX8_runsHour_12 rfl rfl ?_
  refine pw_iconst (v := 0) dX8_runsHour_13 (by decide) ?_
  refine pe_callVi dX8_runsHour_14 oX_X8_of lk_RX8_69 (sp_of (a := a) (w := 0) h (by omega) (by omega)) (mo_k h) rfl rfl (Nat.le_of_ble_eq_true rfl) (by decide) ?_
  refine pw_i2f dX8_runsHour_17 ?_
  refine pw_aload_n dX8_runsHour_18 rfl rfl ?_
  refine pw_getR (x := (m + 2)) dX8_runsHour_19 fd_RX8_13 (by decide) (mo_k h) rfl (mo_r2 h) ?_
  refine pw_iload_n dX8_runsHour_22 rfl rfl ?_
  refine pw_faldN (j := a) dX8_runsHour_23 (mo_k2 h) (by omega) (by decide) ?_
  refine pw_fmul dX8_runsHour_24 ?_
  refine pw_fadd dX8_runsHour_25 ?_
  refine pw_fastN (j := a) dX8_runsHour_26 (mo_k3 h) (by omega) (by decide) ?_
  refine pw_aload_n dX8_runsHour_27 rfl rfl ?_
  refine pw_getR (x := (m + 2)) dX8_runsHour_28 fd_RX8_13 (by decide) (mo_k h) rfl (mo_r2 h) ?_
  refine pw_iload_n dX8_runsHour_31 rfl rfl ?_
  refine pw_aload_n dX8_runsHour_32 rfl rfl ?_
  refine pw_iload_n dX8_runsHour_33 rfl rfl ?_
  refine pw_aload_n dX8_runsHour_34 rfl rfl ?_
  refine pw_getR (x := (m + 2)) dX8_runsHour_35 fd_RX8_13 (by decide) (mo_k h) rfl (mo_r2 h) ?_
  refine pw_iload_n dX8_runsHour_38 rfl rfl ?_
  refine pw_faldN (j := a) dX8_runsHour_39 (mo_k2 h) (by omega) (by decide) ?_
  rw [up2_ni (by omega)]
  refine pe_callVf dX8_runsHour_40 oX_X8_worn lk_RX8_154 (sp_m_worn (a := a) h (by omega)) (mo_k h) rfl rfl (Nat.le_of_ble_eq_true rfl) (by decide) ?_
  refine pw_fastN (j := a) dX8_runsHour_43 (mo_k2 h) (by omega) (by decide) ?_
  exact pw_vret dX8_runsHour_44 rfl ⟨rfl, rfl, rfl, rfl⟩

set_option maxRecDepth 4000 in
theorem sp_m_slips {σ : pT} {I : pI} {F : pF} {m t : Nat} (h : isMo σ m) (ht : t < 24) : PE yX8_slips cX8_slips mX8_slips [.ref m, .int (nI t)] σ I F none (mSlipI I m t) F := by
  refine PE.of oP_X8_slips (catOK rfl) (Nat.le_of_ble_eq_true rfl) ?_
  show PW _ _ _ 0 [.ref m, .int (nI t)] [] _ _ _ _
  refine pw_aload_n dX8_slips_0 rfl rfl ?_
  refine pw_iload_n dX8_slips_1 rfl rfl ?_
  refine pe_callVi dX8_slips_2 oX_X8_stateOf lk_RX8_87 (sp_stateOf (a := t) h (by omega)) (mo_k h) rfl rfl (Nat.le_of_ble_eq_true rfl) (by decide) ?_
  refine pw_if_ne (tgt := 30) dX8_slips_5 (by decide) (fun c_5 => ?_) (fun c_5 => ?_)
  · refine pw_aload_n dX8_slips_30 rfl rfl ?_
    refine pw_iload_n dX8_slips_31 rfl rfl ?_
    refine pw_iconst (v := 5) dX8_slips_32 (by decide) ?_
    refine pw_aload_n dX8_slips_33 rfl rfl ?_
    refine pw_iload_n dX8_slips_34 rfl rfl ?_
    refine pw_iconst (v := 5) dX8_slips_35 (by decide) ?_
    refine pe_callVi dX8_slips_36 oX_X8_ofTask lk_RX8_84 (sp_ofTask (a := t) (w := 5) h (by omega) (by omega)) (mo_k h) rfl rfl (Nat.le_of_ble_eq_true rfl) (by decide) ?_
    refine pw_bipush (v := 24) dX8_slips_39 (by decide) ?_
    refine pw_iadd dX8_slips_41 ?_
    refine pe_callVv dX8_slips_42 oX_X8_setsTask lk_RX8_81 (sp_setsTask (a := t) (w := 5) h (by omega) (by omega)) (mo_k h) rfl rfl (Nat.le_of_ble_eq_true rfl) (by decide) ?_
    refine pw_aload_n dX8_slips_45 rfl rfl ?_
    refine pw_iload_n dX8_slips_46 rfl rfl ?_
    refine pw_bipush (v := 9) dX8_slips_47 (by decide) ?_
    refine pw_aload_n dX8_slips_49 rfl rfl ?_
    refine pw_iload_n dX8_slips_50 rfl rfl ?_
    refine pw_bipush (v := 9) dX8_slips_51 (by decide) ?_
    refine pe_callVi dX8_slips_53 oX_X8_ofTask lk_RX8_84 (sp_ofTask (a := t) (w := 9) h (by omega) (by omega)) (mo_k h) rfl rfl (Nat.le_of_ble_eq_true rfl) (by decide) ?_
    rw [up2_nj (by omega)]
    refine pw_iconst (v := 1) dX8_slips_56 (by decide) ?_
    refine pw_iadd dX8_slips_57 ?_
    refine pe_callVv dX8_slips_58 oX_X8_setsTask lk_RX8_81 (sp_setsTask (a := t) (w := 9) h (by omega) (by omega)) (mo_k h) rfl rfl (Nat.le_of_ble_eq_true rfl) (by decide) ?_
    exact pw_vret dX8_slips_61 rfl ⟨rfl, rfl, by rw [mSlipI, if_neg (fun z => c_5 z.1)], rfl⟩
  · refine pw_aload_n dX8_slips_8 rfl rfl ?_
    refine pw_iload_n dX8_slips_9 rfl rfl ?_
    refine pw_bipush (v := 9) dX8_slips_10 (by decide) ?_
    refine pe_callVi dX8_slips_12 oX_X8_ofTask lk_RX8_84 (sp_ofTask (a := t) (w := 9) h (by omega) (by omega)) (mo_k h) rfl rfl (Nat.le_of_ble_eq_true rfl) (by decide) ?_
    refine pw_iconst (v := 3) dX8_slips_15 (by decide) ?_
    refine pw_icmp_lt (tgt := 30) dX8_slips_16 (by decide) (fun c_16 => ?_) (fun c_16 => ?_)
    · refine pw_aload_n dX8_slips_30 rfl rfl ?_
      refine pw_iload_n dX8_slips_31 rfl rfl ?_
      refine pw_iconst (v := 5) dX8_slips_32 (by decide) ?_
      refine pw_aload_n dX8_slips_33 rfl rfl ?_
      refine pw_iload_n dX8_slips_34 rfl rfl ?_
      refine pw_iconst (v := 5) dX8_slips_35 (by decide) ?_
      refine pe_callVi dX8_slips_36 oX_X8_ofTask lk_RX8_84 (sp_ofTask (a := t) (w := 5) h (by omega) (by omega)) (mo_k h) rfl rfl (Nat.le_of_ble_eq_true rfl) (by decide) ?_
      refine pw_bipush (v := 24) dX8_slips_39 (by decide) ?_
      refine pw_iadd dX8_slips_41 ?_
      refine pe_callVv dX8_slips_42 oX_X8_setsTask lk_RX8_81 (sp_setsTask (a := t) (w := 5) h (by omega) (by omega)) (mo_k h) rfl rfl (Nat.le_of_ble_eq_true rfl) (by decide) ?_
      refine pw_aload_n dX8_slips_45 rfl rfl ?_
      refine pw_iload_n dX8_slips_46 rfl rfl ?_
      refine pw_bipush (v := 9) dX8_slips_47 (by decide) ?_
      refine pw_aload_n dX8_slips_49 rfl rfl ?_
      refine pw_iload_n dX8_slips_50 rfl rfl ?_
      refine pw_bipush (v := 9) dX8_slips_51 (by decide) ?_
      refine pe_callVi dX8_slips_53 oX_X8_ofTask lk_RX8_84 (sp_ofTask (a := t) (w := 9) h (by omega) (by omega)) (mo_k h) rfl rfl (Nat.le_of_ble_eq_true rfl) (by decide) ?_
      rw [up2_nj (by omega)]
      refine pw_iconst (v := 1) dX8_slips_56 (by decide) ?_
      refine pw_iadd dX8_slips_57 ?_
      refine pe_callVv dX8_slips_58 oX_X8_setsTask lk_RX8_81 (sp_setsTask (a := t) (w := 9) h (by omega) (by omega)) (mo_k h) rfl rfl (Nat.le_of_ble_eq_true rfl) (by decide) ?_
      exact pw_vret dX8_slips_61 rfl ⟨rfl, rfl, by rw [mSlipI, if_neg (fun z => i_nlt c_16 z.2)], rfl⟩
    · refine pw_aload_n dX8_slips_19 rfl rfl ?_
      refine pw_iload_n dX8_slips_20 rfl rfl ?_
      refine pw_bipush (v := 6) dX8_slips_21 (by decide) ?_
      refine pw_iconst (v := 5) dX8_slips_23 (by decide) ?_
      refine pe_callVv dX8_slips_24 oX_X8_setsTask lk_RX8_81 (sp_setsTask (a := t) (w := 6) h (by omega) (by omega)) (mo_k h) rfl rfl (Nat.le_of_ble_eq_true rfl) (by decide) ?_
      refine pw_goto (tgt := 61) dX8_slips_27 (by decide) ?_
      exact pw_vret dX8_slips_61 rfl ⟨rfl, rfl, by rw [mSlipI, if_pos ⟨c_5, i_le c_16⟩], rfl⟩
