/-! what the model tells -/
def mRealV (N : Nat → Int32) (H O : Nat → UInt32) (a w : Int32) : UInt32 := if (0 ≤ a ∧ a < N 1) ∧ (0 ≤ w ∧ w ≤ 2) then (if w = 0 then H a.toNatClampNeg else if w = 1 then O a.toNatClampNeg else mWear N a.toNatClampNeg) else 2143289344
def mHealthInV (N : Nat → Int32) (H : Nat → UInt32) (a w : Int32) : UInt32 := if (0 ≤ a ∧ a < N 1) ∧ (0 ≤ w ∧ w ≤ 200) then wornN (mWear N a.toNatClampNeg) w.toNatClampNeg (H a.toNatClampNeg) else 2143289344
def mHoursToV (N : Nat → Int32) (H : Nat → UInt32) (a w : Int32) : Int32 := if 0 ≤ a ∧ a < N 1 then (if 1 ≤ w ∧ w ≤ 100 then untilB (mWear N a.toNatClampNeg) (FP.fdiv (FP.i2f w) 1120403456) 201 0 (H a.toNatClampNeg) else -2) else -1
def mAtC (N : Nat → Int32) (n : Nat) (a f l : Int32) : Nat := cntT (fun t => decide (N (251 + 10 * t + 0) = a) && decide (f ≤ N (251 + 10 * t + 6) ∧ N (251 + 10 * t + 6) ≤ l)) n
def mAssetV (N : Nat → Int32) (H O : Nat → UInt32) (n : Nat) (a w : Int32) : Int32 := if 0 ≤ a ∧ a < N 1 then swV w [N (4 + 5 * a.toNatClampNeg + 2), N (4 + 5 * a.toNatClampNeg + 4), mTop N a.toNatClampNeg, N (4 + 5 * a.toNatClampNeg + 3), nI (mAtC N n a 0 3), nI (mAtC N n a 4 4), FP.f2i (FP.fmul (H a.toNatClampNeg) 1148846080), FP.f2i (O a.toNatClampNeg)] (-2) else -1
def mTagAtV (N : Nat → Int32) (a w : Int32) : Int32 := if 0 ≤ a ∧ a < N 1 then (if 0 ≤ w then (if w < N (4 + 5 * a.toNatClampNeg + 4) then N (44 + 24 * a.toNatClampNeg + (N (4 + 5 * a.toNatClampNeg + 4)).toNatClampNeg - 1 - w.toNatClampNeg) else -5) else -2) else -1
def mDoneC (N : Nat → Int32) (n : Nat) (c : Int32) : Nat := cntT (fun t => decide (N (251 + 10 * t + 6) = 4) && decide (N (251 + 10 * t + 7) = c)) n
def mCrewV (N : Nat → Int32) (n : Nat) (a w : Int32) : Int32 := if 0 ≤ a ∧ a < N 2 then swV w [N (236 + 2 * a.toNatClampNeg + 0), N (236 + 2 * a.toNatClampNeg + 1), sumT (mBusyF N a 1) n, sumT (mBusyF N a 0) n, nI (mDoneC N n a)] (-2) else -1
def mTaskV (N : Nat → Int32) (n : Nat) (a w : Int32) : Int32 := if 0 ≤ a ∧ a < N 3 then swV w [N (251 + 10 * a.toNatClampNeg + 0), N (251 + 10 * a.toNatClampNeg + 6), N (251 + 10 * a.toNatClampNeg + 1), N (251 + 10 * a.toNatClampNeg + 2), N (251 + 10 * a.toNatClampNeg + 3), N (251 + 10 * a.toNatClampNeg + 4), N (251 + 10 * a.toNatClampNeg + 5), mEnd N a.toNatClampNeg, N (251 + 10 * a.toNatClampNeg + 7), (if N (251 + 10 * a.toNatClampNeg + 6) = 2 then N (251 + 10 * a.toNatClampNeg + 8) else -5), N (251 + 10 * a.toNatClampNeg + 9), mReas N n a.toNatClampNeg (mKd N a.toNatClampNeg) (mAt N a.toNatClampNeg), (if N (251 + 10 * a.toNatClampNeg + 6) = 2 then -5 else fstT (mBarP N a.toNatClampNeg (mKd N a.toNatClampNeg) (mAt N a.toNatClampNeg)) n 0)] (-2) else -1
def mCrewP (N : Nat → Int32) (n t : Nat) : Nat → Bool := fun c => decide (N (251 + 10 * t + 6) = 0) && mServe N n t c
def mCrewForV (N : Nat → Int32) (nC n : Nat) (a : Int32) : Int32 := if 0 ≤ a ∧ a < N 3 then fstT (mCrewP N n a.toNatClampNeg) nC 0 else -1
theorem fst_no {P : Nat → Bool} (h : ∀ k, P k = false) : ∀ r k, fstT P r k = -5
  | 0, _ => rfl
  | r + 1, k => by
    rw [fstT, h k, if_neg (by decide)]
    exact fst_no h r (k + 1)
def mInC (N : Nat → Int32) (n : Nat) (s : Int32) : Nat := cntT (fun t => decide (N (251 + 10 * t + 6) = s)) n
def mTagsC (N : Nat → Int32) (nA : Nat) : Int32 := sumT (fun a => N (4 + 5 * a + 4)) nA
def mSlipsC (N : Nat → Int32) (n : Nat) : Int32 := sumT (fun t => N (251 + 10 * t + 9)) n
def mAllB (N : Nat → Int32) (nC n : Nat) : Int32 := sumT (fun c => sumT (mBusyF N (nI c) 1) n) nC
def mCountV (N : Nat → Int32) (nA nC n : Nat) (s l w : Int32) : Int32 := swV w [N 0, N 1, mRunC N nA, N 2, N 3, nI (mInC N n (w - 5)), nI (mInC N n (w - 5)), nI (mInC N n (w - 5)), nI (mInC N n (w - 5)), nI (mInC N n (w - 5)), nI (mInC N n (w - 5)), nI (mInC N n (w - 5)), mTagsC N nA, mSlipsC N n, mAllB N nC n, s, l] (-2)

set_option maxRecDepth 4000 in
theorem sp_m_real {σ : pT} {I : pI} {F : pF} {m nA : Nat} {a w : Int32} (h : isMo σ m) (hA : I (m + 1) 1 = nI nA) (hA8 : nA ≤ 8)  : PE yX8_real cX8_real mX8_real [.ref m, .int a, .int w] σ I F (some (.float (mRealV (I (m + 1)) (F (m + 2)) (F (m + 3)) a w))) I F := by
  refine PE.of oP_X8_real (catOK rfl) (Nat.le_of_ble_eq_true rfl) ?_
  show PW _ _ _ 0 [.ref m, .int a, .int w] [] _ _ _ _
  refine pw_aload_n dX8_real_0 rfl rfl ?_
  refine pw_iload_n dX8_real_1 rfl rfl ?_
  refine pe_callVi dX8_real_2 oX_X8_isAsset lk_RX8_65 (sp_isAsset h hA hA8) (mo_k h) rfl rfl (Nat.le_of_ble_eq_true rfl) (by decide) ?_
  refine pw_ifB_eq (tgt := 17) dX8_real_5 (by decide) (fun c_5 => ?_) (fun c_5 => ?_)
  · refine pw_ldcf dX8_real_17 kc_RX8_214 ?_
    exact pw_fret dX8_real_19 rfl ⟨by rw [mRealV, if_neg (fun z => of_decide_eq_false c_5 z.1)], rfl, rfl, rfl⟩
  · obtain ⟨i, hi, rfl⟩ := has_nat c_5 hA (by omega)
    refine pw_iload_n dX8_real_8 rfl rfl ?_
    refine pw_iconst (v := 0) dX8_real_9 (by decide) ?_
    refine pw_iconst (v := 2) dX8_real_10 (by decide) ?_
    refine pe_callSi dX8_real_11 oX_X8_isIn lk_RX8_32 sp_isIn rfl rfl (Nat.le_of_ble_eq_true rfl) (by decide) ?_
    refine pw_ifB_ne (tgt := 20) dX8_real_14 (by decide) (fun c_14 => ?_) (fun c_14 => ?_)
    · refine pw_iload_n dX8_real_20 rfl rfl ?_
      refine pw_if_ne (tgt := 33) dX8_real_21 (by decide) (fun c_21 => ?_) (fun c_21 => ?_)
      · refine pw_iload_n dX8_real_33 rfl rfl ?_
        refine pw_iconst (v := 1) dX8_real_34 (by decide) ?_
        refine pw_icmp_ne (tgt := 47) dX8_real_35 (by decide) (fun c_35 => ?_) (fun c_35 => ?_)
        · refine pw_aload_n dX8_real_47 rfl rfl ?_
          refine pw_iload_n dX8_real_48 rfl rfl ?_
          refine pw_iconst (v := 1) dX8_real_49 (by decide) ?_
          refine pe_callVi dX8_real_50 oX_X8_of lk_RX8_69 (sp_of (a := i) (w := 1) h (by omega) (by omega)) (mo_k h) rfl rfl (Nat.le_of_ble_eq_true rfl) (by decide) ?_
          refine pw_i2f dX8_real_53 ?_
          refine pw_ldcf dX8_real_54 kc_RX8_152 ?_
          refine pw_fdiv dX8_real_56 ?_
          exact pw_fret dX8_real_57 rfl ⟨by rw [mRealV, if_pos ⟨of_decide_eq_true c_5, of_decide_eq_true c_14⟩, nI_clamp (show i < 2 ^ 31 by omega), if_neg c_21, if_neg c_35]; rfl, rfl, rfl, rfl⟩
        · refine pw_aload_n dX8_real_38 rfl rfl ?_
          refine pw_getR (x := (m + 3)) dX8_real_39 fd_RX8_17 (by decide) (mo_k h) rfl (mo_r3 h) ?_
          refine pw_iload_n dX8_real_42 rfl rfl ?_
          refine pw_faldN (j := i) dX8_real_43 (mo_k3 h) (by omega) (by decide) ?_
          refine pw_goto (tgt := 57) dX8_real_44 (by decide) ?_
          exact pw_fret dX8_real_57 rfl ⟨by rw [mRealV, if_pos ⟨of_decide_eq_true c_5, of_decide_eq_true c_14⟩, nI_clamp (show i < 2 ^ 31 by omega), if_neg c_21, if_pos c_35], rfl, rfl, rfl⟩
      · refine pw_aload_n dX8_real_24 rfl rfl ?_
        refine pw_getR (x := (m + 2)) dX8_real_25 fd_RX8_13 (by decide) (mo_k h) rfl (mo_r2 h) ?_
        refine pw_iload_n dX8_real_28 rfl rfl ?_
        refine pw_faldN (j := i) dX8_real_29 (mo_k2 h) (by omega) (by decide) ?_
        refine pw_goto (tgt := 57) dX8_real_30 (by decide) ?_
        exact pw_fret dX8_real_57 rfl ⟨by rw [mRealV, if_pos ⟨of_decide_eq_true c_5, of_decide_eq_true c_14⟩, nI_clamp (show i < 2 ^ 31 by omega), if_pos c_21], rfl, rfl, rfl⟩
    · refine pw_ldcf dX8_real_17 kc_RX8_214 ?_
      exact pw_fret dX8_real_19 rfl ⟨by rw [mRealV, if_neg (fun z => of_decide_eq_false c_14 z.2)], rfl, rfl, rfl⟩

set_option maxRecDepth 4000 in
theorem sp_m_healthIn {σ : pT} {I : pI} {F : pF} {m nA : Nat} {a w : Int32} (h : isMo σ m) (hA : I (m + 1) 1 = nI nA) (hA8 : nA ≤ 8)  : PE yX8_healthIn cX8_healthIn mX8_healthIn [.ref m, .int a, .int w] σ I F (some (.float (mHealthInV (I (m + 1)) (F (m + 2)) a w))) I F := by
  have KK : ∀ i d, i < nA → d ≤ 200 → PW cX8_healthIn mX8_healthIn (fM (qE (some (.float (wornN (mWear (I (m + 1)) i) d (F (m + 2) i)))) σ I F)) 32 [.ref m, .int (nI i), .int (nI d), .float (F (m + 2) i), .int 0] [] σ I F (0, 0) := by
    intro i d hi hd2
    have L32 : ∀ k, k ≤ d → PW cX8_healthIn mX8_healthIn (fM (qE (some (.float (wornN (mWear (I (m + 1)) i) d (F (m + 2) i)))) σ I F)) 32 [.ref m, .int (nI i), .int (nI d), .float (wornN (mWear (I (m + 1)) i) k (F (m + 2) i)), .int (nI k)] [] σ I F (0, 0) := by
      refine dn (fun k => PW cX8_healthIn mX8_healthIn (fM (qE (some (.float (wornN (mWear (I (m + 1)) i) d (F (m + 2) i)))) σ I F)) 32 [.ref m, .int (nI i), .int (nI d), .float (wornN (mWear (I (m + 1)) i) k (F (m + 2) i)), .int (nI k)] [] σ I F (0, 0)) d ?_ ?_
      · skip
        refine pw_iload dX8_healthIn_32 rfl ?_
        refine pw_iload_n dX8_healthIn_34 rfl rfl ?_
        refine pw_icmp_ge (tgt := 51) dX8_healthIn_35 (by decide) (fun c_35 => ?_) (fun c_35 => absurd (k_ge rfl) c_35)
        refine pw_fload_n dX8_healthIn_51 rfl rfl ?_
        exact pw_fret dX8_healthIn_52 rfl ⟨rfl, rfl, rfl, rfl⟩
      · intro k hk ih
        refine pw_iload dX8_healthIn_32 rfl ?_
        refine pw_iload_n dX8_healthIn_34 rfl rfl ?_
        refine pw_icmp_ge (tgt := 51) dX8_healthIn_35 (by decide) (fun c_35 => absurd c_35 (k_lt rfl hk (by omega))) (fun c_35 => ?_)
        refine pw_aload_n dX8_healthIn_38 rfl rfl ?_
        refine pw_iload_n dX8_healthIn_39 rfl rfl ?_
        refine pw_fload_n dX8_healthIn_40 rfl rfl ?_
        refine pe_callVf dX8_healthIn_41 oX_X8_worn lk_RX8_154 (sp_m_worn (a := i) h (by omega)) (mo_k h) rfl rfl (Nat.le_of_ble_eq_true rfl) (by decide) ?_
        refine pw_fstore_n dX8_healthIn_44 rfl (by decide) rfl ?_
        refine pw_iinc (v := nI (k + 1)) dX8_healthIn_45 rfl (nI_add _ _) rfl ?_
        refine pw_goto (tgt := 32) dX8_healthIn_48 (by decide) ?_
        rw [wornN_s] at ih
        exact ih
    exact L32 0 (Nat.zero_le _)
  refine PE.of oP_X8_healthIn (catOK rfl) (Nat.le_of_ble_eq_true rfl) ?_
  show PW _ _ _ 0 [.ref m, .int a, .int w, pJ, pJ] [] _ _ _ _
  refine pw_aload_n dX8_healthIn_0 rfl rfl ?_
  refine pw_iload_n dX8_healthIn_1 rfl rfl ?_
  refine pe_callVi dX8_healthIn_2 oX_X8_isAsset lk_RX8_65 (sp_isAsset h hA hA8) (mo_k h) rfl rfl (Nat.le_of_ble_eq_true rfl) (by decide) ?_
  refine pw_ifB_eq (tgt := 19) dX8_healthIn_5 (by decide) (fun c_5 => ?_) (fun c_5 => ?_)
  · refine pw_ldcf dX8_healthIn_19 kc_RX8_214 ?_
    exact pw_fret dX8_healthIn_21 rfl ⟨by rw [mHealthInV, if_neg (fun z => of_decide_eq_false c_5 z.1)], rfl, rfl, rfl⟩
  · obtain ⟨i, hi, rfl⟩ := has_nat c_5 hA (by omega)
    refine pw_iload_n dX8_healthIn_8 rfl rfl ?_
    refine pw_iconst (v := 0) dX8_healthIn_9 (by decide) ?_
    refine pw_sipush (v := 200) dX8_healthIn_10 (by decide) ?_
    refine pe_callSi dX8_healthIn_13 oX_X8_isIn lk_RX8_32 sp_isIn rfl rfl (Nat.le_of_ble_eq_true rfl) (by decide) ?_
    refine pw_ifB_ne (tgt := 22) dX8_healthIn_16 (by decide) (fun c_16 => ?_) (fun c_16 => ?_)
    · obtain ⟨d, hd1, hd2, rfl⟩ := win_nat (lo := 0) (hi := 200) c_16 (by decide) (by decide)
      refine pw_aload_n dX8_healthIn_22 rfl rfl ?_
      refine pw_getR (x := (m + 2)) dX8_healthIn_23 fd_RX8_13 (by decide) (mo_k h) rfl (mo_r2 h) ?_
      refine pw_iload_n dX8_healthIn_26 rfl rfl ?_
      refine pw_faldN (j := i) dX8_healthIn_27 (mo_k2 h) (by omega) (by decide) ?_
      refine pw_fstore_n dX8_healthIn_28 rfl (by decide) rfl ?_
      refine pw_iconst (v := 0) dX8_healthIn_29 (by decide) ?_
      refine pw_istore dX8_healthIn_30 (by decide) rfl ?_
      rw [mHealthInV, if_pos ⟨of_decide_eq_true c_5, of_decide_eq_true c_16⟩, nI_clamp (show i < 2 ^ 31 by omega), nI_clamp (show d < 2 ^ 31 by omega)]; exact KK i d hi hd2
    · refine pw_ldcf dX8_healthIn_19 kc_RX8_214 ?_
      exact pw_fret dX8_healthIn_21 rfl ⟨by rw [mHealthInV, if_neg (fun z => of_decide_eq_false c_16 z.2)], rfl, rfl, rfl⟩

set_option maxRecDepth 4000 in
theorem sp_m_hoursTo {σ : pT} {I : pI} {F : pF} {m nA : Nat} {a w : Int32} (h : isMo σ m) (hA : I (m + 1) 1 = nI nA) (hA8 : nA ≤ 8)  : PE yX8_hoursTo cX8_hoursTo mX8_hoursTo [.ref m, .int a, .int w] σ I F (some (.int (mHoursToV (I (m + 1)) (F (m + 2)) a w))) I F := by
  have KK : ∀ i w, i < nA → PW cX8_hoursTo mX8_hoursTo (fM (qE (some (.int (untilB (mWear (I (m + 1)) i) (FP.fdiv (FP.i2f w) 1120403456) 201 0 (F (m + 2) i)))) σ I F)) 40 [.ref m, .int (nI i), .int w, .float (FP.fdiv (FP.i2f w) 1120403456), .float (F (m + 2) i), .int 0] [] σ I F (0, 0) := by
    intro i w hi
    have L40 : ∀ k, k ≤ 201 → ∀ x : UInt32, untilB (mWear (I (m + 1)) i) (FP.fdiv (FP.i2f w) 1120403456) (201 - k) k x = untilB (mWear (I (m + 1)) i) (FP.fdiv (FP.i2f w) 1120403456) 201 0 (F (m + 2) i) → PW cX8_hoursTo mX8_hoursTo (fM (qE (some (.int (untilB (mWear (I (m + 1)) i) (FP.fdiv (FP.i2f w) 1120403456) 201 0 (F (m + 2) i)))) σ I F)) 40 [.ref m, .int (nI i), .int w, .float (FP.fdiv (FP.i2f w) 1120403456), .float x, .int (nI k)] [] σ I F (0, 0) := by
      refine dn (fun k => ∀ x : UInt32, untilB (mWear (I (m + 1)) i) (FP.fdiv (FP.i2f w) 1120403456) (201 - k) k x = untilB (mWear (I (m + 1)) i) (FP.fdiv (FP.i2f w) 1120403456) 201 0 (F (m + 2) i) → PW cX8_hoursTo mX8_hoursTo (fM (qE (some (.int (untilB (mWear (I (m + 1)) i) (FP.fdiv (FP.i2f w) 1120403456) 201 0 (F (m + 2) i)))) σ I F)) 40 [.ref m, .int (nI i), .int w, .float (FP.fdiv (FP.i2f w) 1120403456), .float x, .int (nI k)] [] σ I F (0, 0)) 201 ?_ ?_
      · intro x hx
        refine pw_iload dX8_hoursTo_40 rfl ?_
        refine pw_sipush (v := 200) dX8_hoursTo_42 (by decide) ?_
        refine pw_icmp_gt (tgt := 73) dX8_hoursTo_45 (by decide) (fun c_45 => ?_) (fun c_45 => absurd (by decide) c_45)
        refine pw_bipush (v := (-5)) dX8_hoursTo_73 (by decide) ?_
        exact pw_iret dX8_hoursTo_75 rfl ⟨by rw [until_0] at hx; rw [← hx], rfl, rfl, rfl⟩
      · intro k hk ih
        intro x hx
        refine pw_iload dX8_hoursTo_40 rfl ?_
        refine pw_sipush (v := 200) dX8_hoursTo_42 (by decide) ?_
        refine pw_icmp_gt (tgt := 73) dX8_hoursTo_45 (by decide) (fun c_45 => absurd c_45 (nI_nlt (a := 200) (by omega) (by omega))) (fun c_45 => ?_)
        refine pw_fload dX8_hoursTo_48 rfl ?_
        refine pw_fload_n dX8_hoursTo_50 rfl rfl ?_
        refine pw_fcmp dX8_hoursTo_51 ?_
        refine pw_if_ge (tgt := 58) dX8_hoursTo_52 (by decide) (fun c_52 => ?_) (fun c_52 => ?_)
        · refine pw_aload_n dX8_hoursTo_58 rfl rfl ?_
          refine pw_iload_n dX8_hoursTo_59 rfl rfl ?_
          refine pw_fload dX8_hoursTo_60 rfl ?_
          refine pe_callVf dX8_hoursTo_62 oX_X8_worn lk_RX8_154 (sp_m_worn (a := i) h (by omega)) (mo_k h) rfl rfl (Nat.le_of_ble_eq_true rfl) (by decide) ?_
          refine pw_fstore dX8_hoursTo_65 (by decide) rfl ?_
          refine pw_iinc (v := nI (k + 1)) dX8_hoursTo_67 rfl (nI_add _ _) rfl ?_
          refine pw_goto (tgt := 40) dX8_hoursTo_70 (by decide) ?_
          exact ih _ (by rw [until_f hk c_52] at hx; exact hx)
        · refine pw_iload dX8_hoursTo_55 rfl ?_
          exact pw_iret dX8_hoursTo_57 rfl ⟨by rw [until_t hk c_52] at hx; rw [← hx], rfl, rfl, rfl⟩
    exact L40 0 (Nat.zero_le _) _ rfl
  refine PE.of oP_X8_hoursTo (catOK rfl) (Nat.le_of_ble_eq_true rfl) ?_
  show PW _ _ _ 0 [.ref m, .int a, .int w, pJ, pJ, pJ] [] _ _ _ _
  refine pw_aload_n dX8_hoursTo_0 rfl rfl ?_
  refine pw_iload_n dX8_hoursTo_1 rfl rfl ?_
  refine pe_callVi dX8_hoursTo_2 oX_X8_isAsset lk_RX8_65 (sp_isAsset h hA hA8) (mo_k h) rfl rfl (Nat.le_of_ble_eq_true rfl) (by decide) ?_
  refine pw_ifB_ne (tgt := 10) dX8_hoursTo_5 (by decide) (fun c_5 => ?_) (fun c_5 => ?_)
  · obtain ⟨i, hi, rfl⟩ := has_nat c_5 hA (by omega)
    refine pw_iload_n dX8_hoursTo_10 rfl rfl ?_
    refine pw_iconst (v := 1) dX8_hoursTo_11 (by decide) ?_
    refine pw_bipush (v := 100) dX8_hoursTo_12 (by decide) ?_
    refine pe_callSi dX8_hoursTo_14 oX_X8_isIn lk_RX8_32 sp_isIn rfl rfl (Nat.le_of_ble_eq_true rfl) (by decide) ?_
    refine pw_ifB_ne (tgt := 23) dX8_hoursTo_17 (by decide) (fun c_17 => ?_) (fun c_17 => ?_)
    · refine pw_iload_n dX8_hoursTo_23 rfl rfl ?_
      refine pw_i2f dX8_hoursTo_24 ?_
      refine pw_ldcf dX8_hoursTo_25 kc_RX8_215 ?_
      refine pw_fdiv dX8_hoursTo_27 ?_
      refine pw_fstore_n dX8_hoursTo_28 rfl (by decide) rfl ?_
      refine pw_aload_n dX8_hoursTo_29 rfl rfl ?_
      refine pw_getR (x := (m + 2)) dX8_hoursTo_30 fd_RX8_13 (by decide) (mo_k h) rfl (mo_r2 h) ?_
      refine pw_iload_n dX8_hoursTo_33 rfl rfl ?_
      refine pw_faldN (j := i) dX8_hoursTo_34 (mo_k2 h) (by omega) (by decide) ?_
      refine pw_fstore dX8_hoursTo_35 (by decide) rfl ?_
      refine pw_iconst (v := 0) dX8_hoursTo_37 (by decide) ?_
      refine pw_istore dX8_hoursTo_38 (by decide) rfl ?_
      rw [mHoursToV, if_pos (of_decide_eq_true c_5), if_pos (of_decide_eq_true c_17), nI_clamp (show i < 2 ^ 31 by omega)]; exact KK i w hi
    · refine pw_bipush (v := (-2)) dX8_hoursTo_20 (by decide) ?_
      exact pw_iret dX8_hoursTo_22 rfl ⟨by rw [mHoursToV, if_pos (of_decide_eq_true c_5), if_neg (of_decide_eq_false c_17)], rfl, rfl, rfl⟩
  · refine pw_iconst (v := (-1)) dX8_hoursTo_8 (by decide) ?_
    exact pw_iret dX8_hoursTo_9 rfl ⟨by rw [mHoursToV, if_neg (of_decide_eq_false c_5)], rfl, rfl, rfl⟩

set_option maxRecDepth 4000 in
theorem sp_tasksAt {σ : pT} {I : pI} {F : pF} {m n : Nat} {a f l : Int32} (h : isMo σ m) (hn : I (m + 1) 3 = nI n) (hn4 : n ≤ 24)  : PE yX8_tasksAt cX8_tasksAt mX8_tasksAt [.ref m, .int a, .int f, .int l] σ I F (some (.int (nI (cntT (fun t => decide (I (m + 1) (251 + 10 * t + 0) = a) && decide (f ≤ I (m + 1) (251 + 10 * t + 6) ∧ I (m + 1) (251 + 10 * t + 6) ≤ l)) n)))) I F := by
  refine PE.of oP_X8_tasksAt (catOK rfl) (Nat.le_of_ble_eq_true rfl) ?_
  show PW _ _ _ 0 [.ref m, .int a, .int f, .int l, pJ, pJ] [] _ _ _ _
  have L6 : ∀ k, k ≤ n → PW cX8_tasksAt mX8_tasksAt (fM (qE (some (.int (nI (cntT (fun t => decide (I (m + 1) (251 + 10 * t + 0) = a) && decide (f ≤ I (m + 1) (251 + 10 * t + 6) ∧ I (m + 1) (251 + 10 * t + 6) ≤ l)) n)))) σ I F)) 6 [.ref m, .int a, .int f, .int l, .int (nI (cntT (fun t => decide (I (m + 1) (251 + 10 * t + 0) = a) && decide (f ≤ I (m + 1) (251 + 10 * t + 6) ∧ I (m + 1) (251 + 10 * t + 6) ≤ l)) k)), .int (nI k)] [] σ I F (0, 0) := by
    refine dn (fun k => PW cX8_tasksAt mX8_tasksAt (fM (qE (some (.int (nI (cntT (fun t => decide (I (m + 1) (251 + 10 * t + 0) = a) && decide (f ≤ I (m + 1) (251 + 10 * t + 6) ∧ I (m + 1) (251 + 10 * t + 6) ≤ l)) n)))) σ I F)) 6 [.ref m, .int a, .int f, .int l, .int (nI (cntT (fun t => decide (I (m + 1) (251 + 10 * t + 0) = a) && decide (f ≤ I (m + 1) (251 + 10 * t + 6) ∧ I (m + 1) (251 + 10 * t + 6) ≤ l)) k)), .int (nI k)] [] σ I F (0, 0)) n ?_ ?_
    · skip
      refine pw_iload dX8_tasksAt_6 rfl ?_
      refine pw_aload_n dX8_tasksAt_8 rfl rfl ?_
      refine pw_getR (x := (m + 1)) dX8_tasksAt_9 fd_RX8_7 (by decide) (mo_k h) rfl (mo_r1 h) ?_
      refine pw_iconst (v := 3) dX8_tasksAt_12 (by decide) ?_
      refine pw_ialdN (j := 3) dX8_tasksAt_13 (mo_k1 h) (by omega) (by decide) ?_
      refine pw_icmp_ge (tgt := 58) dX8_tasksAt_14 (by decide) (fun c_14 => ?_) (fun c_14 => absurd (k_ge hn) c_14)
      refine pw_iload dX8_tasksAt_58 rfl ?_
      exact pw_iret dX8_tasksAt_60 rfl ⟨rfl, rfl, rfl, rfl⟩
    · intro k hk ih
      refine pw_iload dX8_tasksAt_6 rfl ?_
      refine pw_aload_n dX8_tasksAt_8 rfl rfl ?_
      refine pw_getR (x := (m + 1)) dX8_tasksAt_9 fd_RX8_7 (by decide) (mo_k h) rfl (mo_r1 h) ?_
      refine pw_iconst (v := 3) dX8_tasksAt_12 (by decide) ?_
      refine pw_ialdN (j := 3) dX8_tasksAt_13 (mo_k1 h) (by omega) (by decide) ?_
      refine pw_icmp_ge (tgt := 58) dX8_tasksAt_14 (by decide) (fun c_14 => absurd c_14 (k_lt hn hk (by omega))) (fun c_14 => ?_)
      refine pw_iload dX8_tasksAt_17 rfl ?_
      refine pw_aload_n dX8_tasksAt_19 rfl rfl ?_
      refine pw_iload dX8_tasksAt_20 rfl ?_
      refine pw_iconst (v := 0) dX8_tasksAt_22 (by decide) ?_
      refine pe_callVi dX8_tasksAt_23 oX_X8_ofTask lk_RX8_84 (sp_ofTask (a := k) (w := 0) h (by omega) (by omega)) (mo_k h) rfl rfl (Nat.le_of_ble_eq_true rfl) (by decide) ?_
      refine pw_iload_n dX8_tasksAt_26 rfl rfl ?_
      refine pw_icmp_ne (tgt := 48) dX8_tasksAt_27 (by decide) (fun c_27 => ?_) (fun c_27 => ?_)
      · refine pw_iconst (v := 0) dX8_tasksAt_48 (by decide) ?_
        refine pw_iadd dX8_tasksAt_49 ?_
        rw [show (nI (cntT (fun t => decide (I (m + 1) (251 + 10 * t + 0) = a) && decide (f ≤ I (m + 1) (251 + 10 * t + 6) ∧ I (m + 1) (251 + 10 * t + 6) ≤ l)) k) + 0 : Int32) = nI ((cntT (fun t => decide (I (m + 1) (251 + 10 * t + 0) = a) && decide (f ≤ I (m + 1) (251 + 10 * t + 6) ∧ I (m + 1) (251 + 10 * t + 6) ≤ l)) k) + 0) from nI_add _ _]
        refine pw_istore dX8_tasksAt_50 (by decide) rfl ?_
        refine pw_iinc (v := nI (k + 1)) dX8_tasksAt_52 rfl (nI_add _ _) rfl ?_
        refine pw_goto (tgt := 6) dX8_tasksAt_55 (by decide) ?_
        simp only [Nat.add_zero] at c_27
        have hP : (fun t => decide (I (m + 1) (251 + 10 * t + 0) = a) && decide (f ≤ I (m + 1) (251 + 10 * t + 6) ∧ I (m + 1) (251 + 10 * t + 6) ≤ l)) k = false := by simp [c_27]
        rw [cnt_f hP] at ih
        exact ih
      · refine pw_aload_n dX8_tasksAt_30 rfl rfl ?_
        refine pw_iload dX8_tasksAt_31 rfl ?_
        refine pe_callVi dX8_tasksAt_33 oX_X8_stateOf lk_RX8_87 (sp_stateOf (a := k) h (by omega)) (mo_k h) rfl rfl (Nat.le_of_ble_eq_true rfl) (by decide) ?_
        refine pw_iload_n dX8_tasksAt_36 rfl rfl ?_
        refine pw_iload_n dX8_tasksAt_37 rfl rfl ?_
        refine pe_callSi dX8_tasksAt_38 oX_X8_isIn lk_RX8_32 sp_isIn rfl rfl (Nat.le_of_ble_eq_true rfl) (by decide) ?_
        refine pw_ifB_eq (tgt := 48) dX8_tasksAt_41 (by decide) (fun c_41 => ?_) (fun c_41 => ?_)
        · refine pw_iconst (v := 0) dX8_tasksAt_48 (by decide) ?_
          refine pw_iadd dX8_tasksAt_49 ?_
          rw [show (nI (cntT (fun t => decide (I (m + 1) (251 + 10 * t + 0) = a) && decide (f ≤ I (m + 1) (251 + 10 * t + 6) ∧ I (m + 1) (251 + 10 * t + 6) ≤ l)) k) + 0 : Int32) = nI ((cntT (fun t => decide (I (m + 1) (251 + 10 * t + 0) = a) && decide (f ≤ I (m + 1) (251 + 10 * t + 6) ∧ I (m + 1) (251 + 10 * t + 6) ≤ l)) k) + 0) from nI_add _ _]
          refine pw_istore dX8_tasksAt_50 (by decide) rfl ?_
          refine pw_iinc (v := nI (k + 1)) dX8_tasksAt_52 rfl (nI_add _ _) rfl ?_
          refine pw_goto (tgt := 6) dX8_tasksAt_55 (by decide) ?_
          simp only [Nat.add_zero] at c_27
          have hP : (fun t => decide (I (m + 1) (251 + 10 * t + 0) = a) && decide (f ≤ I (m + 1) (251 + 10 * t + 6) ∧ I (m + 1) (251 + 10 * t + 6) ≤ l)) k = false := by simp [c_27, c_41]
          rw [cnt_f hP] at ih
          exact ih
        · refine pw_iconst (v := 1) dX8_tasksAt_44 (by decide) ?_
          refine pw_goto (tgt := 49) dX8_tasksAt_45 (by decide) ?_
          refine pw_iadd dX8_tasksAt_49 ?_
          rw [show (nI (cntT (fun t => decide (I (m + 1) (251 + 10 * t + 0) = a) && decide (f ≤ I (m + 1) (251 + 10 * t + 6) ∧ I (m + 1) (251 + 10 * t + 6) ≤ l)) k) + 1 : Int32) = nI ((cntT (fun t => decide (I (m + 1) (251 + 10 * t + 0) = a) && decide (f ≤ I (m + 1) (251 + 10 * t + 6) ∧ I (m + 1) (251 + 10 * t + 6) ≤ l)) k) + 1) from nI_add _ _]
          refine pw_istore dX8_tasksAt_50 (by decide) rfl ?_
          refine pw_iinc (v := nI (k + 1)) dX8_tasksAt_52 rfl (nI_add _ _) rfl ?_
          refine pw_goto (tgt := 6) dX8_tasksAt_55 (by decide) ?_
          simp only [Nat.add_zero] at c_27
          have hP : (fun t => decide (I (m + 1) (251 + 10 * t + 0) = a) && decide (f ≤ I (m + 1) (251 + 10 * t + 6) ∧ I (m + 1) (251 + 10 * t + 6) ≤ l)) k = true := by simp [c_27, c_41]
          rw [cnt_t hP] at ih
          exact ih
  refine pw_iconst (v := 0) dX8_tasksAt_0 (by decide) ?_
  refine pw_istore dX8_tasksAt_1 (by decide) rfl ?_
  refine pw_iconst (v := 0) dX8_tasksAt_3 (by decide) ?_
  refine pw_istore dX8_tasksAt_4 (by decide) rfl ?_
  exact L6 0 (Nat.zero_le _)

set_option maxRecDepth 4000 in
theorem sp_doneBy {σ : pT} {I : pI} {F : pF} {m n : Nat} {c : Int32} (h : isMo σ m) (hn : I (m + 1) 3 = nI n) (hn4 : n ≤ 24)  : PE yX8_doneBy cX8_doneBy mX8_doneBy [.ref m, .int c] σ I F (some (.int (nI (cntT (fun t => decide (I (m + 1) (251 + 10 * t + 6) = 4) && decide (I (m + 1) (251 + 10 * t + 7) = c)) n)))) I F := by
  refine PE.of oP_X8_doneBy (catOK rfl) (Nat.le_of_ble_eq_true rfl) ?_
  show PW _ _ _ 0 [.ref m, .int c, pJ, pJ] [] _ _ _ _
  have L4 : ∀ k, k ≤ n → PW cX8_doneBy mX8_doneBy (fM (qE (some (.int (nI (cntT (fun t => decide (I (m + 1) (251 + 10 * t + 6) = 4) && decide (I (m + 1) (251 + 10 * t + 7) = c)) n)))) σ I F)) 4 [.ref m, .int c, .int (nI (cntT (fun t => decide (I (m + 1) (251 + 10 * t + 6) = 4) && decide (I (m + 1) (251 + 10 * t + 7) = c)) k)), .int (nI k)] [] σ I F (0, 0) := by
    refine dn (fun k => PW cX8_doneBy mX8_doneBy (fM (qE (some (.int (nI (cntT (fun t => decide (I (m + 1) (251 + 10 * t + 6) = 4) && decide (I (m + 1) (251 + 10 * t + 7) = c)) n)))) σ I F)) 4 [.ref m, .int c, .int (nI (cntT (fun t => decide (I (m + 1) (251 + 10 * t + 6) = 4) && decide (I (m + 1) (251 + 10 * t + 7) = c)) k)), .int (nI k)] [] σ I F (0, 0)) n ?_ ?_
    · skip
      refine pw_iload_n dX8_doneBy_4 rfl rfl ?_
      refine pw_aload_n dX8_doneBy_5 rfl rfl ?_
      refine pw_getR (x := (m + 1)) dX8_doneBy_6 fd_RX8_7 (by decide) (mo_k h) rfl (mo_r1 h) ?_
      refine pw_iconst (v := 3) dX8_doneBy_9 (by decide) ?_
      refine pw_ialdN (j := 3) dX8_doneBy_10 (mo_k1 h) (by omega) (by decide) ?_
      refine pw_icmp_ge (tgt := 48) dX8_doneBy_11 (by decide) (fun c_11 => ?_) (fun c_11 => absurd (k_ge hn) c_11)
      refine pw_iload_n dX8_doneBy_48 rfl rfl ?_
      exact pw_iret dX8_doneBy_49 rfl ⟨rfl, rfl, rfl, rfl⟩
    · intro k hk ih
      refine pw_iload_n dX8_doneBy_4 rfl rfl ?_
      refine pw_aload_n dX8_doneBy_5 rfl rfl ?_
      refine pw_getR (x := (m + 1)) dX8_doneBy_6 fd_RX8_7 (by decide) (mo_k h) rfl (mo_r1 h) ?_
      refine pw_iconst (v := 3) dX8_doneBy_9 (by decide) ?_
      refine pw_ialdN (j := 3) dX8_doneBy_10 (mo_k1 h) (by omega) (by decide) ?_
      refine pw_icmp_ge (tgt := 48) dX8_doneBy_11 (by decide) (fun c_11 => absurd c_11 (k_lt hn hk (by omega))) (fun c_11 => ?_)
      refine pw_iload_n dX8_doneBy_14 rfl rfl ?_
      refine pw_aload_n dX8_doneBy_15 rfl rfl ?_
      refine pw_iload_n dX8_doneBy_16 rfl rfl ?_
      refine pe_callVi dX8_doneBy_17 oX_X8_stateOf lk_RX8_87 (sp_stateOf (a := k) h (by omega)) (mo_k h) rfl rfl (Nat.le_of_ble_eq_true rfl) (by decide) ?_
      refine pw_iconst (v := 4) dX8_doneBy_20 (by decide) ?_
      refine pw_icmp_ne (tgt := 39) dX8_doneBy_21 (by decide) (fun c_21 => ?_) (fun c_21 => ?_)
      · refine pw_iconst (v := 0) dX8_doneBy_39 (by decide) ?_
        refine pw_iadd dX8_doneBy_40 ?_
        rw [show (nI (cntT (fun t => decide (I (m + 1) (251 + 10 * t + 6) = 4) && decide (I (m + 1) (251 + 10 * t + 7) = c)) k) + 0 : Int32) = nI ((cntT (fun t => decide (I (m + 1) (251 + 10 * t + 6) = 4) && decide (I (m + 1) (251 + 10 * t + 7) = c)) k) + 0) from nI_add _ _]
        refine pw_istore_n dX8_doneBy_41 rfl (by decide) rfl ?_
        refine pw_iinc (v := nI (k + 1)) dX8_doneBy_42 rfl (nI_add _ _) rfl ?_
        refine pw_goto (tgt := 4) dX8_doneBy_45 (by decide) ?_
        have hP : (fun t => decide (I (m + 1) (251 + 10 * t + 6) = 4) && decide (I (m + 1) (251 + 10 * t + 7) = c)) k = false := by simp [c_21]
        rw [cnt_f hP] at ih
        exact ih
      · refine pw_aload_n dX8_doneBy_24 rfl rfl ?_
        refine pw_iload_n dX8_doneBy_25 rfl rfl ?_
        refine pw_bipush (v := 7) dX8_doneBy_26 (by decide) ?_
        refine pe_callVi dX8_doneBy_28 oX_X8_ofTask lk_RX8_84 (sp_ofTask (a := k) (w := 7) h (by omega) (by omega)) (mo_k h) rfl rfl (Nat.le_of_ble_eq_true rfl) (by decide) ?_
        refine pw_iload_n dX8_doneBy_31 rfl rfl ?_
        refine pw_icmp_ne (tgt := 39) dX8_doneBy_32 (by decide) (fun c_32 => ?_) (fun c_32 => ?_)
        · refine pw_iconst (v := 0) dX8_doneBy_39 (by decide) ?_
          refine pw_iadd dX8_doneBy_40 ?_
          rw [show (nI (cntT (fun t => decide (I (m + 1) (251 + 10 * t + 6) = 4) && decide (I (m + 1) (251 + 10 * t + 7) = c)) k) + 0 : Int32) = nI ((cntT (fun t => decide (I (m + 1) (251 + 10 * t + 6) = 4) && decide (I (m + 1) (251 + 10 * t + 7) = c)) k) + 0) from nI_add _ _]
          refine pw_istore_n dX8_doneBy_41 rfl (by decide) rfl ?_
          refine pw_iinc (v := nI (k + 1)) dX8_doneBy_42 rfl (nI_add _ _) rfl ?_
          refine pw_goto (tgt := 4) dX8_doneBy_45 (by decide) ?_
          have hP : (fun t => decide (I (m + 1) (251 + 10 * t + 6) = 4) && decide (I (m + 1) (251 + 10 * t + 7) = c)) k = false := by simp [c_21, c_32]
          rw [cnt_f hP] at ih
          exact ih
        · refine pw_iconst (v := 1) dX8_doneBy_35 (by decide) ?_
          refine pw_goto (tgt := 40) dX8_doneBy_36 (by decide) ?_
          refine pw_iadd dX8_doneBy_40 ?_
          rw [show (nI (cntT (fun t => decide (I (m + 1) (251 + 10 * t + 6) = 4) && decide (I (m + 1) (251 + 10 * t + 7) = c)) k) + 1 : Int32) = nI ((cntT (fun t => decide (I (m + 1) (251 + 10 * t + 6) = 4) && decide (I (m + 1) (251 + 10 * t + 7) = c)) k) + 1) from nI_add _ _]
          refine pw_istore_n dX8_doneBy_41 rfl (by decide) rfl ?_
          refine pw_iinc (v := nI (k + 1)) dX8_doneBy_42 rfl (nI_add _ _) rfl ?_
          refine pw_goto (tgt := 4) dX8_doneBy_45 (by decide) ?_
          have hP : (fun t => decide (I (m + 1) (251 + 10 * t + 6) = 4) && decide (I (m + 1) (251 + 10 * t + 7) = c)) k = true := by simp [c_21, c_32]
          rw [cnt_t hP] at ih
          exact ih
  refine pw_iconst (v := 0) dX8_doneBy_0 (by decide) ?_
  refine pw_istore_n dX8_doneBy_1 rfl (by decide) rfl ?_
  refine pw_iconst (v := 0) dX8_doneBy_2 (by decide) ?_
  refine pw_istore_n dX8_doneBy_3 rfl (by decide) rfl ?_
  exact L4 0 (Nat.zero_le _)

set_option maxRecDepth 4000 in
theorem sp_inState {σ : pT} {I : pI} {F : pF} {m n : Nat} {s : Int32} (h : isMo σ m) (hn : I (m + 1) 3 = nI n) (hn4 : n ≤ 24)  : PE yX8_inState cX8_inState mX8_inState [.ref m, .int s] σ I F (some (.int (nI (cntT (fun t => decide (I (m + 1) (251 + 10 * t + 6) = s)) n)))) I F := by
  refine PE.of oP_X8_inState (catOK rfl) (Nat.le_of_ble_eq_true rfl) ?_
  show PW _ _ _ 0 [.ref m, .int s, pJ, pJ] [] _ _ _ _
  have L4 : ∀ k, k ≤ n → PW cX8_inState mX8_inState (fM (qE (some (.int (nI (cntT (fun t => decide (I (m + 1) (251 + 10 * t + 6) = s)) n)))) σ I F)) 4 [.ref m, .int s, .int (nI (cntT (fun t => decide (I (m + 1) (251 + 10 * t + 6) = s)) k)), .int (nI k)] [] σ I F (0, 0) := by
    refine dn (fun k => PW cX8_inState mX8_inState (fM (qE (some (.int (nI (cntT (fun t => decide (I (m + 1) (251 + 10 * t + 6) = s)) n)))) σ I F)) 4 [.ref m, .int s, .int (nI (cntT (fun t => decide (I (m + 1) (251 + 10 * t + 6) = s)) k)), .int (nI k)] [] σ I F (0, 0)) n ?_ ?_
    · skip
      refine pw_iload_n dX8_inState_4 rfl rfl ?_
      refine pw_aload_n dX8_inState_5 rfl rfl ?_
      refine pw_getR (x := (m + 1)) dX8_inState_6 fd_RX8_7 (by decide) (mo_k h) rfl (mo_r1 h) ?_
      refine pw_iconst (v := 3) dX8_inState_9 (by decide) ?_
      refine pw_ialdN (j := 3) dX8_inState_10 (mo_k1 h) (by omega) (by decide) ?_
      refine pw_icmp_ge (tgt := 37) dX8_inState_11 (by decide) (fun c_11 => ?_) (fun c_11 => absurd (k_ge hn) c_11)
      refine pw_iload_n dX8_inState_37 rfl rfl ?_
      exact pw_iret dX8_inState_38 rfl ⟨rfl, rfl, rfl, rfl⟩
    · intro k hk ih
      refine pw_iload_n dX8_inState_4 rfl rfl ?_
      refine pw_aload_n dX8_inState_5 rfl rfl ?_
      refine pw_getR (x := (m + 1)) dX8_inState_6 fd_RX8_7 (by decide) (mo_k h) rfl (mo_r1 h) ?_
      refine pw_iconst (v := 3) dX8_inState_9 (by decide) ?_
      refine pw_ialdN (j := 3) dX8_inState_10 (mo_k1 h) (by omega) (by decide) ?_
      refine pw_icmp_ge (tgt := 37) dX8_inState_11 (by decide) (fun c_11 => absurd c_11 (k_lt hn hk (by omega))) (fun c_11 => ?_)
      refine pw_iload_n dX8_inState_14 rfl rfl ?_
      refine pw_aload_n dX8_inState_15 rfl rfl ?_
      refine pw_iload_n dX8_inState_16 rfl rfl ?_
      refine pe_callVi dX8_inState_17 oX_X8_stateOf lk_RX8_87 (sp_stateOf (a := k) h (by omega)) (mo_k h) rfl rfl (Nat.le_of_ble_eq_true rfl) (by decide) ?_
      refine pw_iload_n dX8_inState_20 rfl rfl ?_
      refine pw_icmp_ne (tgt := 28) dX8_inState_21 (by decide) (fun c_21 => ?_) (fun c_21 => ?_)
      · refine pw_iconst (v := 0) dX8_inState_28 (by decide) ?_
        refine pw_iadd dX8_inState_29 ?_
        rw [show (nI (cntT (fun t => decide (I (m + 1) (251 + 10 * t + 6) = s)) k) + 0 : Int32) = nI ((cntT (fun t => decide (I (m + 1) (251 + 10 * t + 6) = s)) k) + 0) from nI_add _ _]
        refine pw_istore_n dX8_inState_30 rfl (by decide) rfl ?_
        refine pw_iinc (v := nI (k + 1)) dX8_inState_31 rfl (nI_add _ _) rfl ?_
        refine pw_goto (tgt := 4) dX8_inState_34 (by decide) ?_
        have hP : (fun t => decide (I (m + 1) (251 + 10 * t + 6) = s)) k = false := by simp [c_21]
        rw [cnt_f hP] at ih
        exact ih
      · refine pw_iconst (v := 1) dX8_inState_24 (by decide) ?_
        refine pw_goto (tgt := 29) dX8_inState_25 (by decide) ?_
        refine pw_iadd dX8_inState_29 ?_
        rw [show (nI (cntT (fun t => decide (I (m + 1) (251 + 10 * t + 6) = s)) k) + 1 : Int32) = nI ((cntT (fun t => decide (I (m + 1) (251 + 10 * t + 6) = s)) k) + 1) from nI_add _ _]
        refine pw_istore_n dX8_inState_30 rfl (by decide) rfl ?_
        refine pw_iinc (v := nI (k + 1)) dX8_inState_31 rfl (nI_add _ _) rfl ?_
        refine pw_goto (tgt := 4) dX8_inState_34 (by decide) ?_
        have hP : (fun t => decide (I (m + 1) (251 + 10 * t + 6) = s)) k = true := by simp [c_21]
        rw [cnt_t hP] at ih
        exact ih
  refine pw_iconst (v := 0) dX8_inState_0 (by decide) ?_
  refine pw_istore_n dX8_inState_1 rfl (by decide) rfl ?_
  refine pw_iconst (v := 0) dX8_inState_2 (by decide) ?_
  refine pw_istore_n dX8_inState_3 rfl (by decide) rfl ?_
  exact L4 0 (Nat.zero_le _)

set_option maxRecDepth 4000 in
theorem sp_tags {σ : pT} {I : pI} {F : pF} {m nA nC n : Nat} (h : isMo σ m) (hA : I (m + 1) 1 = nI nA) (hA8 : nA ≤ 8)  : PE yX8_tags cX8_tags mX8_tags [.ref m] σ I F (some (.int (sumT (fun a => I (m + 1) (4 + 5 * a + 4)) nA))) I F := by
  refine PE.of oP_X8_tags (catOK rfl) (Nat.le_of_ble_eq_true rfl) ?_
  show PW _ _ _ 0 [.ref m, pJ, pJ] [] _ _ _ _
  have L4 : ∀ k, k ≤ nA → PW cX8_tags mX8_tags (fM (qE (some (.int (sumT (fun a => I (m + 1) (4 + 5 * a + 4)) nA))) σ I F)) 4 [.ref m, .int (sumT (fun a => I (m + 1) (4 + 5 * a + 4)) k), .int (nI k)] [] σ I F (0, 0) := by
    refine dn (fun k => PW cX8_tags mX8_tags (fM (qE (some (.int (sumT (fun a => I (m + 1) (4 + 5 * a + 4)) nA))) σ I F)) 4 [.ref m, .int (sumT (fun a => I (m + 1) (4 + 5 * a + 4)) k), .int (nI k)] [] σ I F (0, 0)) nA ?_ ?_
    · skip
      refine pw_iload_n dX8_tags_4 rfl rfl ?_
      refine pw_aload_n dX8_tags_5 rfl rfl ?_
      refine pw_getR (x := (m + 1)) dX8_tags_6 fd_RX8_7 (by decide) (mo_k h) rfl (mo_r1 h) ?_
      refine pw_iconst (v := 1) dX8_tags_9 (by decide) ?_
      refine pw_ialdN (j := 1) dX8_tags_10 (mo_k1 h) (by omega) (by decide) ?_
      refine pw_icmp_ge (tgt := 29) dX8_tags_11 (by decide) (fun c_11 => ?_) (fun c_11 => absurd (k_ge hA) c_11)
      refine pw_iload_n dX8_tags_29 rfl rfl ?_
      exact pw_iret dX8_tags_30 rfl ⟨rfl, rfl, rfl, rfl⟩
    · intro k hk ih
      refine pw_iload_n dX8_tags_4 rfl rfl ?_
      refine pw_aload_n dX8_tags_5 rfl rfl ?_
      refine pw_getR (x := (m + 1)) dX8_tags_6 fd_RX8_7 (by decide) (mo_k h) rfl (mo_r1 h) ?_
      refine pw_iconst (v := 1) dX8_tags_9 (by decide) ?_
      refine pw_ialdN (j := 1) dX8_tags_10 (mo_k1 h) (by omega) (by decide) ?_
      refine pw_icmp_ge (tgt := 29) dX8_tags_11 (by decide) (fun c_11 => absurd c_11 (k_lt hA hk (by omega))) (fun c_11 => ?_)
      refine pw_iload_n dX8_tags_14 rfl rfl ?_
      refine pw_aload_n dX8_tags_15 rfl rfl ?_
      refine pw_iload_n dX8_tags_16 rfl rfl ?_
      refine pw_iconst (v := 4) dX8_tags_17 (by decide) ?_
      refine pe_callVi dX8_tags_18 oX_X8_of lk_RX8_69 (sp_of (a := k) (w := 4) h (by omega) (by omega)) (mo_k h) rfl rfl (Nat.le_of_ble_eq_true rfl) (by decide) ?_
      refine pw_iadd dX8_tags_21 ?_
      refine pw_istore_n dX8_tags_22 rfl (by decide) rfl ?_
      refine pw_iinc (v := nI (k + 1)) dX8_tags_23 rfl (nI_add _ _) rfl ?_
      refine pw_goto (tgt := 4) dX8_tags_26 (by decide) ?_
      exact ih
  refine pw_iconst (v := 0) dX8_tags_0 (by decide) ?_
  refine pw_istore_n dX8_tags_1 rfl (by decide) rfl ?_
  refine pw_iconst (v := 0) dX8_tags_2 (by decide) ?_
  refine pw_istore_n dX8_tags_3 rfl (by decide) rfl ?_
  exact L4 0 (Nat.zero_le _)

set_option maxRecDepth 4000 in
theorem sp_allSlips {σ : pT} {I : pI} {F : pF} {m nA nC n : Nat} (h : isMo σ m) (hn : I (m + 1) 3 = nI n) (hn4 : n ≤ 24)  : PE yX8_allSlips cX8_allSlips mX8_allSlips [.ref m] σ I F (some (.int (sumT (fun t => I (m + 1) (251 + 10 * t + 9)) n))) I F := by
  refine PE.of oP_X8_allSlips (catOK rfl) (Nat.le_of_ble_eq_true rfl) ?_
  show PW _ _ _ 0 [.ref m, pJ, pJ] [] _ _ _ _
  have L4 : ∀ k, k ≤ n → PW cX8_allSlips mX8_allSlips (fM (qE (some (.int (sumT (fun t => I (m + 1) (251 + 10 * t + 9)) n))) σ I F)) 4 [.ref m, .int (sumT (fun t => I (m + 1) (251 + 10 * t + 9)) k), .int (nI k)] [] σ I F (0, 0) := by
    refine dn (fun k => PW cX8_allSlips mX8_allSlips (fM (qE (some (.int (sumT (fun t => I (m + 1) (251 + 10 * t + 9)) n))) σ I F)) 4 [.ref m, .int (sumT (fun t => I (m + 1) (251 + 10 * t + 9)) k), .int (nI k)] [] σ I F (0, 0)) n ?_ ?_
    · skip
      refine pw_iload_n dX8_allSlips_4 rfl rfl ?_
      refine pw_aload_n dX8_allSlips_5 rfl rfl ?_
      refine pw_getR (x := (m + 1)) dX8_allSlips_6 fd_RX8_7 (by decide) (mo_k h) rfl (mo_r1 h) ?_
      refine pw_iconst (v := 3) dX8_allSlips_9 (by decide) ?_
      refine pw_ialdN (j := 3) dX8_allSlips_10 (mo_k1 h) (by omega) (by decide) ?_
      refine pw_icmp_ge (tgt := 30) dX8_allSlips_11 (by decide) (fun c_11 => ?_) (fun c_11 => absurd (k_ge hn) c_11)
      refine pw_iload_n dX8_allSlips_30 rfl rfl ?_
      exact pw_iret dX8_allSlips_31 rfl ⟨rfl, rfl, rfl, rfl⟩
    · intro k hk ih
      refine pw_iload_n dX8_allSlips_4 rfl rfl ?_
      refine pw_aload_n dX8_allSlips_5 rfl rfl ?_
      refine pw_getR (x := (m + 1)) dX8_allSlips_6 fd_RX8_7 (by decide) (mo_k h) rfl (mo_r1 h) ?_
      refine pw_iconst (v := 3) dX8_allSlips_9 (by decide) ?_
      refine pw_ialdN (j := 3) dX8_allSlips_10 (mo_k1 h) (by omega) (by decide) ?_
      refine pw_icmp_ge (tgt := 30) dX8_allSlips_11 (by decide) (fun c_11 => absurd c_11 (k_lt hn hk (by omega))) (fun c_11 => ?_)
      refine pw_iload_n dX8_allSlips_14 rfl rfl ?_
      refine pw_aload_n dX8_allSlips_15 rfl rfl ?_
      refine pw_iload_n dX8_allSlips_16 rfl rfl ?_
      refine pw_bipush (v := 9) dX8_allSlips_17 (by decide) ?_
      refine pe_callVi dX8_allSlips_19 oX_X8_ofTask lk_RX8_84 (sp_ofTask (a := k) (w := 9) h (by omega) (by omega)) (mo_k h) rfl rfl (Nat.le_of_ble_eq_true rfl) (by decide) ?_
      refine pw_iadd dX8_allSlips_22 ?_
      refine pw_istore_n dX8_allSlips_23 rfl (by decide) rfl ?_
      refine pw_iinc (v := nI (k + 1)) dX8_allSlips_24 rfl (nI_add _ _) rfl ?_
      refine pw_goto (tgt := 4) dX8_allSlips_27 (by decide) ?_
      exact ih
  refine pw_iconst (v := 0) dX8_allSlips_0 (by decide) ?_
  refine pw_istore_n dX8_allSlips_1 rfl (by decide) rfl ?_
  refine pw_iconst (v := 0) dX8_allSlips_2 (by decide) ?_
  refine pw_istore_n dX8_allSlips_3 rfl (by decide) rfl ?_
  exact L4 0 (Nat.zero_le _)

set_option maxRecDepth 4000 in
theorem sp_allBusy {σ : pT} {I : pI} {F : pF} {m nA nC n : Nat} (h : isMo σ m) (hC : I (m + 1) 2 = nI nC) (hC5 : nC ≤ 5) (hn : I (m + 1) 3 = nI n) (hn4 : n ≤ 24)  : PE yX8_allBusy cX8_allBusy mX8_allBusy [.ref m] σ I F (some (.int (sumT (fun c => sumT (mBusyF (I (m + 1)) (nI c) 1) n) nC))) I F := by
  refine PE.of oP_X8_allBusy (catOK rfl) (Nat.le_of_ble_eq_true rfl) ?_
  show PW _ _ _ 0 [.ref m, pJ, pJ] [] _ _ _ _
  have L4 : ∀ k, k ≤ nC → PW cX8_allBusy mX8_allBusy (fM (qE (some (.int (sumT (fun c => sumT (mBusyF (I (m + 1)) (nI c) 1) n) nC))) σ I F)) 4 [.ref m, .int (sumT (fun c => sumT (mBusyF (I (m + 1)) (nI c) 1) n) k), .int (nI k)] [] σ I F (0, 0) := by
    refine dn (fun k => PW cX8_allBusy mX8_allBusy (fM (qE (some (.int (sumT (fun c => sumT (mBusyF (I (m + 1)) (nI c) 1) n) nC))) σ I F)) 4 [.ref m, .int (sumT (fun c => sumT (mBusyF (I (m + 1)) (nI c) 1) n) k), .int (nI k)] [] σ I F (0, 0)) nC ?_ ?_
    · skip
      refine pw_iload_n dX8_allBusy_4 rfl rfl ?_
      refine pw_aload_n dX8_allBusy_5 rfl rfl ?_
      refine pw_getR (x := (m + 1)) dX8_allBusy_6 fd_RX8_7 (by decide) (mo_k h) rfl (mo_r1 h) ?_
      refine pw_iconst (v := 2) dX8_allBusy_9 (by decide) ?_
      refine pw_ialdN (j := 2) dX8_allBusy_10 (mo_k1 h) (by omega) (by decide) ?_
      refine pw_icmp_ge (tgt := 29) dX8_allBusy_11 (by decide) (fun c_11 => ?_) (fun c_11 => absurd (k_ge hC) c_11)
      refine pw_iload_n dX8_allBusy_29 rfl rfl ?_
      exact pw_iret dX8_allBusy_30 rfl ⟨rfl, rfl, rfl, rfl⟩
    · intro k hk ih
      refine pw_iload_n dX8_allBusy_4 rfl rfl ?_
      refine pw_aload_n dX8_allBusy_5 rfl rfl ?_
      refine pw_getR (x := (m + 1)) dX8_allBusy_6 fd_RX8_7 (by decide) (mo_k h) rfl (mo_r1 h) ?_
      refine pw_iconst (v := 2) dX8_allBusy_9 (by decide) ?_
      refine pw_ialdN (j := 2) dX8_allBusy_10 (mo_k1 h) (by omega) (by decide) ?_
      refine pw_icmp_ge (tgt := 29) dX8_allBusy_11 (by decide) (fun c_11 => absurd c_11 (k_lt hC hk (by omega))) (fun c_11 => ?_)
      refine pw_iload_n dX8_allBusy_14 rfl rfl ?_
      refine pw_aload_n dX8_allBusy_15 rfl rfl ?_
      refine pw_iload_n dX8_allBusy_16 rfl rfl ?_
      refine pw_iconst (v := 1) dX8_allBusy_17 (by decide) ?_
      refine pe_callVi dX8_allBusy_18 oX_X8_busy lk_RX8_93 (sp_busy h hn hn4) (mo_k h) rfl rfl (Nat.le_of_ble_eq_true rfl) (by decide) ?_
      refine pw_iadd dX8_allBusy_21 ?_
      refine pw_istore_n dX8_allBusy_22 rfl (by decide) rfl ?_
      refine pw_iinc (v := nI (k + 1)) dX8_allBusy_23 rfl (nI_add _ _) rfl ?_
      refine pw_goto (tgt := 4) dX8_allBusy_26 (by decide) ?_
      exact ih
  refine pw_iconst (v := 0) dX8_allBusy_0 (by decide) ?_
  refine pw_istore_n dX8_allBusy_1 rfl (by decide) rfl ?_
  refine pw_iconst (v := 0) dX8_allBusy_2 (by decide) ?_
  refine pw_istore_n dX8_allBusy_3 rfl (by decide) rfl ?_
  exact L4 0 (Nat.zero_le _)

set_option maxRecDepth 4000 in
theorem sp_m_asset {σ : pT} {I : pI} {F : pF} {m nA n : Nat} {a w : Int32} (h : isMo σ m) (hA : I (m + 1) 1 = nI nA) (hA8 : nA ≤ 8) (hn : I (m + 1) 3 = nI n) (hn4 : n ≤ 24) (hG : ∀ a, a < nA → ∃ g, g ≤ 24 ∧ I (m + 1) (4 + 5 * a + 4) = nI g)  : PE yX8_asset cX8_asset mX8_asset [.ref m, .int a, .int w] σ I F (some (.int (mAssetV (I (m + 1)) (F (m + 2)) (F (m + 3)) n a w))) I F := by
  refine PE.of oP_X8_asset (catOK rfl) (Nat.le_of_ble_eq_true rfl) ?_
  show PW _ _ _ 0 [.ref m, .int a, .int w] [] _ _ _ _
  refine pw_aload_n dX8_asset_0 rfl rfl ?_
  refine pw_iload_n dX8_asset_1 rfl rfl ?_
  refine pe_callVi dX8_asset_2 oX_X8_isAsset lk_RX8_65 (sp_isAsset h hA hA8) (mo_k h) rfl rfl (Nat.le_of_ble_eq_true rfl) (by decide) ?_
  refine pw_ifB_ne (tgt := 10) dX8_asset_5 (by decide) (fun c_5 => ?_) (fun c_5 => ?_)
  · obtain ⟨i, hi, rfl⟩ := has_nat c_5 hA (by omega)
    obtain ⟨g, hg4, hg⟩ := hG i hi
    refine pw_iload_n dX8_asset_10 rfl rfl ?_
    rcases sw_cases w 7 (by decide) with ⟨kw, hkw, rfl⟩ | hout
    · rcases (show kw = 0 ∨ kw = 1 ∨ kw = 2 ∨ kw = 3 ∨ kw = 4 ∨ kw = 5 ∨ kw = 6 ∨ kw = 7 by omega) with rfl | rfl | rfl | rfl | rfl | rfl | rfl | rfl
      · refine pw_tableIn (x := nI 0) (off := 45) (tgt := 56) dX8_asset_11 (by decide) (by decide) (by decide) (by decide) ?_
        refine pw_aload_n dX8_asset_56 rfl rfl ?_
        refine pw_iload_n dX8_asset_57 rfl rfl ?_
        refine pw_iconst (v := 2) dX8_asset_58 (by decide) ?_
        refine pe_callVi dX8_asset_59 oX_X8_of lk_RX8_69 (sp_of (a := i) (w := 2) h (by omega) (by omega)) (mo_k h) rfl rfl (Nat.le_of_ble_eq_true rfl) (by decide) ?_
        exact pw_iret dX8_asset_62 rfl ⟨by rw [mAssetV, if_pos (of_decide_eq_true c_5), nI_clamp (show i < 2 ^ 31 by omega), swV_in (Nat.le_of_ble_eq_true rfl) (Nat.le_of_ble_eq_true rfl)]; rfl, rfl, rfl, rfl⟩
      · refine pw_tableIn (x := nI 1) (off := 52) (tgt := 63) dX8_asset_11 (by decide) (by decide) (by decide) (by decide) ?_
        refine pw_aload_n dX8_asset_63 rfl rfl ?_
        refine pw_iload_n dX8_asset_64 rfl rfl ?_
        refine pw_iconst (v := 4) dX8_asset_65 (by decide) ?_
        refine pe_callVi dX8_asset_66 oX_X8_of lk_RX8_69 (sp_of (a := i) (w := 4) h (by omega) (by omega)) (mo_k h) rfl rfl (Nat.le_of_ble_eq_true rfl) (by decide) ?_
        exact pw_iret dX8_asset_69 rfl ⟨by rw [mAssetV, if_pos (of_decide_eq_true c_5), nI_clamp (show i < 2 ^ 31 by omega), swV_in (Nat.le_of_ble_eq_true rfl) (Nat.le_of_ble_eq_true rfl)]; rfl, rfl, rfl, rfl⟩
      · refine pw_tableIn (x := nI 2) (off := 59) (tgt := 70) dX8_asset_11 (by decide) (by decide) (by decide) (by decide) ?_
        refine pw_aload_n dX8_asset_70 rfl rfl ?_
        refine pw_iload_n dX8_asset_71 rfl rfl ?_
        refine pe_callVi dX8_asset_72 oX_X8_topOf lk_RX8_143 (sp_topOf h (by omega) hg hg4) (mo_k h) rfl rfl (Nat.le_of_ble_eq_true rfl) (by decide) ?_
        exact pw_iret dX8_asset_75 rfl ⟨by rw [mAssetV, if_pos (of_decide_eq_true c_5), nI_clamp (show i < 2 ^ 31 by omega), swV_in (Nat.le_of_ble_eq_true rfl) (Nat.le_of_ble_eq_true rfl)]; rfl, rfl, rfl, rfl⟩
      · refine pw_tableIn (x := nI 3) (off := 65) (tgt := 76) dX8_asset_11 (by decide) (by decide) (by decide) (by decide) ?_
        refine pw_aload_n dX8_asset_76 rfl rfl ?_
        refine pw_iload_n dX8_asset_77 rfl rfl ?_
        refine pw_iconst (v := 3) dX8_asset_78 (by decide) ?_
        refine pe_callVi dX8_asset_79 oX_X8_of lk_RX8_69 (sp_of (a := i) (w := 3) h (by omega) (by omega)) (mo_k h) rfl rfl (Nat.le_of_ble_eq_true rfl) (by decide) ?_
        exact pw_iret dX8_asset_82 rfl ⟨by rw [mAssetV, if_pos (of_decide_eq_true c_5), nI_clamp (show i < 2 ^ 31 by omega), swV_in (Nat.le_of_ble_eq_true rfl) (Nat.le_of_ble_eq_true rfl)]; rfl, rfl, rfl, rfl⟩
      · refine pw_tableIn (x := nI 4) (off := 72) (tgt := 83) dX8_asset_11 (by decide) (by decide) (by decide) (by decide) ?_
        refine pw_aload_n dX8_asset_83 rfl rfl ?_
        refine pw_iload_n dX8_asset_84 rfl rfl ?_
        refine pw_iconst (v := 0) dX8_asset_85 (by decide) ?_
        refine pw_iconst (v := 3) dX8_asset_86 (by decide) ?_
        refine pe_callVi dX8_asset_87 oX_X8_tasksAt lk_RX8_216 (sp_tasksAt h hn hn4) (mo_k h) rfl rfl (Nat.le_of_ble_eq_true rfl) (by decide) ?_
        exact pw_iret dX8_asset_90 rfl ⟨by rw [mAssetV, if_pos (of_decide_eq_true c_5), nI_clamp (show i < 2 ^ 31 by omega), swV_in (Nat.le_of_ble_eq_true rfl) (Nat.le_of_ble_eq_true rfl)]; rfl, rfl, rfl, rfl⟩
      · refine pw_tableIn (x := nI 5) (off := 80) (tgt := 91) dX8_asset_11 (by decide) (by decide) (by decide) (by decide) ?_
        refine pw_aload_n dX8_asset_91 rfl rfl ?_
        refine pw_iload_n dX8_asset_92 rfl rfl ?_
        refine pw_iconst (v := 4) dX8_asset_93 (by decide) ?_
        refine pw_iconst (v := 4) dX8_asset_94 (by decide) ?_
        refine pe_callVi dX8_asset_95 oX_X8_tasksAt lk_RX8_216 (sp_tasksAt h hn hn4) (mo_k h) rfl rfl (Nat.le_of_ble_eq_true rfl) (by decide) ?_
        exact pw_iret dX8_asset_98 rfl ⟨by rw [mAssetV, if_pos (of_decide_eq_true c_5), nI_clamp (show i < 2 ^ 31 by omega), swV_in (Nat.le_of_ble_eq_true rfl) (Nat.le_of_ble_eq_true rfl)]; rfl, rfl, rfl, rfl⟩
      · refine pw_tableIn (x := nI 6) (off := 88) (tgt := 99) dX8_asset_11 (by decide) (by decide) (by decide) (by decide) ?_
        refine pw_aload_n dX8_asset_99 rfl rfl ?_
        refine pw_getR (x := (m + 2)) dX8_asset_100 fd_RX8_13 (by decide) (mo_k h) rfl (mo_r2 h) ?_
        refine pw_iload_n dX8_asset_103 rfl rfl ?_
        refine pw_faldN (j := i) dX8_asset_104 (mo_k2 h) (by omega) (by decide) ?_
        refine pw_ldcf dX8_asset_105 kc_RX8_152 ?_
        refine pw_fmul dX8_asset_107 ?_
        refine pw_f2i dX8_asset_108 ?_
        exact pw_iret dX8_asset_109 rfl ⟨by rw [mAssetV, if_pos (of_decide_eq_true c_5), nI_clamp (show i < 2 ^ 31 by omega), swV_in (Nat.le_of_ble_eq_true rfl) (Nat.le_of_ble_eq_true rfl)]; rfl, rfl, rfl, rfl⟩
      · refine pw_tableIn (x := nI 7) (off := 99) (tgt := 110) dX8_asset_11 (by decide) (by decide) (by decide) (by decide) ?_
        refine pw_aload_n dX8_asset_110 rfl rfl ?_
        refine pw_getR (x := (m + 3)) dX8_asset_111 fd_RX8_17 (by decide) (mo_k h) rfl (mo_r3 h) ?_
        refine pw_iload_n dX8_asset_114 rfl rfl ?_
        refine pw_faldN (j := i) dX8_asset_115 (mo_k3 h) (by omega) (by decide) ?_
        refine pw_f2i dX8_asset_116 ?_
        exact pw_iret dX8_asset_117 rfl ⟨by rw [mAssetV, if_pos (of_decide_eq_true c_5), nI_clamp (show i < 2 ^ 31 by omega), swV_in (Nat.le_of_ble_eq_true rfl) (Nat.le_of_ble_eq_true rfl)]; rfl, rfl, rfl, rfl⟩
    · refine pw_tableOut (tgt := 118) dX8_asset_11 hout (by decide) ?_
      refine pw_bipush (v := (-2)) dX8_asset_118 (by decide) ?_
      exact pw_iret dX8_asset_120 rfl ⟨by rw [mAssetV, if_pos (of_decide_eq_true c_5), nI_clamp (show i < 2 ^ 31 by omega), swV_out hout (Nat.le_of_ble_eq_true rfl)], rfl, rfl, rfl⟩
  · refine pw_iconst (v := (-1)) dX8_asset_8 (by decide) ?_
    exact pw_iret dX8_asset_9 rfl ⟨by rw [mAssetV, if_neg (of_decide_eq_false c_5)], rfl, rfl, rfl⟩

set_option maxRecDepth 4000 in
theorem sp_m_tagAt {σ : pT} {I : pI} {F : pF} {m nA : Nat} {a w : Int32} (h : isMo σ m) (hA : I (m + 1) 1 = nI nA) (hA8 : nA ≤ 8) (hG : ∀ a, a < nA → ∃ g, g ≤ 24 ∧ I (m + 1) (4 + 5 * a + 4) = nI g)  : PE yX8_tagAt cX8_tagAt mX8_tagAt [.ref m, .int a, .int w] σ I F (some (.int (mTagAtV (I (m + 1)) a w))) I F := by
  refine PE.of oP_X8_tagAt (catOK rfl) (Nat.le_of_ble_eq_true rfl) ?_
  show PW _ _ _ 0 [.ref m, .int a, .int w, pJ] [] _ _ _ _
  refine pw_aload_n dX8_tagAt_0 rfl rfl ?_
  refine pw_iload_n dX8_tagAt_1 rfl rfl ?_
  refine pe_callVi dX8_tagAt_2 oX_X8_isAsset lk_RX8_65 (sp_isAsset h hA hA8) (mo_k h) rfl rfl (Nat.le_of_ble_eq_true rfl) (by decide) ?_
  refine pw_ifB_ne (tgt := 10) dX8_tagAt_5 (by decide) (fun c_5 => ?_) (fun c_5 => ?_)
  · obtain ⟨i, hi, rfl⟩ := has_nat c_5 hA (by omega)
    obtain ⟨g, hg4, hg⟩ := hG i hi
    refine pw_iload_n dX8_tagAt_10 rfl rfl ?_
    refine pw_if_ge (tgt := 17) dX8_tagAt_11 (by decide) (fun c_11 => ?_) (fun c_11 => ?_)
    · refine pw_aload_n dX8_tagAt_17 rfl rfl ?_
      refine pw_iload_n dX8_tagAt_18 rfl rfl ?_
      refine pw_iconst (v := 4) dX8_tagAt_19 (by decide) ?_
      refine pe_callVi dX8_tagAt_20 oX_X8_of lk_RX8_69 (sp_of (a := i) (w := 4) h (by omega) (by omega)) (mo_k h) rfl rfl (Nat.le_of_ble_eq_true rfl) (by decide) ?_
      rw [hg]
      refine pw_istore_n dX8_tagAt_23 rfl (by decide) rfl ?_
      refine pw_iload_n dX8_tagAt_24 rfl rfl ?_
      refine pw_iload_n dX8_tagAt_25 rfl rfl ?_
      refine pw_icmp_ge (tgt := 50) dX8_tagAt_26 (by decide) (fun c_26 => ?_) (fun c_26 => ?_)
      · refine pw_bipush (v := (-5)) dX8_tagAt_50 (by decide) ?_
        exact pw_iret dX8_tagAt_52 rfl ⟨by rw [mTagAtV, if_pos (of_decide_eq_true c_5), if_pos c_11, nI_clamp (show i < 2 ^ 31 by omega), hg, if_neg (i_nle c_26)], rfl, rfl, rfl⟩
      · obtain ⟨d, hd, rfl⟩ := has_nat (decide_eq_true ⟨c_11, i_lt c_26⟩) (x := nI g) rfl (by omega)
        refine pw_aload_n dX8_tagAt_29 rfl rfl ?_
        refine pw_getR (x := (m + 1)) dX8_tagAt_30 fd_RX8_7 (by decide) (mo_k h) rfl (mo_r1 h) ?_
        refine pw_bipush (v := 44) dX8_tagAt_33 (by decide) ?_
        refine pw_bipush (v := 24) dX8_tagAt_35 (by decide) ?_
        refine pw_iload_n dX8_tagAt_37 rfl rfl ?_
        refine pw_imul dX8_tagAt_38 ?_
        rw [show (24 * nI i : Int32) = nI (24 * i) from pk_mul _ _]
        refine pw_iadd dX8_tagAt_39 ?_
        rw [show (44 + nI (24 * i) : Int32) = nI (44 + (24 * i)) from nI_add _ _]
        refine pw_iload_n dX8_tagAt_40 rfl rfl ?_
        refine pw_iadd dX8_tagAt_41 ?_
        rw [show (nI (44 + (24 * i)) + nI g : Int32) = nI ((44 + (24 * i)) + g) from nI_add _ _]
        refine pw_iconst (v := 1) dX8_tagAt_42 (by decide) ?_
        refine pw_isub dX8_tagAt_43 ?_
        rw [show (nI ((44 + (24 * i)) + g) - 1 : Int32) = nI (((44 + (24 * i)) + g) - 1) from pk_sub (a := ((44 + (24 * i)) + g)) (b := 1) (by omega)]
        refine pw_iload_n dX8_tagAt_44 rfl rfl ?_
        refine pw_isub dX8_tagAt_45 ?_
        rw [show (nI (((44 + (24 * i)) + g) - 1) - nI d : Int32) = nI ((((44 + (24 * i)) + g) - 1) - d) from pk_sub (a := (((44 + (24 * i)) + g) - 1)) (b := d) (by omega)]
        refine pw_ialdN (j := ((((44 + (24 * i)) + g) - 1) - d)) dX8_tagAt_46 (mo_k1 h) (by omega) (by decide) ?_
        refine pw_goto (tgt := 52) dX8_tagAt_47 (by decide) ?_
        exact pw_iret dX8_tagAt_52 rfl ⟨by rw [mTagAtV, if_pos (of_decide_eq_true c_5), if_pos c_11, nI_clamp (show i < 2 ^ 31 by omega), hg, if_pos (i_lt c_26), nI_clamp (show g < 2 ^ 31 by omega), nI_clamp (show d < 2 ^ 31 by omega)], rfl, rfl, rfl⟩
    · refine pw_bipush (v := (-2)) dX8_tagAt_14 (by decide) ?_
      exact pw_iret dX8_tagAt_16 rfl ⟨by rw [mTagAtV, if_pos (of_decide_eq_true c_5), if_neg c_11], rfl, rfl, rfl⟩
  · refine pw_iconst (v := (-1)) dX8_tagAt_8 (by decide) ?_
    exact pw_iret dX8_tagAt_9 rfl ⟨by rw [mTagAtV, if_neg (of_decide_eq_false c_5)], rfl, rfl, rfl⟩

theorem pk_mul2 (i : Nat) : (2 * nI i : Int32) = nI (2 * i) := pk_mul 2 i
set_option maxRecDepth 4000 in
theorem sp_m_crew {σ : pT} {I : pI} {F : pF} {m nC n : Nat} {a w : Int32} (h : isMo σ m) (hC : I (m + 1) 2 = nI nC) (hC5 : nC ≤ 5) (hn : I (m + 1) 3 = nI n) (hn4 : n ≤ 24)  : PE yX8_crew cX8_crew mX8_crew [.ref m, .int a, .int w] σ I F (some (.int (mCrewV (I (m + 1)) n a w))) I F := by
  refine PE.of oP_X8_crew (catOK rfl) (Nat.le_of_ble_eq_true rfl) ?_
  show PW _ _ _ 0 [.ref m, .int a, .int w] [] _ _ _ _
  refine pw_aload_n dX8_crew_0 rfl rfl ?_
  refine pw_iload_n dX8_crew_1 rfl rfl ?_
  refine pe_callVi dX8_crew_2 oX_X8_isCrew lk_RX8_122 (sp_isCrew h hC hC5) (mo_k h) rfl rfl (Nat.le_of_ble_eq_true rfl) (by decide) ?_
  refine pw_ifB_ne (tgt := 10) dX8_crew_5 (by decide) (fun c_5 => ?_) (fun c_5 => ?_)
  · obtain ⟨i, hi, rfl⟩ := has_nat c_5 hC (by omega)
    refine pw_iload_n dX8_crew_10 rfl rfl ?_
    rcases sw_cases w 4 (by decide) with ⟨kw, hkw, rfl⟩ | hout
    · rcases (show kw = 0 ∨ kw = 1 ∨ kw = 2 ∨ kw = 3 ∨ kw = 4 by omega) with rfl | rfl | rfl | rfl | rfl
      · refine pw_tableIn (x := nI 0) (off := 33) (tgt := 44) dX8_crew_11 (by decide) (by decide) (by decide) (by decide) ?_
        refine pw_aload_n dX8_crew_44 rfl rfl ?_
        refine pw_getR (x := (m + 1)) dX8_crew_45 fd_RX8_7 (by decide) (mo_k h) rfl (mo_r1 h) ?_
        refine pw_sipush (v := 236) dX8_crew_48 (by decide) ?_
        refine pw_iconst (v := 2) dX8_crew_51 (by decide) ?_
        refine pw_iload_n dX8_crew_52 rfl rfl ?_
        refine pw_imul dX8_crew_53 ?_
        rw [pk_mul2 i]
        refine pw_iadd dX8_crew_54 ?_
        rw [show (236 + nI (2 * i) : Int32) = nI (236 + 2 * i) from nI_add _ _]
        refine pw_iload_n dX8_crew_55 rfl rfl ?_
        refine pw_iadd dX8_crew_56 ?_
        rw [show (nI (236 + 2 * i) + nI 0 : Int32) = nI (236 + 2 * i + 0) from nI_add _ _]
        refine pw_ialdN (j := (236 + 2 * i + 0)) dX8_crew_57 (mo_k1 h) (by omega) (by decide) ?_
        exact pw_iret dX8_crew_58 rfl ⟨by rw [mCrewV, if_pos (of_decide_eq_true c_5), nI_clamp (show i < 2 ^ 31 by omega), swV_in (Nat.le_of_ble_eq_true rfl) (Nat.le_of_ble_eq_true rfl)]; rfl, rfl, rfl, rfl⟩
      · refine pw_tableIn (x := nI 1) (off := 33) (tgt := 44) dX8_crew_11 (by decide) (by decide) (by decide) (by decide) ?_
        refine pw_aload_n dX8_crew_44 rfl rfl ?_
        refine pw_getR (x := (m + 1)) dX8_crew_45 fd_RX8_7 (by decide) (mo_k h) rfl (mo_r1 h) ?_
        refine pw_sipush (v := 236) dX8_crew_48 (by decide) ?_
        refine pw_iconst (v := 2) dX8_crew_51 (by decide) ?_
        refine pw_iload_n dX8_crew_52 rfl rfl ?_
        refine pw_imul dX8_crew_53 ?_
        rw [pk_mul2 i]
        refine pw_iadd dX8_crew_54 ?_
        rw [show (236 + nI (2 * i) : Int32) = nI (236 + 2 * i) from nI_add _ _]
        refine pw_iload_n dX8_crew_55 rfl rfl ?_
        refine pw_iadd dX8_crew_56 ?_
        rw [show (nI (236 + 2 * i) + nI 1 : Int32) = nI (236 + 2 * i + 1) from nI_add _ _]
        refine pw_ialdN (j := (236 + 2 * i + 1)) dX8_crew_57 (mo_k1 h) (by omega) (by decide) ?_
        exact pw_iret dX8_crew_58 rfl ⟨by rw [mCrewV, if_pos (of_decide_eq_true c_5), nI_clamp (show i < 2 ^ 31 by omega), swV_in (Nat.le_of_ble_eq_true rfl) (Nat.le_of_ble_eq_true rfl)]; rfl, rfl, rfl, rfl⟩
      · refine pw_tableIn (x := nI 2) (off := 48) (tgt := 59) dX8_crew_11 (by decide) (by decide) (by decide) (by decide) ?_
        refine pw_aload_n dX8_crew_59 rfl rfl ?_
        refine pw_iload_n dX8_crew_60 rfl rfl ?_
        refine pw_iload_n dX8_crew_61 rfl rfl ?_
        refine pw_iconst (v := 2) dX8_crew_62 (by decide) ?_
        refine pw_icmp_ne (tgt := 70) dX8_crew_63 (by decide) (fun c_63 => absurd (by decide) c_63) (fun c_63 => ?_)
        refine pw_iconst (v := 1) dX8_crew_66 (by decide) ?_
        refine pw_goto (tgt := 71) dX8_crew_67 (by decide) ?_
        refine pe_callVi dX8_crew_71 oX_X8_busy lk_RX8_93 (sp_busy h hn hn4) (mo_k h) rfl rfl (Nat.le_of_ble_eq_true rfl) (by decide) ?_
        exact pw_iret dX8_crew_74 rfl ⟨by rw [mCrewV, if_pos (of_decide_eq_true c_5), nI_clamp (show i < 2 ^ 31 by omega), swV_in (Nat.le_of_ble_eq_true rfl) (Nat.le_of_ble_eq_true rfl)]; rfl, rfl, rfl, rfl⟩
      · refine pw_tableIn (x := nI 3) (off := 48) (tgt := 59) dX8_crew_11 (by decide) (by decide) (by decide) (by decide) ?_
        refine pw_aload_n dX8_crew_59 rfl rfl ?_
        refine pw_iload_n dX8_crew_60 rfl rfl ?_
        refine pw_iload_n dX8_crew_61 rfl rfl ?_
        refine pw_iconst (v := 2) dX8_crew_62 (by decide) ?_
        refine pw_icmp_ne (tgt := 70) dX8_crew_63 (by decide) (fun c_63 => ?_) (fun c_63 => absurd c_63 (by decide))
        refine pw_iconst (v := 0) dX8_crew_70 (by decide) ?_
        refine pe_callVi dX8_crew_71 oX_X8_busy lk_RX8_93 (sp_busy h hn hn4) (mo_k h) rfl rfl (Nat.le_of_ble_eq_true rfl) (by decide) ?_
        exact pw_iret dX8_crew_74 rfl ⟨by rw [mCrewV, if_pos (of_decide_eq_true c_5), nI_clamp (show i < 2 ^ 31 by omega), swV_in (Nat.le_of_ble_eq_true rfl) (Nat.le_of_ble_eq_true rfl)]; rfl, rfl, rfl, rfl⟩
      · refine pw_tableIn (x := nI 4) (off := 64) (tgt := 75) dX8_crew_11 (by decide) (by decide) (by decide) (by decide) ?_
        refine pw_aload_n dX8_crew_75 rfl rfl ?_
        refine pw_iload_n dX8_crew_76 rfl rfl ?_
        refine pe_callVi dX8_crew_77 oX_X8_doneBy lk_RX8_220 (sp_doneBy h hn hn4) (mo_k h) rfl rfl (Nat.le_of_ble_eq_true rfl) (by decide) ?_
        exact pw_iret dX8_crew_80 rfl ⟨by rw [mCrewV, if_pos (of_decide_eq_true c_5), nI_clamp (show i < 2 ^ 31 by omega), swV_in (Nat.le_of_ble_eq_true rfl) (Nat.le_of_ble_eq_true rfl)]; rfl, rfl, rfl, rfl⟩
    · refine pw_tableOut (tgt := 81) dX8_crew_11 hout (by decide) ?_
      refine pw_bipush (v := (-2)) dX8_crew_81 (by decide) ?_
      exact pw_iret dX8_crew_83 rfl ⟨by rw [mCrewV, if_pos (of_decide_eq_true c_5), nI_clamp (show i < 2 ^ 31 by omega), swV_out hout (Nat.le_of_ble_eq_true rfl)], rfl, rfl, rfl⟩
  · refine pw_iconst (v := (-1)) dX8_crew_8 (by decide) ?_
    exact pw_iret dX8_crew_9 rfl ⟨by rw [mCrewV, if_neg (of_decide_eq_false c_5)], rfl, rfl, rfl⟩

set_option maxRecDepth 4000 in
theorem sp_m_task {σ : pT} {I : pI} {F : pF} {m nA n : Nat} {a w : Int32} (h : isMo σ m) (hA : I (m + 1) 1 = nI nA) (hA8 : nA ≤ 8) (hn : I (m + 1) 3 = nI n) (hn4 : n ≤ 24) (hW : ∀ t, t < n → ∃ a, a < nA ∧ I (m + 1) (251 + 10 * t + 0) = nI a) (hKd : ∀ t, t < n → ∃ k, k < 5 ∧ I (m + 1) (251 + 10 * t + 3) = nI k)  : PE yX8_task cX8_task mX8_task [.ref m, .int a, .int w] σ I F (some (.int (mTaskV (I (m + 1)) n a w))) I F := by
  refine PE.of oP_X8_task (catOK rfl) (Nat.le_of_ble_eq_true rfl) ?_
  show PW _ _ _ 0 [.ref m, .int a, .int w] [] _ _ _ _
  refine pw_aload_n dX8_task_0 rfl rfl ?_
  refine pw_iload_n dX8_task_1 rfl rfl ?_
  refine pe_callVi dX8_task_2 oX_X8_isTask lk_RX8_119 (sp_isTask h hn hn4) (mo_k h) rfl rfl (Nat.le_of_ble_eq_true rfl) (by decide) ?_
  refine pw_ifB_ne (tgt := 10) dX8_task_5 (by decide) (fun c_5 => ?_) (fun c_5 => ?_)
  · obtain ⟨i, hi, rfl⟩ := has_nat c_5 hn (by omega)
    obtain ⟨at_, haA, hat⟩ := hW i hi
    obtain ⟨kt, hk5, hkd⟩ := hKd i hi
    refine pw_iload_n dX8_task_10 rfl rfl ?_
    rcases sw_cases w 12 (by decide) with ⟨kw, hkw, rfl⟩ | hout
    · rcases (show kw = 0 ∨ kw = 1 ∨ kw = 2 ∨ kw = 3 ∨ kw = 4 ∨ kw = 5 ∨ kw = 6 ∨ kw = 7 ∨ kw = 8 ∨ kw = 9 ∨ kw = 10 ∨ kw = 11 ∨ kw = 12 by omega) with rfl | rfl | rfl | rfl | rfl | rfl | rfl | rfl | rfl | rfl | rfl | rfl | rfl
      · refine pw_tableIn (x := nI 0) (off := 65) (tgt := 76) dX8_task_11 (by decide) (by decide) (by decide) (by decide) ?_
        refine pw_aload_n dX8_task_76 rfl rfl ?_
        refine pw_iload_n dX8_task_77 rfl rfl ?_
        refine pw_iconst (v := 0) dX8_task_78 (by decide) ?_
        refine pe_callVi dX8_task_79 oX_X8_ofTask lk_RX8_84 (sp_ofTask (a := i) (w := 0) h (by omega) (by omega)) (mo_k h) rfl rfl (Nat.le_of_ble_eq_true rfl) (by decide) ?_
        exact pw_iret dX8_task_82 rfl ⟨by rw [mTaskV, if_pos (of_decide_eq_true c_5), nI_clamp (show i < 2 ^ 31 by omega), swV_in (Nat.le_of_ble_eq_true rfl) (Nat.le_of_ble_eq_true rfl)]; rfl, rfl, rfl, rfl⟩
      · refine pw_tableIn (x := nI 1) (off := 72) (tgt := 83) dX8_task_11 (by decide) (by decide) (by decide) (by decide) ?_
        refine pw_aload_n dX8_task_83 rfl rfl ?_
        refine pw_iload_n dX8_task_84 rfl rfl ?_
        refine pe_callVi dX8_task_85 oX_X8_stateOf lk_RX8_87 (sp_stateOf (a := i) h (by omega)) (mo_k h) rfl rfl (Nat.le_of_ble_eq_true rfl) (by decide) ?_
        exact pw_iret dX8_task_88 rfl ⟨by rw [mTaskV, if_pos (of_decide_eq_true c_5), nI_clamp (show i < 2 ^ 31 by omega), swV_in (Nat.le_of_ble_eq_true rfl) (Nat.le_of_ble_eq_true rfl)]; rfl, rfl, rfl, rfl⟩
      · refine pw_tableIn (x := nI 2) (off := 78) (tgt := 89) dX8_task_11 (by decide) (by decide) (by decide) (by decide) ?_
        refine pw_aload_n dX8_task_89 rfl rfl ?_
        refine pw_iload_n dX8_task_90 rfl rfl ?_
        refine pw_iload_n dX8_task_91 rfl rfl ?_
        refine pw_iconst (v := 1) dX8_task_92 (by decide) ?_
        refine pw_isub dX8_task_93 ?_
        rw [show (nI 2 - 1 : Int32) = nI 1 by decide]
        refine pe_callVi dX8_task_94 oX_X8_ofTask lk_RX8_84 (sp_ofTask (a := i) (w := 1) h (by omega) (by omega)) (mo_k h) rfl rfl (Nat.le_of_ble_eq_true rfl) (by decide) ?_
        exact pw_iret dX8_task_97 rfl ⟨by rw [mTaskV, if_pos (of_decide_eq_true c_5), nI_clamp (show i < 2 ^ 31 by omega), swV_in (Nat.le_of_ble_eq_true rfl) (Nat.le_of_ble_eq_true rfl)]; rfl, rfl, rfl, rfl⟩
      · refine pw_tableIn (x := nI 3) (off := 78) (tgt := 89) dX8_task_11 (by decide) (by decide) (by decide) (by decide) ?_
        refine pw_aload_n dX8_task_89 rfl rfl ?_
        refine pw_iload_n dX8_task_90 rfl rfl ?_
        refine pw_iload_n dX8_task_91 rfl rfl ?_
        refine pw_iconst (v := 1) dX8_task_92 (by decide) ?_
        refine pw_isub dX8_task_93 ?_
        rw [show (nI 3 - 1 : Int32) = nI 2 by decide]
        refine pe_callVi dX8_task_94 oX_X8_ofTask lk_RX8_84 (sp_ofTask (a := i) (w := 2) h (by omega) (by omega)) (mo_k h) rfl rfl (Nat.le_of_ble_eq_true rfl) (by decide) ?_
        exact pw_iret dX8_task_97 rfl ⟨by rw [mTaskV, if_pos (of_decide_eq_true c_5), nI_clamp (show i < 2 ^ 31 by omega), swV_in (Nat.le_of_ble_eq_true rfl) (Nat.le_of_ble_eq_true rfl)]; rfl, rfl, rfl, rfl⟩
      · refine pw_tableIn (x := nI 4) (off := 78) (tgt := 89) dX8_task_11 (by decide) (by decide) (by decide) (by decide) ?_
        refine pw_aload_n dX8_task_89 rfl rfl ?_
        refine pw_iload_n dX8_task_90 rfl rfl ?_
        refine pw_iload_n dX8_task_91 rfl rfl ?_
        refine pw_iconst (v := 1) dX8_task_92 (by decide) ?_
        refine pw_isub dX8_task_93 ?_
        rw [show (nI 4 - 1 : Int32) = nI 3 by decide]
        refine pe_callVi dX8_task_94 oX_X8_ofTask lk_RX8_84 (sp_ofTask (a := i) (w := 3) h (by omega) (by omega)) (mo_k h) rfl rfl (Nat.le_of_ble_eq_true rfl) (by decide) ?_
        exact pw_iret dX8_task_97 rfl ⟨by rw [mTaskV, if_pos (of_decide_eq_true c_5), nI_clamp (show i < 2 ^ 31 by omega), swV_in (Nat.le_of_ble_eq_true rfl) (Nat.le_of_ble_eq_true rfl)]; rfl, rfl, rfl, rfl⟩
      · refine pw_tableIn (x := nI 5) (off := 78) (tgt := 89) dX8_task_11 (by decide) (by decide) (by decide) (by decide) ?_
        refine pw_aload_n dX8_task_89 rfl rfl ?_
        refine pw_iload_n dX8_task_90 rfl rfl ?_
        refine pw_iload_n dX8_task_91 rfl rfl ?_
        refine pw_iconst (v := 1) dX8_task_92 (by decide) ?_
        refine pw_isub dX8_task_93 ?_
        rw [show (nI 5 - 1 : Int32) = nI 4 by decide]
        refine pe_callVi dX8_task_94 oX_X8_ofTask lk_RX8_84 (sp_ofTask (a := i) (w := 4) h (by omega) (by omega)) (mo_k h) rfl rfl (Nat.le_of_ble_eq_true rfl) (by decide) ?_
        exact pw_iret dX8_task_97 rfl ⟨by rw [mTaskV, if_pos (of_decide_eq_true c_5), nI_clamp (show i < 2 ^ 31 by omega), swV_in (Nat.le_of_ble_eq_true rfl) (Nat.le_of_ble_eq_true rfl)]; rfl, rfl, rfl, rfl⟩
      · refine pw_tableIn (x := nI 6) (off := 78) (tgt := 89) dX8_task_11 (by decide) (by decide) (by decide) (by decide) ?_
        refine pw_aload_n dX8_task_89 rfl rfl ?_
        refine pw_iload_n dX8_task_90 rfl rfl ?_
        refine pw_iload_n dX8_task_91 rfl rfl ?_
        refine pw_iconst (v := 1) dX8_task_92 (by decide) ?_
        refine pw_isub dX8_task_93 ?_
        rw [show (nI 6 - 1 : Int32) = nI 5 by decide]
        refine pe_callVi dX8_task_94 oX_X8_ofTask lk_RX8_84 (sp_ofTask (a := i) (w := 5) h (by omega) (by omega)) (mo_k h) rfl rfl (Nat.le_of_ble_eq_true rfl) (by decide) ?_
        exact pw_iret dX8_task_97 rfl ⟨by rw [mTaskV, if_pos (of_decide_eq_true c_5), nI_clamp (show i < 2 ^ 31 by omega), swV_in (Nat.le_of_ble_eq_true rfl) (Nat.le_of_ble_eq_true rfl)]; rfl, rfl, rfl, rfl⟩
      · refine pw_tableIn (x := nI 7) (off := 87) (tgt := 98) dX8_task_11 (by decide) (by decide) (by decide) (by decide) ?_
        refine pw_aload_n dX8_task_98 rfl rfl ?_
        refine pw_iload_n dX8_task_99 rfl rfl ?_
        refine pe_callVi dX8_task_100 oX_X8_endOf lk_RX8_97 (sp_endOf (t := i) h (by omega)) (mo_k h) rfl rfl (Nat.le_of_ble_eq_true rfl) (by decide) ?_
        exact pw_iret dX8_task_103 rfl ⟨by rw [mTaskV, if_pos (of_decide_eq_true c_5), nI_clamp (show i < 2 ^ 31 by omega), swV_in (Nat.le_of_ble_eq_true rfl) (Nat.le_of_ble_eq_true rfl)]; rfl, rfl, rfl, rfl⟩
      · refine pw_tableIn (x := nI 8) (off := 93) (tgt := 104) dX8_task_11 (by decide) (by decide) (by decide) (by decide) ?_
        refine pw_aload_n dX8_task_104 rfl rfl ?_
        refine pw_iload_n dX8_task_105 rfl rfl ?_
        refine pw_bipush (v := 7) dX8_task_106 (by decide) ?_
        refine pe_callVi dX8_task_108 oX_X8_ofTask lk_RX8_84 (sp_ofTask (a := i) (w := 7) h (by omega) (by omega)) (mo_k h) rfl rfl (Nat.le_of_ble_eq_true rfl) (by decide) ?_
        exact pw_iret dX8_task_111 rfl ⟨by rw [mTaskV, if_pos (of_decide_eq_true c_5), nI_clamp (show i < 2 ^ 31 by omega), swV_in (Nat.le_of_ble_eq_true rfl) (Nat.le_of_ble_eq_true rfl)]; rfl, rfl, rfl, rfl⟩
      · refine pw_tableIn (x := nI 9) (off := 101) (tgt := 112) dX8_task_11 (by decide) (by decide) (by decide) (by decide) ?_
        refine pw_aload_n dX8_task_112 rfl rfl ?_
        refine pw_iload_n dX8_task_113 rfl rfl ?_
        refine pe_callVi dX8_task_114 oX_X8_stateOf lk_RX8_87 (sp_stateOf (a := i) h (by omega)) (mo_k h) rfl rfl (Nat.le_of_ble_eq_true rfl) (by decide) ?_
        refine pw_iconst (v := 2) dX8_task_117 (by decide) ?_
        refine pw_icmp_ne (tgt := 131) dX8_task_118 (by decide) (fun c_118 => ?_) (fun c_118 => ?_)
        · refine pw_bipush (v := (-5)) dX8_task_131 (by decide) ?_
          exact pw_iret dX8_task_133 rfl ⟨by rw [mTaskV, if_pos (of_decide_eq_true c_5), nI_clamp (show i < 2 ^ 31 by omega), swV_in (Nat.le_of_ble_eq_true rfl) (Nat.le_of_ble_eq_true rfl)]; simp [c_118], rfl, rfl, rfl⟩
        · refine pw_aload_n dX8_task_121 rfl rfl ?_
          refine pw_iload_n dX8_task_122 rfl rfl ?_
          refine pw_bipush (v := 8) dX8_task_123 (by decide) ?_
          refine pe_callVi dX8_task_125 oX_X8_ofTask lk_RX8_84 (sp_ofTask (a := i) (w := 8) h (by omega) (by omega)) (mo_k h) rfl rfl (Nat.le_of_ble_eq_true rfl) (by decide) ?_
          refine pw_goto (tgt := 133) dX8_task_128 (by decide) ?_
          exact pw_iret dX8_task_133 rfl ⟨by rw [mTaskV, if_pos (of_decide_eq_true c_5), nI_clamp (show i < 2 ^ 31 by omega), swV_in (Nat.le_of_ble_eq_true rfl) (Nat.le_of_ble_eq_true rfl)]; simp [c_118], rfl, rfl, rfl⟩
      · refine pw_tableIn (x := nI 10) (off := 123) (tgt := 134) dX8_task_11 (by decide) (by decide) (by decide) (by decide) ?_
        refine pw_aload_n dX8_task_134 rfl rfl ?_
        refine pw_iload_n dX8_task_135 rfl rfl ?_
        refine pw_bipush (v := 9) dX8_task_136 (by decide) ?_
        refine pe_callVi dX8_task_138 oX_X8_ofTask lk_RX8_84 (sp_ofTask (a := i) (w := 9) h (by omega) (by omega)) (mo_k h) rfl rfl (Nat.le_of_ble_eq_true rfl) (by decide) ?_
        exact pw_iret dX8_task_141 rfl ⟨by rw [mTaskV, if_pos (of_decide_eq_true c_5), nI_clamp (show i < 2 ^ 31 by omega), swV_in (Nat.le_of_ble_eq_true rfl) (Nat.le_of_ble_eq_true rfl)]; rfl, rfl, rfl, rfl⟩
      · refine pw_tableIn (x := nI 11) (off := 131) (tgt := 142) dX8_task_11 (by decide) (by decide) (by decide) (by decide) ?_
        refine pw_aload_n dX8_task_142 rfl rfl ?_
        refine pw_iload_n dX8_task_143 rfl rfl ?_
        refine pe_callVi dX8_task_144 oX_X8_reasonOf lk_RX8_134 (sp_reasonOf (at_ := at_) h hn hn4 hkd hk5 hat (by omega) hi) (mo_k h) rfl rfl (Nat.le_of_ble_eq_true rfl) (by decide) ?_
        exact pw_iret dX8_task_147 rfl ⟨by rw [mTaskV, if_pos (of_decide_eq_true c_5), nI_clamp (show i < 2 ^ 31 by omega), swV_in (Nat.le_of_ble_eq_true rfl) (Nat.le_of_ble_eq_true rfl)]; rw [mKd, mAt, hkd, hat, nI_clamp (show kt < 2 ^ 31 by omega), nI_clamp (show at_ < 2 ^ 31 by omega)]; rfl, rfl, rfl, rfl⟩
      · refine pw_tableIn (x := nI 12) (off := 137) (tgt := 148) dX8_task_11 (by decide) (by decide) (by decide) (by decide) ?_
        refine pw_aload_n dX8_task_148 rfl rfl ?_
        refine pw_iload_n dX8_task_149 rfl rfl ?_
        refine pe_callVi dX8_task_150 oX_X8_stateOf lk_RX8_87 (sp_stateOf (a := i) h (by omega)) (mo_k h) rfl rfl (Nat.le_of_ble_eq_true rfl) (by decide) ?_
        refine pw_iconst (v := 2) dX8_task_153 (by decide) ?_
        refine pw_icmp_ne (tgt := 162) dX8_task_154 (by decide) (fun c_154 => ?_) (fun c_154 => ?_)
        · refine pw_aload_n dX8_task_162 rfl rfl ?_
          refine pw_iload_n dX8_task_163 rfl rfl ?_
          refine pe_callVi dX8_task_164 oX_X8_barredBy lk_RX8_103 (sp_barredBy (at_ := at_) h hn hn4 hkd hk5 hat (by omega) hi) (mo_k h) rfl rfl (Nat.le_of_ble_eq_true rfl) (by decide) ?_
          exact pw_iret dX8_task_167 rfl ⟨by rw [mTaskV, if_pos (of_decide_eq_true c_5), nI_clamp (show i < 2 ^ 31 by omega), swV_in (Nat.le_of_ble_eq_true rfl) (Nat.le_of_ble_eq_true rfl)]; rw [mKd, mAt, hkd, hat, nI_clamp (show kt < 2 ^ 31 by omega), nI_clamp (show at_ < 2 ^ 31 by omega)]; simp [c_154], rfl, rfl, rfl⟩
        · refine pw_bipush (v := (-5)) dX8_task_157 (by decide) ?_
          refine pw_goto (tgt := 167) dX8_task_159 (by decide) ?_
          exact pw_iret dX8_task_167 rfl ⟨by rw [mTaskV, if_pos (of_decide_eq_true c_5), nI_clamp (show i < 2 ^ 31 by omega), swV_in (Nat.le_of_ble_eq_true rfl) (Nat.le_of_ble_eq_true rfl)]; rw [mKd, mAt, hkd, hat, nI_clamp (show kt < 2 ^ 31 by omega), nI_clamp (show at_ < 2 ^ 31 by omega)]; simp [c_154], rfl, rfl, rfl⟩
    · refine pw_tableOut (tgt := 168) dX8_task_11 hout (by decide) ?_
      refine pw_bipush (v := (-2)) dX8_task_168 (by decide) ?_
      exact pw_iret dX8_task_170 rfl ⟨by rw [mTaskV, if_pos (of_decide_eq_true c_5), nI_clamp (show i < 2 ^ 31 by omega), swV_out hout (Nat.le_of_ble_eq_true rfl)], rfl, rfl, rfl⟩
  · refine pw_iconst (v := (-1)) dX8_task_8 (by decide) ?_
    exact pw_iret dX8_task_9 rfl ⟨by rw [mTaskV, if_neg (of_decide_eq_false c_5)], rfl, rfl, rfl⟩

set_option maxRecDepth 4000 in
theorem sp_m_crewFor {σ : pT} {I : pI} {F : pF} {m nC n : Nat} {a : Int32} (h : isMo σ m) (hC : I (m + 1) 2 = nI nC) (hC5 : nC ≤ 5) (hn : I (m + 1) 3 = nI n) (hn4 : n ≤ 24)  : PE yX8_crewFor cX8_crewFor mX8_crewFor [.ref m, .int a] σ I F (some (.int (mCrewForV (I (m + 1)) nC n a))) I F := by
  have KK : ∀ i, i < n → PW cX8_crewFor mX8_crewFor (fM (qE (some (.int (fstT (mCrewP (I (m + 1)) n i) nC 0))) σ I F)) 12 [.ref m, .int (nI i), .int 0] [] σ I F (0, 0) := by
    intro i hi
    have L12 : ∀ k, k ≤ nC → fstT (mCrewP (I (m + 1)) n i) (nC - k) k = fstT (mCrewP (I (m + 1)) n i) nC 0 → PW cX8_crewFor mX8_crewFor (fM (qE (some (.int (fstT (mCrewP (I (m + 1)) n i) nC 0))) σ I F)) 12 [.ref m, .int (nI i), .int (nI k)] [] σ I F (0, 0) := by
      refine dn (fun k => fstT (mCrewP (I (m + 1)) n i) (nC - k) k = fstT (mCrewP (I (m + 1)) n i) nC 0 → PW cX8_crewFor mX8_crewFor (fM (qE (some (.int (fstT (mCrewP (I (m + 1)) n i) nC 0))) σ I F)) 12 [.ref m, .int (nI i), .int (nI k)] [] σ I F (0, 0)) nC ?_ ?_
      · intro hx
        refine pw_iload_n dX8_crewFor_12 rfl rfl ?_
        refine pw_aload_n dX8_crewFor_13 rfl rfl ?_
        refine pw_getR (x := (m + 1)) dX8_crewFor_14 fd_RX8_7 (by decide) (mo_k h) rfl (mo_r1 h) ?_
        refine pw_iconst (v := 2) dX8_crewFor_17 (by decide) ?_
        refine pw_ialdN (j := 2) dX8_crewFor_18 (mo_k1 h) (by omega) (by decide) ?_
        refine pw_icmp_ge (tgt := 47) dX8_crewFor_19 (by decide) (fun c_19 => ?_) (fun c_19 => absurd (k_ge hC) c_19)
        refine pw_bipush (v := (-5)) dX8_crewFor_47 (by decide) ?_
        exact pw_iret dX8_crewFor_49 rfl ⟨by rw [fst_0] at hx; rw [← hx], rfl, rfl, rfl⟩
      · intro k hk ih
        intro hx
        refine pw_iload_n dX8_crewFor_12 rfl rfl ?_
        refine pw_aload_n dX8_crewFor_13 rfl rfl ?_
        refine pw_getR (x := (m + 1)) dX8_crewFor_14 fd_RX8_7 (by decide) (mo_k h) rfl (mo_r1 h) ?_
        refine pw_iconst (v := 2) dX8_crewFor_17 (by decide) ?_
        refine pw_ialdN (j := 2) dX8_crewFor_18 (mo_k1 h) (by omega) (by decide) ?_
        refine pw_icmp_ge (tgt := 47) dX8_crewFor_19 (by decide) (fun c_19 => absurd c_19 (k_lt hC hk (by omega))) (fun c_19 => ?_)
        refine pw_aload_n dX8_crewFor_22 rfl rfl ?_
        refine pw_iload_n dX8_crewFor_23 rfl rfl ?_
        refine pe_callVi dX8_crewFor_24 oX_X8_stateOf lk_RX8_87 (sp_stateOf (a := i) h (by omega)) (mo_k h) rfl rfl (Nat.le_of_ble_eq_true rfl) (by decide) ?_
        refine pw_if_ne (tgt := 47) dX8_crewFor_27 (by decide) (fun c_27 => ?_) (fun c_27 => ?_)
        · refine pw_bipush (v := (-5)) dX8_crewFor_47 (by decide) ?_
          exact pw_iret dX8_crewFor_49 rfl ⟨by rw [fst_no (fun c => by simp [mCrewP, c_27])], rfl, rfl, rfl⟩
        · refine pw_aload_n dX8_crewFor_30 rfl rfl ?_
          refine pw_iload_n dX8_crewFor_31 rfl rfl ?_
          refine pw_iload_n dX8_crewFor_32 rfl rfl ?_
          refine pe_callVi dX8_crewFor_33 oX_X8_canHang lk_RX8_125 (sp_canHang (t := i) (d := k) h hn hn4 (by omega) (by omega)) (mo_k h) rfl rfl (Nat.le_of_ble_eq_true rfl) (by decide) ?_
          refine pw_ifB_eq (tgt := 41) dX8_crewFor_36 (by decide) (fun c_36 => ?_) (fun c_36 => ?_)
          · refine pw_iinc (v := nI (k + 1)) dX8_crewFor_41 rfl (nI_add _ _) rfl ?_
            refine pw_goto (tgt := 12) dX8_crewFor_44 (by decide) ?_
            rw [fst_f hk (by simp [mCrewP, c_36])] at hx
            exact ih hx
          · refine pw_iload_n dX8_crewFor_39 rfl rfl ?_
            exact pw_iret dX8_crewFor_40 rfl ⟨by rw [fst_t hk (by simp [mCrewP, c_27, c_36])] at hx; rw [← hx], rfl, rfl, rfl⟩
    exact L12 0 (Nat.zero_le _) rfl
  refine PE.of oP_X8_crewFor (catOK rfl) (Nat.le_of_ble_eq_true rfl) ?_
  show PW _ _ _ 0 [.ref m, .int a, pJ] [] _ _ _ _
  refine pw_aload_n dX8_crewFor_0 rfl rfl ?_
  refine pw_iload_n dX8_crewFor_1 rfl rfl ?_
  refine pe_callVi dX8_crewFor_2 oX_X8_isTask lk_RX8_119 (sp_isTask h hn hn4) (mo_k h) rfl rfl (Nat.le_of_ble_eq_true rfl) (by decide) ?_
  refine pw_ifB_ne (tgt := 10) dX8_crewFor_5 (by decide) (fun c_5 => ?_) (fun c_5 => ?_)
  · obtain ⟨i, hi, rfl⟩ := has_nat c_5 hn (by omega)
    refine pw_iconst (v := 0) dX8_crewFor_10 (by decide) ?_
    refine pw_istore_n dX8_crewFor_11 rfl (by decide) rfl ?_
    rw [mCrewForV, if_pos (of_decide_eq_true c_5), nI_clamp (show i < 2 ^ 31 by omega)]; exact KK i hi
  · refine pw_iconst (v := (-1)) dX8_crewFor_8 (by decide) ?_
    exact pw_iret dX8_crewFor_9 rfl ⟨by rw [mCrewForV, if_neg (of_decide_eq_false c_5)], rfl, rfl, rfl⟩

set_option maxRecDepth 4000 in
theorem sp_m_count {σ : pT} {I : pI} {F : pF} {m nA nC n : Nat} {w : Int32} (h : isMo σ m) (hA : I (m + 1) 1 = nI nA) (hA8 : nA ≤ 8) (hC : I (m + 1) 2 = nI nC) (hC5 : nC ≤ 5) (hn : I (m + 1) 3 = nI n) (hn4 : n ≤ 24)  : PE yX8_count cX8_count mX8_count [.ref m, .int w] σ I F (some (.int (mCountV (I (m + 1)) nA nC n (I m 6) (I m 9) w))) I F := by
  refine PE.of oP_X8_count (catOK rfl) (Nat.le_of_ble_eq_true rfl) ?_
  show PW _ _ _ 0 [.ref m, .int w] [] _ _ _ _
  refine pw_iload_n dX8_count_0 rfl rfl ?_
  refine pw_iconst (v := 5) dX8_count_1 (by decide) ?_
  refine pw_bipush (v := 11) dX8_count_2 (by decide) ?_
  refine pe_callSi dX8_count_4 oX_X8_isIn lk_RX8_32 sp_isIn rfl rfl (Nat.le_of_ble_eq_true rfl) (by decide) ?_
  refine pw_ifB_eq (tgt := 18) dX8_count_7 (by decide) (fun c_7 => ?_) (fun c_7 => ?_)
  · refine pw_iload_n dX8_count_18 rfl rfl ?_
    rcases sw_cases w 16 (by decide) with ⟨kw, hkw, rfl⟩ | hout
    · rcases (show kw = 0 ∨ kw = 1 ∨ kw = 2 ∨ kw = 3 ∨ kw = 4 ∨ kw = 5 ∨ kw = 6 ∨ kw = 7 ∨ kw = 8 ∨ kw = 9 ∨ kw = 10 ∨ kw = 11 ∨ kw = 12 ∨ kw = 13 ∨ kw = 14 ∨ kw = 15 ∨ kw = 16 by omega) with rfl | rfl | rfl | rfl | rfl | rfl | rfl | rfl | rfl | rfl | rfl | rfl | rfl | rfl | rfl | rfl | rfl
      · refine pw_tableIn (x := nI 0) (off := 81) (tgt := 100) dX8_count_19 (by decide) (by decide) (by decide) (by decide) ?_
        refine pw_aload_n dX8_count_100 rfl rfl ?_
        refine pw_getR (x := (m + 1)) dX8_count_101 fd_RX8_7 (by decide) (mo_k h) rfl (mo_r1 h) ?_
        refine pw_iload_n dX8_count_104 rfl rfl ?_
        refine pw_ialdN (j := 0) dX8_count_105 (mo_k1 h) (by omega) (by decide) ?_
        exact pw_iret dX8_count_106 rfl ⟨by rw [mCountV, swV_in (Nat.le_of_ble_eq_true rfl) (Nat.le_of_ble_eq_true rfl)]; rfl, rfl, rfl, rfl⟩
      · refine pw_tableIn (x := nI 1) (off := 81) (tgt := 100) dX8_count_19 (by decide) (by decide) (by decide) (by decide) ?_
        refine pw_aload_n dX8_count_100 rfl rfl ?_
        refine pw_getR (x := (m + 1)) dX8_count_101 fd_RX8_7 (by decide) (mo_k h) rfl (mo_r1 h) ?_
        refine pw_iload_n dX8_count_104 rfl rfl ?_
        refine pw_ialdN (j := 1) dX8_count_105 (mo_k1 h) (by omega) (by decide) ?_
        exact pw_iret dX8_count_106 rfl ⟨by rw [mCountV, swV_in (Nat.le_of_ble_eq_true rfl) (Nat.le_of_ble_eq_true rfl)]; rfl, rfl, rfl, rfl⟩
      · refine pw_tableIn (x := nI 2) (off := 88) (tgt := 107) dX8_count_19 (by decide) (by decide) (by decide) (by decide) ?_
        refine pw_aload_n dX8_count_107 rfl rfl ?_
        refine pe_callVi dX8_count_108 oX_X8_running lk_RX8_106 (sp_m_running h hA hA8) (mo_k h) rfl rfl (Nat.le_of_ble_eq_true rfl) (by decide) ?_
        exact pw_iret dX8_count_111 rfl ⟨by rw [mCountV, swV_in (Nat.le_of_ble_eq_true rfl) (Nat.le_of_ble_eq_true rfl)]; rfl, rfl, rfl, rfl⟩
      · refine pw_tableIn (x := nI 3) (off := 93) (tgt := 112) dX8_count_19 (by decide) (by decide) (by decide) (by decide) ?_
        refine pw_aload_n dX8_count_112 rfl rfl ?_
        refine pw_getR (x := (m + 1)) dX8_count_113 fd_RX8_7 (by decide) (mo_k h) rfl (mo_r1 h) ?_
        refine pw_iload_n dX8_count_116 rfl rfl ?_
        refine pw_iconst (v := 1) dX8_count_117 (by decide) ?_
        refine pw_isub dX8_count_118 ?_
        rw [show (nI 3 - 1 : Int32) = nI 2 by decide]
        refine pw_ialdN (j := 2) dX8_count_119 (mo_k1 h) (by omega) (by decide) ?_
        exact pw_iret dX8_count_120 rfl ⟨by rw [mCountV, swV_in (Nat.le_of_ble_eq_true rfl) (Nat.le_of_ble_eq_true rfl)]; rfl, rfl, rfl, rfl⟩
      · refine pw_tableIn (x := nI 4) (off := 93) (tgt := 112) dX8_count_19 (by decide) (by decide) (by decide) (by decide) ?_
        refine pw_aload_n dX8_count_112 rfl rfl ?_
        refine pw_getR (x := (m + 1)) dX8_count_113 fd_RX8_7 (by decide) (mo_k h) rfl (mo_r1 h) ?_
        refine pw_iload_n dX8_count_116 rfl rfl ?_
        refine pw_iconst (v := 1) dX8_count_117 (by decide) ?_
        refine pw_isub dX8_count_118 ?_
        rw [show (nI 4 - 1 : Int32) = nI 3 by decide]
        refine pw_ialdN (j := 3) dX8_count_119 (mo_k1 h) (by omega) (by decide) ?_
        exact pw_iret dX8_count_120 rfl ⟨by rw [mCountV, swV_in (Nat.le_of_ble_eq_true rfl) (Nat.le_of_ble_eq_true rfl)]; rfl, rfl, rfl, rfl⟩
      · refine pw_tableIn (x := nI 5) (off := 127) (tgt := 146) dX8_count_19 (by decide) (by decide) (by decide) (by decide) ?_
        refine pw_bipush (v := (-2)) dX8_count_146 (by decide) ?_
        exact pw_iret dX8_count_148 rfl ⟨absurd c_7 (by decide), rfl, rfl, rfl⟩
      · refine pw_tableIn (x := nI 6) (off := 127) (tgt := 146) dX8_count_19 (by decide) (by decide) (by decide) (by decide) ?_
        refine pw_bipush (v := (-2)) dX8_count_146 (by decide) ?_
        exact pw_iret dX8_count_148 rfl ⟨absurd c_7 (by decide), rfl, rfl, rfl⟩
      · refine pw_tableIn (x := nI 7) (off := 127) (tgt := 146) dX8_count_19 (by decide) (by decide) (by decide) (by decide) ?_
        refine pw_bipush (v := (-2)) dX8_count_146 (by decide) ?_
        exact pw_iret dX8_count_148 rfl ⟨absurd c_7 (by decide), rfl, rfl, rfl⟩
      · refine pw_tableIn (x := nI 8) (off := 127) (tgt := 146) dX8_count_19 (by decide) (by decide) (by decide) (by decide) ?_
        refine pw_bipush (v := (-2)) dX8_count_146 (by decide) ?_
        exact pw_iret dX8_count_148 rfl ⟨absurd c_7 (by decide), rfl, rfl, rfl⟩
      · refine pw_tableIn (x := nI 9) (off := 127) (tgt := 146) dX8_count_19 (by decide) (by decide) (by decide) (by decide) ?_
        refine pw_bipush (v := (-2)) dX8_count_146 (by decide) ?_
        exact pw_iret dX8_count_148 rfl ⟨absurd c_7 (by decide), rfl, rfl, rfl⟩
      · refine pw_tableIn (x := nI 10) (off := 127) (tgt := 146) dX8_count_19 (by decide) (by decide) (by decide) (by decide) ?_
        refine pw_bipush (v := (-2)) dX8_count_146 (by decide) ?_
        exact pw_iret dX8_count_148 rfl ⟨absurd c_7 (by decide), rfl, rfl, rfl⟩
      · refine pw_tableIn (x := nI 11) (off := 127) (tgt := 146) dX8_count_19 (by decide) (by decide) (by decide) (by decide) ?_
        refine pw_bipush (v := (-2)) dX8_count_146 (by decide) ?_
        exact pw_iret dX8_count_148 rfl ⟨absurd c_7 (by decide), rfl, rfl, rfl⟩
      · refine pw_tableIn (x := nI 12) (off := 102) (tgt := 121) dX8_count_19 (by decide) (by decide) (by decide) (by decide) ?_
        refine pw_aload_n dX8_count_121 rfl rfl ?_
        refine pe_callVi dX8_count_122 oX_X8_tags lk_RX8_226 (sp_tags (nC := nC) (n := n) h hA hA8) (mo_k h) rfl rfl (Nat.le_of_ble_eq_true rfl) (by decide) ?_
        exact pw_iret dX8_count_125 rfl ⟨by rw [mCountV, swV_in (Nat.le_of_ble_eq_true rfl) (Nat.le_of_ble_eq_true rfl)]; rfl, rfl, rfl, rfl⟩
      · refine pw_tableIn (x := nI 13) (off := 107) (tgt := 126) dX8_count_19 (by decide) (by decide) (by decide) (by decide) ?_
        refine pw_aload_n dX8_count_126 rfl rfl ?_
        refine pe_callVi dX8_count_127 oX_X8_allSlips lk_RX8_229 (sp_allSlips (nA := nA) (nC := nC) h hn hn4) (mo_k h) rfl rfl (Nat.le_of_ble_eq_true rfl) (by decide) ?_
        exact pw_iret dX8_count_130 rfl ⟨by rw [mCountV, swV_in (Nat.le_of_ble_eq_true rfl) (Nat.le_of_ble_eq_true rfl)]; rfl, rfl, rfl, rfl⟩
      · refine pw_tableIn (x := nI 14) (off := 112) (tgt := 131) dX8_count_19 (by decide) (by decide) (by decide) (by decide) ?_
        refine pw_aload_n dX8_count_131 rfl rfl ?_
        refine pe_callVi dX8_count_132 oX_X8_allBusy lk_RX8_232 (sp_allBusy (nA := nA) h hC hC5 hn hn4) (mo_k h) rfl rfl (Nat.le_of_ble_eq_true rfl) (by decide) ?_
        exact pw_iret dX8_count_135 rfl ⟨by rw [mCountV, swV_in (Nat.le_of_ble_eq_true rfl) (Nat.le_of_ble_eq_true rfl)]; rfl, rfl, rfl, rfl⟩
      · refine pw_tableIn (x := nI 15) (off := 117) (tgt := 136) dX8_count_19 (by decide) (by decide) (by decide) (by decide) ?_
        refine pw_aload_n dX8_count_136 rfl rfl ?_
        refine pw_getI dX8_count_137 fd_RX8_36 (by decide) (mo_k h) rfl ?_
        exact pw_iret dX8_count_140 rfl ⟨by rw [mCountV, swV_in (Nat.le_of_ble_eq_true rfl) (Nat.le_of_ble_eq_true rfl)]; rfl, rfl, rfl, rfl⟩
      · refine pw_tableIn (x := nI 16) (off := 122) (tgt := 141) dX8_count_19 (by decide) (by decide) (by decide) (by decide) ?_
        refine pw_aload_n dX8_count_141 rfl rfl ?_
        refine pw_getI dX8_count_142 fd_RX8_174 (by decide) (mo_k h) rfl ?_
        exact pw_iret dX8_count_145 rfl ⟨by rw [mCountV, swV_in (Nat.le_of_ble_eq_true rfl) (Nat.le_of_ble_eq_true rfl)]; rfl, rfl, rfl, rfl⟩
    · refine pw_tableOut (tgt := 146) dX8_count_19 hout (by decide) ?_
      refine pw_bipush (v := (-2)) dX8_count_146 (by decide) ?_
      exact pw_iret dX8_count_148 rfl ⟨by rw [mCountV, swV_out hout (Nat.le_of_ble_eq_true rfl)], rfl, rfl, rfl⟩
  · obtain ⟨d9, hd1, hd2, rfl⟩ := win_nat (lo := 5) (hi := 11) c_7 (by decide) (by decide)
    refine pw_aload_n dX8_count_10 rfl rfl ?_
    refine pw_iload_n dX8_count_11 rfl rfl ?_
    refine pw_iconst (v := 5) dX8_count_12 (by decide) ?_
    refine pw_isub dX8_count_13 ?_
    refine pe_callVi dX8_count_14 oX_X8_inState lk_RX8_223 (sp_inState h hn hn4) (mo_k h) rfl rfl (Nat.le_of_ble_eq_true rfl) (by decide) ?_
    exact pw_iret dX8_count_17 rfl (by rcases (show d9 = 5 ∨ d9 = 6 ∨ d9 = 7 ∨ d9 = 8 ∨ d9 = 9 ∨ d9 = 10 ∨ d9 = 11 by omega) with rfl | rfl | rfl | rfl | rfl | rfl | rfl <;> exact ⟨by rw [mCountV, swV_in (Nat.le_of_ble_eq_true rfl) (Nat.le_of_ble_eq_true rfl)]; rfl, rfl, rfl, rfl⟩)
