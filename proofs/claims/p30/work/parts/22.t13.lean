/-! what is told -/
def swV {α : Type} (w : Int32) (fs : List α) (d : α) : α := if 0 ≤ w.toInt ∧ w.toInt < fs.length then fs.getD w.toInt.toNat d else d
theorem swV_in {α : Type} {k : Nat} {fs : List α} {d : α} (h : k < fs.length) (h2 : fs.length < 100) : swV (nI k) fs d = fs.getD k d := by
  unfold swV
  rw [nI_toInt (by omega), if_pos ⟨by omega, by omega⟩]
  rfl
theorem swV_out {α : Type} {w : Int32} {fs : List α} {d : α} {hi : Nat} (h : w.toInt < 0 ∨ (hi : Int) < w.toInt) (h2 : fs.length ≤ hi + 1) : swV w fs d = d := by
  unfold swV
  rw [if_neg (by omega)]
theorem sw_cases (w : Int32) (hi : Nat) (h : hi < 100) : (∃ k, k ≤ hi ∧ w = nI k) ∨ (w.toInt < 0 ∨ (hi : Int) < w.toInt) := by
  by_cases h1 : w.toInt < 0
  · exact Or.inr (Or.inl h1)
  · by_cases h2 : (hi : Int) < w.toInt
    · exact Or.inr (Or.inr h2)
    · refine Or.inl ?_
      have h3 : (0 : Int32).toInt = 0 := by decide
      obtain ⟨j, hj, rfl⟩ := nI_of (x := w) (by rw [Int32.lt_iff_toInt_lt, h3]; omega)
      rw [nI_toInt hj] at h2
      exact ⟨j, by omega, rfl⟩

def realV (F : pF) (I : pI) (p : Nat) (a w : Int32) : UInt32 := if 0 ≤ a ∧ a < I p 4 then swV w [F (p + 5 + a.toNatClampNeg) 2, F (p + 5 + a.toNatClampNeg) 3, F (p + 5 + a.toNatClampNeg) 1] 2143289344 else 2143289344
def healthInV (F : pF) (I : pI) (p : Nat) (a w : Int32) : UInt32 := if (0 ≤ a ∧ a < I p 4) ∧ (0 ≤ w ∧ w ≤ 200) then wornN (F (p + 5 + a.toNatClampNeg) 1) w.toNatClampNeg (F (p + 5 + a.toNatClampNeg) 2) else 2143289344
def hoursToV (F : pF) (I : pI) (p : Nat) (a w : Int32) : Int32 := if 0 ≤ a ∧ a < I p 4 then (if 1 ≤ w ∧ w ≤ 100 then untilB (F (p + 5 + a.toNatClampNeg) 1) (FP.fdiv (FP.i2f w) 1120403456) 201 0 (F (p + 5 + a.toNatClampNeg) 2) else -2) else -1
def atC (I : pI) (p n : Nat) (a f l : Int32) : Nat := cntT (fun t => decide (I (p + 18 + t) 0 = a) && decide (f ≤ I (p + 18 + t) 7 ∧ I (p + 18 + t) 7 ≤ l)) n
def ofC (I : pI) (p n : Nat) (a f l : Int32) : Nat := cntT (fun t => decide (I (p + 18 + t) 8 = a) && decide (f ≤ I (p + 18 + t) 7 ∧ I (p + 18 + t) 7 ≤ l)) n
def inC (I : pI) (p n : Nat) (f l : Int32) : Nat := cntT (fun t => decide (f ≤ I (p + 18 + t) 7 ∧ I (p + 18 + t) 7 ≤ l)) n
def slipsC (I : pI) (p n : Nat) : Int32 := sumT (fun t => I (p + 18 + t) 10) n
def allBusyC (I : pI) (p n : Nat) : Int32 := sumT (fun t => if decide (1 ≤ I (p + 18 + t) 7 ∧ I (p + 18 + t) 7 ≤ 3) = true then I (p + 18 + t) 2 else 0) n
def assetV (I : pI) (F : pF) (p n : Nat) (a w : Int32) : Int32 := if 0 ≤ a ∧ a < I p 4 then swV w [(if I (p + 5 + a.toNatClampNeg) 4 = 0 then 0 else 1), nI (tagsC I p n a), tagC I p n a 0, I (p + 5 + a.toNatClampNeg) 5, nI (atC I p n a 0 3), nI (atC I p n a 4 4), FP.f2i (FP.fmul (F (p + 5 + a.toNatClampNeg) 2) 1148846080), FP.f2i (F (p + 5 + a.toNatClampNeg) 3)] (-2) else -1
def tagAtV (I : pI) (p n : Nat) (a w : Int32) : Int32 := if 0 ≤ a ∧ a < I p 4 then (if 0 ≤ w then tagC I p n a w else -2) else -1
def crewV (I : pI) (p n : Nat) (a w : Int32) : Int32 := if 0 ≤ a ∧ a < I p 5 then swV w [I (p + 13 + a.toNatClampNeg) 0, I (p + 13 + a.toNatClampNeg) 1, busyC I p n a, nI (ofC I p n a 1 3), nI (ofC I p n a 4 4)] (-2) else -1
def taskV (I : pI) (p n : Nat) (a w : Int32) : Int32 := if 0 ≤ a ∧ a < I p 6 then swV w [I (p + 18 + a.toNatClampNeg) 0, I (p + 18 + a.toNatClampNeg) 7, I (p + 18 + a.toNatClampNeg) 1, I (p + 18 + a.toNatClampNeg) 2, I (p + 18 + a.toNatClampNeg) 3, I (p + 18 + a.toNatClampNeg) 4, I (p + 18 + a.toNatClampNeg) 5, I (p + 18 + a.toNatClampNeg) 6, I (p + 18 + a.toNatClampNeg) 8, (if I (p + 18 + a.toNatClampNeg) 7 = 2 then I (p + 18 + a.toNatClampNeg) 9 else -5), I (p + 18 + a.toNatClampNeg) 10, reasC I p n a.toNatClampNeg (I (p + 18 + a.toNatClampNeg) 3).toNatClampNeg (I (p + 18 + a.toNatClampNeg) 0).toNatClampNeg, barrC I p n a.toNatClampNeg (I (p + 18 + a.toNatClampNeg) 3).toNatClampNeg (I (p + 18 + a.toNatClampNeg) 0).toNatClampNeg] (-2) else -1
def crewForV (I : pI) (p nC n : Nat) (a : Int32) : Int32 := if 0 ≤ a ∧ a < I p 6 then crewC I p nC n a.toNatClampNeg else -1
def countV (I : pI) (x nA n : Nat) (w : Int32) : Int32 := swV w [I (x + 1) 7, I (x + 1) 4, nI (runsC I (x + 1) nA), I (x + 1) 5, I (x + 1) 6, nI (inC I (x + 1) n (w - 5) (w - 5)), nI (inC I (x + 1) n (w - 5) (w - 5)), nI (inC I (x + 1) n (w - 5) (w - 5)), nI (inC I (x + 1) n (w - 5) (w - 5)), nI (inC I (x + 1) n (w - 5) (w - 5)), nI (inC I (x + 1) n (w - 5) (w - 5)), nI (inC I (x + 1) n (w - 5) (w - 5)), nI (inC I (x + 1) n 1 3), slipsC I (x + 1) n, allBusyC I (x + 1) n, I (x + 127) 2, I (x + 297) 1] (-2)

set_option maxRecDepth 4000 in
theorem sp_x_real {σ : pT} {I : pI} {F : pF} {x nA : Nat} {a w : Int32} (h : isTW σ x) (hA : I (x + 1) 4 = nI nA) (hA8 : nA ≤ 8)  : PE yX7_real cX7_real mX7_real [.ref x, .int a, .int w] σ I F (some (.float (realV F I (x + 1) a w))) I F := by
  refine PE.of oP_X7_real (catOK rfl) (Nat.le_of_ble_eq_true rfl) ?_
  show PW _ _ _ 0 [.ref x, .int a, .int w, pJ] [] _ _ _ _
  refine pw_aload_n dX7_real_0 rfl rfl ?_
  refine pw_getR (x := (x + 1)) dX7_real_1 fd_RX7_10 (by decide) (tw_k h) rfl (tw_r0 h) ?_
  refine pw_iload_n dX7_real_4 rfl rfl ?_
  refine pe_callVi dX7_real_5 oX_X5_hasAsset lk_RX7_117 (sp_hasAsset (tw_now h)) (pl_k (tw_now h)) rfl rfl (Nat.le_of_ble_eq_true rfl) (by decide) ?_
  refine pw_ifB_ne (tgt := 14) dX7_real_8 (by decide) (fun c_8 => ?_) (fun c_8 => ?_)
  · obtain ⟨i, hi, rfl⟩ := has_nat c_8 hA (by omega)
    refine pw_aload_n dX7_real_14 rfl rfl ?_
    refine pw_getR (x := (x + 1)) dX7_real_15 fd_RX7_10 (by decide) (tw_k h) rfl (tw_r0 h) ?_
    refine pw_getR (x := ((x + 1) + 1)) dX7_real_18 fd_RX7_122 (by decide) (pl_k (tw_now h)) rfl (pl_rA (tw_now h)) ?_
    refine pw_iload_n dX7_real_21 rfl rfl ?_
    refine pw_aaldN (j := i) (x := ((x + 1) + 5 + i)) dX7_real_22 (pl_kA (tw_now h)) (by omega) (by decide) (by decide) (pl_eA (tw_now h) (by omega)) ?_
    refine pw_astore_n dX7_real_23 rfl (by decide) rfl ?_
    refine pw_iload_n dX7_real_24 rfl rfl ?_
    rcases sw_cases w 2 (by decide) with ⟨kw, hkw, rfl⟩ | hout
    · rcases (show kw = 0 ∨ kw = 1 ∨ kw = 2 by omega) with rfl | rfl | rfl
      · refine pw_tableIn (x := nI 0) (off := 27) (tgt := 52) dX7_real_25 (by decide) (by decide) (by decide) (by decide) ?_
        refine pw_aload_n dX7_real_52 rfl rfl ?_
        refine pw_getF dX7_real_53 fd_RX7_126 (by decide) (pl_oA (tw_now h) (by omega)) rfl ?_
        exact pw_fret dX7_real_56 rfl ⟨by rw [realV, if_pos (of_decide_eq_true c_8), nI_clamp (show i < 2 ^ 31 by omega), swV_in (Nat.le_of_ble_eq_true rfl) (Nat.le_of_ble_eq_true rfl)]; rfl, rfl, rfl, rfl⟩
      · refine pw_tableIn (x := nI 1) (off := 32) (tgt := 57) dX7_real_25 (by decide) (by decide) (by decide) (by decide) ?_
        refine pw_aload_n dX7_real_57 rfl rfl ?_
        refine pw_getF dX7_real_58 fd_RX7_132 (by decide) (pl_oA (tw_now h) (by omega)) rfl ?_
        exact pw_fret dX7_real_61 rfl ⟨by rw [realV, if_pos (of_decide_eq_true c_8), nI_clamp (show i < 2 ^ 31 by omega), swV_in (Nat.le_of_ble_eq_true rfl) (Nat.le_of_ble_eq_true rfl)]; rfl, rfl, rfl, rfl⟩
      · refine pw_tableIn (x := nI 2) (off := 37) (tgt := 62) dX7_real_25 (by decide) (by decide) (by decide) (by decide) ?_
        refine pw_aload_n dX7_real_62 rfl rfl ?_
        refine pw_getF dX7_real_63 fd_RX7_135 (by decide) (pl_oA (tw_now h) (by omega)) rfl ?_
        exact pw_fret dX7_real_66 rfl ⟨by rw [realV, if_pos (of_decide_eq_true c_8), nI_clamp (show i < 2 ^ 31 by omega), swV_in (Nat.le_of_ble_eq_true rfl) (Nat.le_of_ble_eq_true rfl)]; rfl, rfl, rfl, rfl⟩
    · refine pw_tableOut (tgt := 67) dX7_real_25 hout (by decide) ?_
      refine pw_ldcf dX7_real_67 kc_RX7_121 ?_
      exact pw_fret dX7_real_69 rfl ⟨by rw [realV, if_pos (of_decide_eq_true c_8), nI_clamp (show i < 2 ^ 31 by omega), swV_out hout (Nat.le_of_ble_eq_true rfl)], rfl, rfl, rfl⟩
  · refine pw_ldcf dX7_real_11 kc_RX7_121 ?_
    exact pw_fret dX7_real_13 rfl ⟨by rw [realV, if_neg (of_decide_eq_false c_8)], rfl, rfl, rfl⟩

set_option maxRecDepth 4000 in
theorem sp_x_hoursTo {σ : pT} {I : pI} {F : pF} {x nA : Nat} {a w : Int32} (h : isTW σ x) (hA : I (x + 1) 4 = nI nA) (hA8 : nA ≤ 8)  : PE yX7_hoursTo cX7_hoursTo mX7_hoursTo [.ref x, .int a, .int w] σ I F (some (.int (hoursToV F I (x + 1) a w))) I F := by
  refine PE.of oP_X7_hoursTo (catOK rfl) (Nat.le_of_ble_eq_true rfl) ?_
  show PW _ _ _ 0 [.ref x, .int a, .int w] [] _ _ _ _
  refine pw_aload_n dX7_hoursTo_0 rfl rfl ?_
  refine pw_getR (x := (x + 1)) dX7_hoursTo_1 fd_RX7_10 (by decide) (tw_k h) rfl (tw_r0 h) ?_
  refine pw_iload_n dX7_hoursTo_4 rfl rfl ?_
  refine pe_callVi dX7_hoursTo_5 oX_X5_hasAsset lk_RX7_117 (sp_hasAsset (tw_now h)) (pl_k (tw_now h)) rfl rfl (Nat.le_of_ble_eq_true rfl) (by decide) ?_
  refine pw_ifB_ne (tgt := 13) dX7_hoursTo_8 (by decide) (fun c_8 => ?_) (fun c_8 => ?_)
  · obtain ⟨i, hi, rfl⟩ := has_nat c_8 hA (by omega)
    refine pw_iload_n dX7_hoursTo_13 rfl rfl ?_
    refine pw_iconst (v := 1) dX7_hoursTo_14 (by decide) ?_
    refine pw_bipush (v := 100) dX7_hoursTo_15 (by decide) ?_
    refine pe_callSi dX7_hoursTo_17 oX_X7_within lk_RX7_138 sp_within rfl rfl (Nat.le_of_ble_eq_true rfl) (by decide) ?_
    refine pw_ifB_ne (tgt := 26) dX7_hoursTo_20 (by decide) (fun c_20 => ?_) (fun c_20 => ?_)
    · refine pw_aload_n dX7_hoursTo_26 rfl rfl ?_
      refine pw_getR (x := (x + 1)) dX7_hoursTo_27 fd_RX7_10 (by decide) (tw_k h) rfl (tw_r0 h) ?_
      refine pw_getR (x := ((x + 1) + 1)) dX7_hoursTo_30 fd_RX7_122 (by decide) (pl_k (tw_now h)) rfl (pl_rA (tw_now h)) ?_
      refine pw_iload_n dX7_hoursTo_33 rfl rfl ?_
      refine pw_aaldN (j := i) (x := ((x + 1) + 5 + i)) dX7_hoursTo_34 (pl_kA (tw_now h)) (by omega) (by decide) (by decide) (pl_eA (tw_now h) (by omega)) ?_
      refine pw_iload_n dX7_hoursTo_35 rfl rfl ?_
      refine pw_i2f dX7_hoursTo_36 ?_
      refine pw_ldcf dX7_hoursTo_37 kc_RX7_146 ?_
      refine pw_fdiv dX7_hoursTo_39 ?_
      refine pe_callVi dX7_hoursTo_40 oX_X0_hoursUntilBelow lk_RX7_147 (sp_hoursUntil (pl_oA (tw_now h) (by omega))) (pl_oA (tw_now h) (by omega)) rfl rfl (Nat.le_of_ble_eq_true rfl) (by decide) ?_
      exact pw_iret dX7_hoursTo_43 rfl ⟨by rw [hoursToV, if_pos (of_decide_eq_true c_8), if_pos (of_decide_eq_true c_20), nI_clamp (show i < 2 ^ 31 by omega)], rfl, rfl, rfl⟩
    · refine pw_bipush (v := (-2)) dX7_hoursTo_23 (by decide) ?_
      exact pw_iret dX7_hoursTo_25 rfl ⟨by rw [hoursToV, if_pos (of_decide_eq_true c_8), if_neg (of_decide_eq_false c_20)], rfl, rfl, rfl⟩
  · refine pw_iconst (v := (-1)) dX7_hoursTo_11 (by decide) ?_
    exact pw_iret dX7_hoursTo_12 rfl ⟨by rw [hoursToV, if_neg (of_decide_eq_false c_8)], rfl, rfl, rfl⟩

set_option maxRecDepth 4000 in
theorem sp_x_asset {σ : pT} {I : pI} {F : pF} {x nA n : Nat} {a w : Int32} (h : isTW σ x) (hA : I (x + 1) 4 = nI nA) (hA8 : nA ≤ 8) (hn : I (x + 1) 6 = nI n) (hn4 : n ≤ 24)  : PE yX7_asset cX7_asset mX7_asset [.ref x, .int a, .int w] σ I F (some (.int (assetV I F (x + 1) n a w))) I F := by
  refine PE.of oP_X7_asset (catOK rfl) (Nat.le_of_ble_eq_true rfl) ?_
  show PW _ _ _ 0 [.ref x, .int a, .int w, pJ] [] _ _ _ _
  refine pw_aload_n dX7_asset_0 rfl rfl ?_
  refine pw_getR (x := (x + 1)) dX7_asset_1 fd_RX7_10 (by decide) (tw_k h) rfl (tw_r0 h) ?_
  refine pw_iload_n dX7_asset_4 rfl rfl ?_
  refine pe_callVi dX7_asset_5 oX_X5_hasAsset lk_RX7_117 (sp_hasAsset (tw_now h)) (pl_k (tw_now h)) rfl rfl (Nat.le_of_ble_eq_true rfl) (by decide) ?_
  refine pw_ifB_ne (tgt := 13) dX7_asset_8 (by decide) (fun c_8 => ?_) (fun c_8 => ?_)
  · obtain ⟨i, hi, rfl⟩ := has_nat c_8 hA (by omega)
    refine pw_aload_n dX7_asset_13 rfl rfl ?_
    refine pw_getR (x := (x + 1)) dX7_asset_14 fd_RX7_10 (by decide) (tw_k h) rfl (tw_r0 h) ?_
    refine pw_getR (x := ((x + 1) + 1)) dX7_asset_17 fd_RX7_122 (by decide) (pl_k (tw_now h)) rfl (pl_rA (tw_now h)) ?_
    refine pw_iload_n dX7_asset_20 rfl rfl ?_
    refine pw_aaldN (j := i) (x := ((x + 1) + 5 + i)) dX7_asset_21 (pl_kA (tw_now h)) (by omega) (by decide) (by decide) (pl_eA (tw_now h) (by omega)) ?_
    refine pw_astore_n dX7_asset_22 rfl (by decide) rfl ?_
    refine pw_iload_n dX7_asset_23 rfl rfl ?_
    rcases sw_cases w 7 (by decide) with ⟨kw, hkw, rfl⟩ | hout
    · rcases (show kw = 0 ∨ kw = 1 ∨ kw = 2 ∨ kw = 3 ∨ kw = 4 ∨ kw = 5 ∨ kw = 6 ∨ kw = 7 by omega) with rfl | rfl | rfl | rfl | rfl | rfl | rfl | rfl
      · refine pw_tableIn (x := nI 0) (off := 48) (tgt := 72) dX7_asset_24 (by decide) (by decide) (by decide) (by decide) ?_
        refine pw_aload_n dX7_asset_72 rfl rfl ?_
        refine pw_getI dX7_asset_73 fd_RX7_151 (by decide) (pl_oA (tw_now h) (by omega)) rfl ?_
        refine pw_if_eq (tgt := 83) dX7_asset_76 (by decide) (fun c_76 => ?_) (fun c_76 => ?_)
        · refine pw_iconst (v := 0) dX7_asset_83 (by decide) ?_
          exact pw_iret dX7_asset_84 rfl ⟨by rw [assetV, if_pos (of_decide_eq_true c_8), nI_clamp (show i < 2 ^ 31 by omega), swV_in (Nat.le_of_ble_eq_true rfl) (Nat.le_of_ble_eq_true rfl)]; simp [c_76], rfl, rfl, rfl⟩
        · refine pw_iconst (v := 1) dX7_asset_79 (by decide) ?_
          refine pw_goto (tgt := 84) dX7_asset_80 (by decide) ?_
          exact pw_iret dX7_asset_84 rfl ⟨by rw [assetV, if_pos (of_decide_eq_true c_8), nI_clamp (show i < 2 ^ 31 by omega), swV_in (Nat.le_of_ble_eq_true rfl) (Nat.le_of_ble_eq_true rfl)]; simp [c_76], rfl, rfl, rfl⟩
      · refine pw_tableIn (x := nI 1) (off := 61) (tgt := 85) dX7_asset_24 (by decide) (by decide) (by decide) (by decide) ?_
        refine pw_aload_n dX7_asset_85 rfl rfl ?_
        refine pw_getR (x := (x + 1)) dX7_asset_86 fd_RX7_10 (by decide) (tw_k h) rfl (tw_r0 h) ?_
        refine pw_iload_n dX7_asset_89 rfl rfl ?_
        refine pe_callVi dX7_asset_90 oX_X5_tagsHanging lk_RX7_154 (sp_tagsHanging (tw_now h) hn hn4) (pl_k (tw_now h)) rfl rfl (Nat.le_of_ble_eq_true rfl) (by decide) ?_
        exact pw_iret dX7_asset_93 rfl ⟨by rw [assetV, if_pos (of_decide_eq_true c_8), nI_clamp (show i < 2 ^ 31 by omega), swV_in (Nat.le_of_ble_eq_true rfl) (Nat.le_of_ble_eq_true rfl)]; rfl, rfl, rfl, rfl⟩
      · refine pw_tableIn (x := nI 2) (off := 70) (tgt := 94) dX7_asset_24 (by decide) (by decide) (by decide) (by decide) ?_
        refine pw_aload_n dX7_asset_94 rfl rfl ?_
        refine pw_getR (x := (x + 1)) dX7_asset_95 fd_RX7_10 (by decide) (tw_k h) rfl (tw_r0 h) ?_
        refine pw_iload_n dX7_asset_98 rfl rfl ?_
        refine pw_iconst (v := 0) dX7_asset_99 (by decide) ?_
        refine pe_callVi dX7_asset_100 oX_X5_taskOfTag lk_RX7_157 (sp_taskOfTag (tw_now h) hn hn4) (pl_k (tw_now h)) rfl rfl (Nat.le_of_ble_eq_true rfl) (by decide) ?_
        exact pw_iret dX7_asset_103 rfl ⟨by rw [assetV, if_pos (of_decide_eq_true c_8), nI_clamp (show i < 2 ^ 31 by omega), swV_in (Nat.le_of_ble_eq_true rfl) (Nat.le_of_ble_eq_true rfl)]; rfl, rfl, rfl, rfl⟩
      · refine pw_tableIn (x := nI 3) (off := 80) (tgt := 104) dX7_asset_24 (by decide) (by decide) (by decide) (by decide) ?_
        refine pw_aload_n dX7_asset_104 rfl rfl ?_
        refine pw_getI dX7_asset_105 fd_RX7_160 (by decide) (pl_oA (tw_now h) (by omega)) rfl ?_
        exact pw_iret dX7_asset_108 rfl ⟨by rw [assetV, if_pos (of_decide_eq_true c_8), nI_clamp (show i < 2 ^ 31 by omega), swV_in (Nat.le_of_ble_eq_true rfl) (Nat.le_of_ble_eq_true rfl)]; rfl, rfl, rfl, rfl⟩
      · refine pw_tableIn (x := nI 4) (off := 85) (tgt := 109) dX7_asset_24 (by decide) (by decide) (by decide) (by decide) ?_
        refine pw_aload_n dX7_asset_109 rfl rfl ?_
        refine pw_getR (x := (x + 1)) dX7_asset_110 fd_RX7_10 (by decide) (tw_k h) rfl (tw_r0 h) ?_
        refine pw_iload_n dX7_asset_113 rfl rfl ?_
        refine pw_iconst (v := 0) dX7_asset_114 (by decide) ?_
        refine pw_iconst (v := 3) dX7_asset_115 (by decide) ?_
        refine pe_callVi dX7_asset_116 oX_X5_tasksOfAsset lk_RX7_163 (sp_tasksOfAsset (tw_now h) hn hn4) (pl_k (tw_now h)) rfl rfl (Nat.le_of_ble_eq_true rfl) (by decide) ?_
        exact pw_iret dX7_asset_119 rfl ⟨by rw [assetV, if_pos (of_decide_eq_true c_8), nI_clamp (show i < 2 ^ 31 by omega), swV_in (Nat.le_of_ble_eq_true rfl) (Nat.le_of_ble_eq_true rfl)]; rfl, rfl, rfl, rfl⟩
      · refine pw_tableIn (x := nI 5) (off := 96) (tgt := 120) dX7_asset_24 (by decide) (by decide) (by decide) (by decide) ?_
        refine pw_aload_n dX7_asset_120 rfl rfl ?_
        refine pw_getR (x := (x + 1)) dX7_asset_121 fd_RX7_10 (by decide) (tw_k h) rfl (tw_r0 h) ?_
        refine pw_iload_n dX7_asset_124 rfl rfl ?_
        refine pw_iconst (v := 4) dX7_asset_125 (by decide) ?_
        refine pw_iconst (v := 4) dX7_asset_126 (by decide) ?_
        refine pe_callVi dX7_asset_127 oX_X5_tasksOfAsset lk_RX7_163 (sp_tasksOfAsset (tw_now h) hn hn4) (pl_k (tw_now h)) rfl rfl (Nat.le_of_ble_eq_true rfl) (by decide) ?_
        exact pw_iret dX7_asset_130 rfl ⟨by rw [assetV, if_pos (of_decide_eq_true c_8), nI_clamp (show i < 2 ^ 31 by omega), swV_in (Nat.le_of_ble_eq_true rfl) (Nat.le_of_ble_eq_true rfl)]; rfl, rfl, rfl, rfl⟩
      · refine pw_tableIn (x := nI 6) (off := 107) (tgt := 131) dX7_asset_24 (by decide) (by decide) (by decide) (by decide) ?_
        refine pw_aload_n dX7_asset_131 rfl rfl ?_
        refine pw_getF dX7_asset_132 fd_RX7_126 (by decide) (pl_oA (tw_now h) (by omega)) rfl ?_
        refine pw_ldcf dX7_asset_135 kc_RX7_167 ?_
        refine pw_fmul dX7_asset_137 ?_
        refine pw_f2i dX7_asset_138 ?_
        exact pw_iret dX7_asset_139 rfl ⟨by rw [assetV, if_pos (of_decide_eq_true c_8), nI_clamp (show i < 2 ^ 31 by omega), swV_in (Nat.le_of_ble_eq_true rfl) (Nat.le_of_ble_eq_true rfl)]; rfl, rfl, rfl, rfl⟩
      · refine pw_tableIn (x := nI 7) (off := 116) (tgt := 140) dX7_asset_24 (by decide) (by decide) (by decide) (by decide) ?_
        refine pw_aload_n dX7_asset_140 rfl rfl ?_
        refine pw_getF dX7_asset_141 fd_RX7_132 (by decide) (pl_oA (tw_now h) (by omega)) rfl ?_
        refine pw_f2i dX7_asset_144 ?_
        exact pw_iret dX7_asset_145 rfl ⟨by rw [assetV, if_pos (of_decide_eq_true c_8), nI_clamp (show i < 2 ^ 31 by omega), swV_in (Nat.le_of_ble_eq_true rfl) (Nat.le_of_ble_eq_true rfl)]; rfl, rfl, rfl, rfl⟩
    · refine pw_tableOut (tgt := 146) dX7_asset_24 hout (by decide) ?_
      refine pw_bipush (v := (-2)) dX7_asset_146 (by decide) ?_
      exact pw_iret dX7_asset_148 rfl ⟨by rw [assetV, if_pos (of_decide_eq_true c_8), nI_clamp (show i < 2 ^ 31 by omega), swV_out hout (Nat.le_of_ble_eq_true rfl)], rfl, rfl, rfl⟩
  · refine pw_iconst (v := (-1)) dX7_asset_11 (by decide) ?_
    exact pw_iret dX7_asset_12 rfl ⟨by rw [assetV, if_neg (of_decide_eq_false c_8)], rfl, rfl, rfl⟩

set_option maxRecDepth 4000 in
theorem sp_x_tagAt {σ : pT} {I : pI} {F : pF} {x nA n : Nat} {a w : Int32} (h : isTW σ x) (hA : I (x + 1) 4 = nI nA) (hA8 : nA ≤ 8) (hn : I (x + 1) 6 = nI n) (hn4 : n ≤ 24)  : PE yX7_tagAt cX7_tagAt mX7_tagAt [.ref x, .int a, .int w] σ I F (some (.int (tagAtV I (x + 1) n a w))) I F := by
  refine PE.of oP_X7_tagAt (catOK rfl) (Nat.le_of_ble_eq_true rfl) ?_
  show PW _ _ _ 0 [.ref x, .int a, .int w] [] _ _ _ _
  refine pw_aload_n dX7_tagAt_0 rfl rfl ?_
  refine pw_getR (x := (x + 1)) dX7_tagAt_1 fd_RX7_10 (by decide) (tw_k h) rfl (tw_r0 h) ?_
  refine pw_iload_n dX7_tagAt_4 rfl rfl ?_
  refine pe_callVi dX7_tagAt_5 oX_X5_hasAsset lk_RX7_117 (sp_hasAsset (tw_now h)) (pl_k (tw_now h)) rfl rfl (Nat.le_of_ble_eq_true rfl) (by decide) ?_
  refine pw_ifB_ne (tgt := 13) dX7_tagAt_8 (by decide) (fun c_8 => ?_) (fun c_8 => ?_)
  · obtain ⟨i, hi, rfl⟩ := has_nat c_8 hA (by omega)
    refine pw_iload_n dX7_tagAt_13 rfl rfl ?_
    refine pw_if_ge (tgt := 20) dX7_tagAt_14 (by decide) (fun c_14 => ?_) (fun c_14 => ?_)
    · refine pw_aload_n dX7_tagAt_20 rfl rfl ?_
      refine pw_getR (x := (x + 1)) dX7_tagAt_21 fd_RX7_10 (by decide) (tw_k h) rfl (tw_r0 h) ?_
      refine pw_iload_n dX7_tagAt_24 rfl rfl ?_
      refine pw_iload_n dX7_tagAt_25 rfl rfl ?_
      refine pe_callVi dX7_tagAt_26 oX_X5_taskOfTag lk_RX7_157 (sp_taskOfTag (tw_now h) hn hn4) (pl_k (tw_now h)) rfl rfl (Nat.le_of_ble_eq_true rfl) (by decide) ?_
      exact pw_iret dX7_tagAt_29 rfl ⟨by rw [tagAtV, if_pos (of_decide_eq_true c_8), if_pos c_14], rfl, rfl, rfl⟩
    · refine pw_bipush (v := (-2)) dX7_tagAt_17 (by decide) ?_
      exact pw_iret dX7_tagAt_19 rfl ⟨by rw [tagAtV, if_pos (of_decide_eq_true c_8), if_neg c_14], rfl, rfl, rfl⟩
  · refine pw_iconst (v := (-1)) dX7_tagAt_11 (by decide) ?_
    exact pw_iret dX7_tagAt_12 rfl ⟨by rw [tagAtV, if_neg (of_decide_eq_false c_8)], rfl, rfl, rfl⟩

set_option maxRecDepth 4000 in
theorem sp_x_crew {σ : pT} {I : pI} {F : pF} {x nC n : Nat} {a w : Int32} (h : isTW σ x) (hC : I (x + 1) 5 = nI nC) (hC5 : nC ≤ 5) (hn : I (x + 1) 6 = nI n) (hn4 : n ≤ 24)  : PE yX7_crew cX7_crew mX7_crew [.ref x, .int a, .int w] σ I F (some (.int (crewV I (x + 1) n a w))) I F := by
  refine PE.of oP_X7_crew (catOK rfl) (Nat.le_of_ble_eq_true rfl) ?_
  show PW _ _ _ 0 [.ref x, .int a, .int w, pJ] [] _ _ _ _
  refine pw_aload_n dX7_crew_0 rfl rfl ?_
  refine pw_getR (x := (x + 1)) dX7_crew_1 fd_RX7_10 (by decide) (tw_k h) rfl (tw_r0 h) ?_
  refine pw_iload_n dX7_crew_4 rfl rfl ?_
  refine pe_callVi dX7_crew_5 oX_X5_hasCrew lk_RX7_168 (sp_hasCrew (tw_now h)) (pl_k (tw_now h)) rfl rfl (Nat.le_of_ble_eq_true rfl) (by decide) ?_
  refine pw_ifB_ne (tgt := 13) dX7_crew_8 (by decide) (fun c_8 => ?_) (fun c_8 => ?_)
  · obtain ⟨i, hi, rfl⟩ := has_nat c_8 hC (by omega)
    refine pw_aload_n dX7_crew_13 rfl rfl ?_
    refine pw_getR (x := (x + 1)) dX7_crew_14 fd_RX7_10 (by decide) (tw_k h) rfl (tw_r0 h) ?_
    refine pw_getR (x := ((x + 1) + 2)) dX7_crew_17 fd_RX7_171 (by decide) (pl_k (tw_now h)) rfl (pl_rC (tw_now h)) ?_
    refine pw_iload_n dX7_crew_20 rfl rfl ?_
    refine pw_aaldN (j := i) (x := ((x + 1) + 13 + i)) dX7_crew_21 (pl_kC (tw_now h)) (by omega) (by decide) (by decide) (pl_eC (tw_now h) (by omega)) ?_
    refine pw_astore_n dX7_crew_22 rfl (by decide) rfl ?_
    refine pw_iload_n dX7_crew_23 rfl rfl ?_
    rcases sw_cases w 4 (by decide) with ⟨kw, hkw, rfl⟩ | hout
    · rcases (show kw = 0 ∨ kw = 1 ∨ kw = 2 ∨ kw = 3 ∨ kw = 4 by omega) with rfl | rfl | rfl | rfl | rfl
      · refine pw_tableIn (x := nI 0) (off := 36) (tgt := 60) dX7_crew_24 (by decide) (by decide) (by decide) (by decide) ?_
        refine pw_aload_n dX7_crew_60 rfl rfl ?_
        refine pw_getI dX7_crew_61 fd_RX7_175 (by decide) (pl_oC (tw_now h) (by omega)) rfl ?_
        exact pw_iret dX7_crew_64 rfl ⟨by rw [crewV, if_pos (of_decide_eq_true c_8), nI_clamp (show i < 2 ^ 31 by omega), swV_in (Nat.le_of_ble_eq_true rfl) (Nat.le_of_ble_eq_true rfl)]; rfl, rfl, rfl, rfl⟩
      · refine pw_tableIn (x := nI 1) (off := 41) (tgt := 65) dX7_crew_24 (by decide) (by decide) (by decide) (by decide) ?_
        refine pw_aload_n dX7_crew_65 rfl rfl ?_
        refine pw_getI dX7_crew_66 fd_RX7_180 (by decide) (pl_oC (tw_now h) (by omega)) rfl ?_
        exact pw_iret dX7_crew_69 rfl ⟨by rw [crewV, if_pos (of_decide_eq_true c_8), nI_clamp (show i < 2 ^ 31 by omega), swV_in (Nat.le_of_ble_eq_true rfl) (Nat.le_of_ble_eq_true rfl)]; rfl, rfl, rfl, rfl⟩
      · refine pw_tableIn (x := nI 2) (off := 46) (tgt := 70) dX7_crew_24 (by decide) (by decide) (by decide) (by decide) ?_
        refine pw_aload_n dX7_crew_70 rfl rfl ?_
        refine pw_getR (x := (x + 1)) dX7_crew_71 fd_RX7_10 (by decide) (tw_k h) rfl (tw_r0 h) ?_
        refine pw_iload_n dX7_crew_74 rfl rfl ?_
        refine pe_callVi dX7_crew_75 oX_X5_busyPeople lk_RX7_183 (sp_busyC (tw_now h) hn hn4) (pl_k (tw_now h)) rfl rfl (Nat.le_of_ble_eq_true rfl) (by decide) ?_
        exact pw_iret dX7_crew_78 rfl ⟨by rw [crewV, if_pos (of_decide_eq_true c_8), nI_clamp (show i < 2 ^ 31 by omega), swV_in (Nat.le_of_ble_eq_true rfl) (Nat.le_of_ble_eq_true rfl)]; rfl, rfl, rfl, rfl⟩
      · refine pw_tableIn (x := nI 3) (off := 55) (tgt := 79) dX7_crew_24 (by decide) (by decide) (by decide) (by decide) ?_
        refine pw_aload_n dX7_crew_79 rfl rfl ?_
        refine pw_getR (x := (x + 1)) dX7_crew_80 fd_RX7_10 (by decide) (tw_k h) rfl (tw_r0 h) ?_
        refine pw_iload_n dX7_crew_83 rfl rfl ?_
        refine pw_iconst (v := 1) dX7_crew_84 (by decide) ?_
        refine pw_iconst (v := 3) dX7_crew_85 (by decide) ?_
        refine pe_callVi dX7_crew_86 oX_X5_tasksOfCrew lk_RX7_186 (sp_tasksOfCrew (tw_now h) hn hn4) (pl_k (tw_now h)) rfl rfl (Nat.le_of_ble_eq_true rfl) (by decide) ?_
        exact pw_iret dX7_crew_89 rfl ⟨by rw [crewV, if_pos (of_decide_eq_true c_8), nI_clamp (show i < 2 ^ 31 by omega), swV_in (Nat.le_of_ble_eq_true rfl) (Nat.le_of_ble_eq_true rfl)]; rfl, rfl, rfl, rfl⟩
      · refine pw_tableIn (x := nI 4) (off := 66) (tgt := 90) dX7_crew_24 (by decide) (by decide) (by decide) (by decide) ?_
        refine pw_aload_n dX7_crew_90 rfl rfl ?_
        refine pw_getR (x := (x + 1)) dX7_crew_91 fd_RX7_10 (by decide) (tw_k h) rfl (tw_r0 h) ?_
        refine pw_iload_n dX7_crew_94 rfl rfl ?_
        refine pw_iconst (v := 4) dX7_crew_95 (by decide) ?_
        refine pw_iconst (v := 4) dX7_crew_96 (by decide) ?_
        refine pe_callVi dX7_crew_97 oX_X5_tasksOfCrew lk_RX7_186 (sp_tasksOfCrew (tw_now h) hn hn4) (pl_k (tw_now h)) rfl rfl (Nat.le_of_ble_eq_true rfl) (by decide) ?_
        exact pw_iret dX7_crew_100 rfl ⟨by rw [crewV, if_pos (of_decide_eq_true c_8), nI_clamp (show i < 2 ^ 31 by omega), swV_in (Nat.le_of_ble_eq_true rfl) (Nat.le_of_ble_eq_true rfl)]; rfl, rfl, rfl, rfl⟩
    · refine pw_tableOut (tgt := 101) dX7_crew_24 hout (by decide) ?_
      refine pw_bipush (v := (-2)) dX7_crew_101 (by decide) ?_
      exact pw_iret dX7_crew_103 rfl ⟨by rw [crewV, if_pos (of_decide_eq_true c_8), nI_clamp (show i < 2 ^ 31 by omega), swV_out hout (Nat.le_of_ble_eq_true rfl)], rfl, rfl, rfl⟩
  · refine pw_iconst (v := (-1)) dX7_crew_11 (by decide) ?_
    exact pw_iret dX7_crew_12 rfl ⟨by rw [crewV, if_neg (of_decide_eq_false c_8)], rfl, rfl, rfl⟩

set_option maxRecDepth 4000 in
theorem sp_x_task {σ : pT} {I : pI} {F : pF} {x nA n : Nat} {a w : Int32} (h : isTW σ x) (hA : I (x + 1) 4 = nI nA) (hA8 : nA ≤ 8) (hn : I (x + 1) 6 = nI n) (hn4 : n ≤ 24) (hW : ∀ t, t < n → ∃ a, a < nA ∧ I (x + 1 + 18 + t) 0 = nI a) (hKd : ∀ t, t < n → ∃ k, k < 5 ∧ I (x + 1 + 18 + t) 3 = nI k)  : PE yX7_task cX7_task mX7_task [.ref x, .int a, .int w] σ I F (some (.int (taskV I (x + 1) n a w))) I F := by
  refine PE.of oP_X7_task (catOK rfl) (Nat.le_of_ble_eq_true rfl) ?_
  show PW _ _ _ 0 [.ref x, .int a, .int w, pJ] [] _ _ _ _
  refine pw_aload_n dX7_task_0 rfl rfl ?_
  refine pw_getR (x := (x + 1)) dX7_task_1 fd_RX7_10 (by decide) (tw_k h) rfl (tw_r0 h) ?_
  refine pw_iload_n dX7_task_4 rfl rfl ?_
  refine pe_callVi dX7_task_5 oX_X5_hasTask lk_RX7_189 (sp_hasTask (tw_now h)) (pl_k (tw_now h)) rfl rfl (Nat.le_of_ble_eq_true rfl) (by decide) ?_
  refine pw_ifB_ne (tgt := 13) dX7_task_8 (by decide) (fun c_8 => ?_) (fun c_8 => ?_)
  · obtain ⟨i, hi, rfl⟩ := has_nat c_8 hn (by omega)
    obtain ⟨at_, haA, hat⟩ := hW i hi
    obtain ⟨kt, hk5, hkd⟩ := hKd i hi
    refine pw_aload_n dX7_task_13 rfl rfl ?_
    refine pw_getR (x := (x + 1)) dX7_task_14 fd_RX7_10 (by decide) (tw_k h) rfl (tw_r0 h) ?_
    refine pw_getR (x := ((x + 1) + 3)) dX7_task_17 fd_RX7_192 (by decide) (pl_k (tw_now h)) rfl (pl_rT (tw_now h)) ?_
    refine pw_iload_n dX7_task_20 rfl rfl ?_
    refine pw_aaldN (j := i) (x := ((x + 1) + 18 + i)) dX7_task_21 (pl_kT (tw_now h)) (by omega) (by decide) (by decide) (pl_eT (tw_now h) (by omega)) ?_
    refine pw_astore_n dX7_task_22 rfl (by decide) rfl ?_
    refine pw_iload_n dX7_task_23 rfl rfl ?_
    rcases sw_cases w 12 (by decide) with ⟨kw, hkw, rfl⟩ | hout
    · rcases (show kw = 0 ∨ kw = 1 ∨ kw = 2 ∨ kw = 3 ∨ kw = 4 ∨ kw = 5 ∨ kw = 6 ∨ kw = 7 ∨ kw = 8 ∨ kw = 9 ∨ kw = 10 ∨ kw = 11 ∨ kw = 12 by omega) with rfl | rfl | rfl | rfl | rfl | rfl | rfl | rfl | rfl | rfl | rfl | rfl | rfl
      · refine pw_tableIn (x := nI 0) (off := 68) (tgt := 92) dX7_task_24 (by decide) (by decide) (by decide) (by decide) ?_
        refine pw_aload_n dX7_task_92 rfl rfl ?_
        refine pw_getI dX7_task_93 fd_RX7_196 (by decide) (pl_oT (tw_now h) (by omega)) rfl ?_
        exact pw_iret dX7_task_96 rfl ⟨by rw [taskV, if_pos (of_decide_eq_true c_8), nI_clamp (show i < 2 ^ 31 by omega), swV_in (Nat.le_of_ble_eq_true rfl) (Nat.le_of_ble_eq_true rfl)]; rfl, rfl, rfl, rfl⟩
      · refine pw_tableIn (x := nI 1) (off := 73) (tgt := 97) dX7_task_24 (by decide) (by decide) (by decide) (by decide) ?_
        refine pw_aload_n dX7_task_97 rfl rfl ?_
        refine pw_getI dX7_task_98 fd_RX7_201 (by decide) (pl_oT (tw_now h) (by omega)) rfl ?_
        exact pw_iret dX7_task_101 rfl ⟨by rw [taskV, if_pos (of_decide_eq_true c_8), nI_clamp (show i < 2 ^ 31 by omega), swV_in (Nat.le_of_ble_eq_true rfl) (Nat.le_of_ble_eq_true rfl)]; rfl, rfl, rfl, rfl⟩
      · refine pw_tableIn (x := nI 2) (off := 78) (tgt := 102) dX7_task_24 (by decide) (by decide) (by decide) (by decide) ?_
        refine pw_aload_n dX7_task_102 rfl rfl ?_
        refine pw_getI dX7_task_103 fd_RX7_204 (by decide) (pl_oT (tw_now h) (by omega)) rfl ?_
        exact pw_iret dX7_task_106 rfl ⟨by rw [taskV, if_pos (of_decide_eq_true c_8), nI_clamp (show i < 2 ^ 31 by omega), swV_in (Nat.le_of_ble_eq_true rfl) (Nat.le_of_ble_eq_true rfl)]; rfl, rfl, rfl, rfl⟩
      · refine pw_tableIn (x := nI 3) (off := 83) (tgt := 107) dX7_task_24 (by decide) (by decide) (by decide) (by decide) ?_
        refine pw_aload_n dX7_task_107 rfl rfl ?_
        refine pw_getI dX7_task_108 fd_RX7_207 (by decide) (pl_oT (tw_now h) (by omega)) rfl ?_
        exact pw_iret dX7_task_111 rfl ⟨by rw [taskV, if_pos (of_decide_eq_true c_8), nI_clamp (show i < 2 ^ 31 by omega), swV_in (Nat.le_of_ble_eq_true rfl) (Nat.le_of_ble_eq_true rfl)]; rfl, rfl, rfl, rfl⟩
      · refine pw_tableIn (x := nI 4) (off := 88) (tgt := 112) dX7_task_24 (by decide) (by decide) (by decide) (by decide) ?_
        refine pw_aload_n dX7_task_112 rfl rfl ?_
        refine pw_getI dX7_task_113 fd_RX7_208 (by decide) (pl_oT (tw_now h) (by omega)) rfl ?_
        exact pw_iret dX7_task_116 rfl ⟨by rw [taskV, if_pos (of_decide_eq_true c_8), nI_clamp (show i < 2 ^ 31 by omega), swV_in (Nat.le_of_ble_eq_true rfl) (Nat.le_of_ble_eq_true rfl)]; rfl, rfl, rfl, rfl⟩
      · refine pw_tableIn (x := nI 5) (off := 93) (tgt := 117) dX7_task_24 (by decide) (by decide) (by decide) (by decide) ?_
        refine pw_aload_n dX7_task_117 rfl rfl ?_
        refine pw_getI dX7_task_118 fd_RX7_211 (by decide) (pl_oT (tw_now h) (by omega)) rfl ?_
        exact pw_iret dX7_task_121 rfl ⟨by rw [taskV, if_pos (of_decide_eq_true c_8), nI_clamp (show i < 2 ^ 31 by omega), swV_in (Nat.le_of_ble_eq_true rfl) (Nat.le_of_ble_eq_true rfl)]; rfl, rfl, rfl, rfl⟩
      · refine pw_tableIn (x := nI 6) (off := 98) (tgt := 122) dX7_task_24 (by decide) (by decide) (by decide) (by decide) ?_
        refine pw_aload_n dX7_task_122 rfl rfl ?_
        refine pw_getI dX7_task_123 fd_RX7_214 (by decide) (pl_oT (tw_now h) (by omega)) rfl ?_
        exact pw_iret dX7_task_126 rfl ⟨by rw [taskV, if_pos (of_decide_eq_true c_8), nI_clamp (show i < 2 ^ 31 by omega), swV_in (Nat.le_of_ble_eq_true rfl) (Nat.le_of_ble_eq_true rfl)]; rfl, rfl, rfl, rfl⟩
      · refine pw_tableIn (x := nI 7) (off := 103) (tgt := 127) dX7_task_24 (by decide) (by decide) (by decide) (by decide) ?_
        refine pw_aload_n dX7_task_127 rfl rfl ?_
        refine pw_getI dX7_task_128 fd_RX7_217 (by decide) (pl_oT (tw_now h) (by omega)) rfl ?_
        exact pw_iret dX7_task_131 rfl ⟨by rw [taskV, if_pos (of_decide_eq_true c_8), nI_clamp (show i < 2 ^ 31 by omega), swV_in (Nat.le_of_ble_eq_true rfl) (Nat.le_of_ble_eq_true rfl)]; rfl, rfl, rfl, rfl⟩
      · refine pw_tableIn (x := nI 8) (off := 108) (tgt := 132) dX7_task_24 (by decide) (by decide) (by decide) (by decide) ?_
        refine pw_aload_n dX7_task_132 rfl rfl ?_
        refine pw_getI dX7_task_133 fd_RX7_220 (by decide) (pl_oT (tw_now h) (by omega)) rfl ?_
        exact pw_iret dX7_task_136 rfl ⟨by rw [taskV, if_pos (of_decide_eq_true c_8), nI_clamp (show i < 2 ^ 31 by omega), swV_in (Nat.le_of_ble_eq_true rfl) (Nat.le_of_ble_eq_true rfl)]; rfl, rfl, rfl, rfl⟩
      · refine pw_tableIn (x := nI 9) (off := 113) (tgt := 137) dX7_task_24 (by decide) (by decide) (by decide) (by decide) ?_
        refine pw_aload_n dX7_task_137 rfl rfl ?_
        refine pw_getI dX7_task_138 fd_RX7_201 (by decide) (pl_oT (tw_now h) (by omega)) rfl ?_
        refine pw_iconst (v := 2) dX7_task_141 (by decide) ?_
        refine pw_icmp_ne (tgt := 152) dX7_task_142 (by decide) (fun c_142 => ?_) (fun c_142 => ?_)
        · refine pw_bipush (v := (-5)) dX7_task_152 (by decide) ?_
          exact pw_iret dX7_task_154 rfl ⟨by rw [taskV, if_pos (of_decide_eq_true c_8), nI_clamp (show i < 2 ^ 31 by omega), swV_in (Nat.le_of_ble_eq_true rfl) (Nat.le_of_ble_eq_true rfl)]; simp [c_142], rfl, rfl, rfl⟩
        · refine pw_aload_n dX7_task_145 rfl rfl ?_
          refine pw_getI dX7_task_146 fd_RX7_223 (by decide) (pl_oT (tw_now h) (by omega)) rfl ?_
          refine pw_goto (tgt := 154) dX7_task_149 (by decide) ?_
          exact pw_iret dX7_task_154 rfl ⟨by rw [taskV, if_pos (of_decide_eq_true c_8), nI_clamp (show i < 2 ^ 31 by omega), swV_in (Nat.le_of_ble_eq_true rfl) (Nat.le_of_ble_eq_true rfl)]; simp [c_142], rfl, rfl, rfl⟩
      · refine pw_tableIn (x := nI 10) (off := 131) (tgt := 155) dX7_task_24 (by decide) (by decide) (by decide) (by decide) ?_
        refine pw_aload_n dX7_task_155 rfl rfl ?_
        refine pw_getI dX7_task_156 fd_RX7_226 (by decide) (pl_oT (tw_now h) (by omega)) rfl ?_
        exact pw_iret dX7_task_159 rfl ⟨by rw [taskV, if_pos (of_decide_eq_true c_8), nI_clamp (show i < 2 ^ 31 by omega), swV_in (Nat.le_of_ble_eq_true rfl) (Nat.le_of_ble_eq_true rfl)]; rfl, rfl, rfl, rfl⟩
      · refine pw_tableIn (x := nI 11) (off := 136) (tgt := 160) dX7_task_24 (by decide) (by decide) (by decide) (by decide) ?_
        refine pw_aload_n dX7_task_160 rfl rfl ?_
        refine pw_getR (x := (x + 1)) dX7_task_161 fd_RX7_10 (by decide) (tw_k h) rfl (tw_r0 h) ?_
        refine pw_iload_n dX7_task_164 rfl rfl ?_
        refine pe_callVi dX7_task_165 oX_X5_reasonAgainst lk_RX7_229 (sp_reasonAgainst (tw_now h) hn hn4 hA hA8 hkd hk5 hat haA hi) (pl_k (tw_now h)) rfl rfl (Nat.le_of_ble_eq_true rfl) (by decide) ?_
        exact pw_iret dX7_task_168 rfl ⟨by rw [taskV, if_pos (of_decide_eq_true c_8), nI_clamp (show i < 2 ^ 31 by omega), swV_in (Nat.le_of_ble_eq_true rfl) (Nat.le_of_ble_eq_true rfl)]; rw [hkd, hat, nI_clamp (show kt < 2 ^ 31 by omega), nI_clamp (show at_ < 2 ^ 31 by omega)]; rfl, rfl, rfl, rfl⟩
      · refine pw_tableIn (x := nI 12) (off := 145) (tgt := 169) dX7_task_24 (by decide) (by decide) (by decide) (by decide) ?_
        refine pw_aload_n dX7_task_169 rfl rfl ?_
        refine pw_getR (x := (x + 1)) dX7_task_170 fd_RX7_10 (by decide) (tw_k h) rfl (tw_r0 h) ?_
        refine pw_iload_n dX7_task_173 rfl rfl ?_
        refine pe_callVi dX7_task_174 oX_X5_barrierOf lk_RX7_232 (sp_barrierOf (tw_now h) hn hn4 hA hA8 hkd hk5 hat haA hi) (pl_k (tw_now h)) rfl rfl (Nat.le_of_ble_eq_true rfl) (by decide) ?_
        exact pw_iret dX7_task_177 rfl ⟨by rw [taskV, if_pos (of_decide_eq_true c_8), nI_clamp (show i < 2 ^ 31 by omega), swV_in (Nat.le_of_ble_eq_true rfl) (Nat.le_of_ble_eq_true rfl)]; rw [hkd, hat, nI_clamp (show kt < 2 ^ 31 by omega), nI_clamp (show at_ < 2 ^ 31 by omega)]; rfl, rfl, rfl, rfl⟩
    · refine pw_tableOut (tgt := 178) dX7_task_24 hout (by decide) ?_
      refine pw_bipush (v := (-2)) dX7_task_178 (by decide) ?_
      exact pw_iret dX7_task_180 rfl ⟨by rw [taskV, if_pos (of_decide_eq_true c_8), nI_clamp (show i < 2 ^ 31 by omega), swV_out hout (Nat.le_of_ble_eq_true rfl)], rfl, rfl, rfl⟩
  · refine pw_iconst (v := (-1)) dX7_task_11 (by decide) ?_
    exact pw_iret dX7_task_12 rfl ⟨by rw [taskV, if_neg (of_decide_eq_false c_8)], rfl, rfl, rfl⟩

set_option maxRecDepth 4000 in
theorem sp_x_crewFor {σ : pT} {I : pI} {F : pF} {x nC n : Nat} {a : Int32} (h : isTW σ x) (hC : I (x + 1) 5 = nI nC) (hC5 : nC ≤ 5) (hn : I (x + 1) 6 = nI n) (hn4 : n ≤ 24)  : PE yX7_crewFor cX7_crewFor mX7_crewFor [.ref x, .int a] σ I F (some (.int (crewForV I (x + 1) nC n a))) I F := by
  refine PE.of oP_X7_crewFor (catOK rfl) (Nat.le_of_ble_eq_true rfl) ?_
  show PW _ _ _ 0 [.ref x, .int a] [] _ _ _ _
  refine pw_aload_n dX7_crewFor_0 rfl rfl ?_
  refine pw_getR (x := (x + 1)) dX7_crewFor_1 fd_RX7_10 (by decide) (tw_k h) rfl (tw_r0 h) ?_
  refine pw_iload_n dX7_crewFor_4 rfl rfl ?_
  refine pe_callVi dX7_crewFor_5 oX_X5_hasTask lk_RX7_189 (sp_hasTask (tw_now h)) (pl_k (tw_now h)) rfl rfl (Nat.le_of_ble_eq_true rfl) (by decide) ?_
  refine pw_ifB_ne (tgt := 13) dX7_crewFor_8 (by decide) (fun c_8 => ?_) (fun c_8 => ?_)
  · obtain ⟨i, hi, rfl⟩ := has_nat c_8 hn (by omega)
    refine pw_aload_n dX7_crewFor_13 rfl rfl ?_
    refine pw_getR (x := (x + 1)) dX7_crewFor_14 fd_RX7_10 (by decide) (tw_k h) rfl (tw_r0 h) ?_
    refine pw_iload_n dX7_crewFor_17 rfl rfl ?_
    refine pe_callVi dX7_crewFor_18 oX_X5_firstCrewFor lk_RX7_235 (sp_firstCrewFor (tw_now h) hn hn4 hC hC5 hi) (pl_k (tw_now h)) rfl rfl (Nat.le_of_ble_eq_true rfl) (by decide) ?_
    exact pw_iret dX7_crewFor_21 rfl ⟨by rw [crewForV, if_pos (of_decide_eq_true c_8), nI_clamp (show i < 2 ^ 31 by omega)], rfl, rfl, rfl⟩
  · refine pw_iconst (v := (-1)) dX7_crewFor_11 (by decide) ?_
    exact pw_iret dX7_crewFor_12 rfl ⟨by rw [crewForV, if_neg (of_decide_eq_false c_8)], rfl, rfl, rfl⟩

theorem cnt_no {w : Int32} (h : w.toInt < 0 ∨ (16 : Nat) < w.toInt) (h2 : 5 ≤ w ∧ w ≤ 11) : False := by
  obtain ⟨h3, h4⟩ := h2
  rw [Int32.le_iff_toInt_le] at h3 h4
  have h5 : (5 : Int32).toInt = 5 := by decide
  have h6 : (11 : Int32).toInt = 11 := by decide
  rw [h5] at h3
  rw [h6] at h4
  omega

set_option maxRecDepth 4000 in
theorem sp_x_count {σ : pT} {I : pI} {F : pF} {x nA n : Nat} {w : Int32} (h : isTW σ x) (hA : I (x + 1) 4 = nI nA) (hA8 : nA ≤ 8) (hn : I (x + 1) 6 = nI n) (hn4 : n ≤ 24)  : PE yX7_count cX7_count mX7_count [.ref x, .int w] σ I F (some (.int (countV I x nA n w))) I F := by
  refine PE.of oP_X7_count (catOK rfl) (Nat.le_of_ble_eq_true rfl) ?_
  show PW _ _ _ 0 [.ref x, .int w] [] _ _ _ _
  refine pw_iload_n dX7_count_0 rfl rfl ?_
  rcases sw_cases w 16 (by decide) with ⟨kw, hkw, rfl⟩ | hout
  · rcases (show kw = 0 ∨ kw = 1 ∨ kw = 2 ∨ kw = 3 ∨ kw = 4 ∨ kw = 5 ∨ kw = 6 ∨ kw = 7 ∨ kw = 8 ∨ kw = 9 ∨ kw = 10 ∨ kw = 11 ∨ kw = 12 ∨ kw = 13 ∨ kw = 14 ∨ kw = 15 ∨ kw = 16 by omega) with rfl | rfl | rfl | rfl | rfl | rfl | rfl | rfl | rfl | rfl | rfl | rfl | rfl | rfl | rfl | rfl | rfl
    · refine pw_tableIn (x := nI 0) (off := 83) (tgt := 84) dX7_count_1 (by decide) (by decide) (by decide) (by decide) ?_
      refine pw_aload_n dX7_count_84 rfl rfl ?_
      refine pw_getR (x := (x + 1)) dX7_count_85 fd_RX7_10 (by decide) (tw_k h) rfl (tw_r0 h) ?_
      refine pw_getI dX7_count_88 fd_RX7_114 (by decide) (pl_k (tw_now h)) rfl ?_
      exact pw_iret dX7_count_91 rfl ⟨by rw [countV, swV_in (Nat.le_of_ble_eq_true rfl) (Nat.le_of_ble_eq_true rfl)]; rfl, rfl, rfl, rfl⟩
    · refine pw_tableIn (x := nI 1) (off := 91) (tgt := 92) dX7_count_1 (by decide) (by decide) (by decide) (by decide) ?_
      refine pw_aload_n dX7_count_92 rfl rfl ?_
      refine pw_getR (x := (x + 1)) dX7_count_93 fd_RX7_10 (by decide) (tw_k h) rfl (tw_r0 h) ?_
      refine pw_getI dX7_count_96 fd_RX7_238 (by decide) (pl_k (tw_now h)) rfl ?_
      exact pw_iret dX7_count_99 rfl ⟨by rw [countV, swV_in (Nat.le_of_ble_eq_true rfl) (Nat.le_of_ble_eq_true rfl)]; rfl, rfl, rfl, rfl⟩
    · refine pw_tableIn (x := nI 2) (off := 99) (tgt := 100) dX7_count_1 (by decide) (by decide) (by decide) (by decide) ?_
      refine pw_aload_n dX7_count_100 rfl rfl ?_
      refine pw_getR (x := (x + 1)) dX7_count_101 fd_RX7_10 (by decide) (tw_k h) rfl (tw_r0 h) ?_
      refine pe_callVi dX7_count_104 oX_X5_assetsRunning lk_RX7_241 (sp_assetsRunning (tw_now h) hA hA8) (pl_k (tw_now h)) rfl rfl (Nat.le_of_ble_eq_true rfl) (by decide) ?_
      exact pw_iret dX7_count_107 rfl ⟨by rw [countV, swV_in (Nat.le_of_ble_eq_true rfl) (Nat.le_of_ble_eq_true rfl)]; rfl, rfl, rfl, rfl⟩
    · refine pw_tableIn (x := nI 3) (off := 107) (tgt := 108) dX7_count_1 (by decide) (by decide) (by decide) (by decide) ?_
      refine pw_aload_n dX7_count_108 rfl rfl ?_
      refine pw_getR (x := (x + 1)) dX7_count_109 fd_RX7_10 (by decide) (tw_k h) rfl (tw_r0 h) ?_
      refine pw_getI dX7_count_112 fd_RX7_244 (by decide) (pl_k (tw_now h)) rfl ?_
      exact pw_iret dX7_count_115 rfl ⟨by rw [countV, swV_in (Nat.le_of_ble_eq_true rfl) (Nat.le_of_ble_eq_true rfl)]; rfl, rfl, rfl, rfl⟩
    · refine pw_tableIn (x := nI 4) (off := 115) (tgt := 116) dX7_count_1 (by decide) (by decide) (by decide) (by decide) ?_
      refine pw_aload_n dX7_count_116 rfl rfl ?_
      refine pw_getR (x := (x + 1)) dX7_count_117 fd_RX7_10 (by decide) (tw_k h) rfl (tw_r0 h) ?_
      refine pw_getI dX7_count_120 fd_RX7_247 (by decide) (pl_k (tw_now h)) rfl ?_
      exact pw_iret dX7_count_123 rfl ⟨by rw [countV, swV_in (Nat.le_of_ble_eq_true rfl) (Nat.le_of_ble_eq_true rfl)]; rfl, rfl, rfl, rfl⟩
    · refine pw_tableIn (x := nI 5) (off := 165) (tgt := 166) dX7_count_1 (by decide) (by decide) (by decide) (by decide) ?_
      refine pw_iload_n dX7_count_166 rfl rfl ?_
      refine pw_iconst (v := 5) dX7_count_167 (by decide) ?_
      refine pw_bipush (v := 11) dX7_count_168 (by decide) ?_
      refine pe_callSi dX7_count_170 oX_X7_within lk_RX7_138 sp_within rfl rfl (Nat.le_of_ble_eq_true rfl) (by decide) ?_
      refine pw_ifB_eq (tgt := 190) dX7_count_173 (by decide) (fun c_173 => ?_) (fun c_173 => ?_)
      · refine pw_bipush (v := (-2)) dX7_count_190 (by decide) ?_
        exact pw_iret dX7_count_192 rfl ⟨absurd c_173 (by decide), rfl, rfl, rfl⟩
      · refine pw_aload_n dX7_count_176 rfl rfl ?_
        refine pw_getR (x := (x + 1)) dX7_count_177 fd_RX7_10 (by decide) (tw_k h) rfl (tw_r0 h) ?_
        refine pw_iload_n dX7_count_180 rfl rfl ?_
        refine pw_iconst (v := 5) dX7_count_181 (by decide) ?_
        refine pw_isub dX7_count_182 ?_
        refine pw_iload_n dX7_count_183 rfl rfl ?_
        refine pw_iconst (v := 5) dX7_count_184 (by decide) ?_
        refine pw_isub dX7_count_185 ?_
        refine pe_callVi dX7_count_186 oX_X5_tasksIn lk_RX7_250 (sp_tasksIn (tw_now h) hn hn4) (pl_k (tw_now h)) rfl rfl (Nat.le_of_ble_eq_true rfl) (by decide) ?_
        exact pw_iret dX7_count_189 rfl ⟨by rw [countV, swV_in (Nat.le_of_ble_eq_true rfl) (Nat.le_of_ble_eq_true rfl)]; rfl, rfl, rfl, rfl⟩
    · refine pw_tableIn (x := nI 6) (off := 165) (tgt := 166) dX7_count_1 (by decide) (by decide) (by decide) (by decide) ?_
      refine pw_iload_n dX7_count_166 rfl rfl ?_
      refine pw_iconst (v := 5) dX7_count_167 (by decide) ?_
      refine pw_bipush (v := 11) dX7_count_168 (by decide) ?_
      refine pe_callSi dX7_count_170 oX_X7_within lk_RX7_138 sp_within rfl rfl (Nat.le_of_ble_eq_true rfl) (by decide) ?_
      refine pw_ifB_eq (tgt := 190) dX7_count_173 (by decide) (fun c_173 => ?_) (fun c_173 => ?_)
      · refine pw_bipush (v := (-2)) dX7_count_190 (by decide) ?_
        exact pw_iret dX7_count_192 rfl ⟨absurd c_173 (by decide), rfl, rfl, rfl⟩
      · refine pw_aload_n dX7_count_176 rfl rfl ?_
        refine pw_getR (x := (x + 1)) dX7_count_177 fd_RX7_10 (by decide) (tw_k h) rfl (tw_r0 h) ?_
        refine pw_iload_n dX7_count_180 rfl rfl ?_
        refine pw_iconst (v := 5) dX7_count_181 (by decide) ?_
        refine pw_isub dX7_count_182 ?_
        refine pw_iload_n dX7_count_183 rfl rfl ?_
        refine pw_iconst (v := 5) dX7_count_184 (by decide) ?_
        refine pw_isub dX7_count_185 ?_
        refine pe_callVi dX7_count_186 oX_X5_tasksIn lk_RX7_250 (sp_tasksIn (tw_now h) hn hn4) (pl_k (tw_now h)) rfl rfl (Nat.le_of_ble_eq_true rfl) (by decide) ?_
        exact pw_iret dX7_count_189 rfl ⟨by rw [countV, swV_in (Nat.le_of_ble_eq_true rfl) (Nat.le_of_ble_eq_true rfl)]; rfl, rfl, rfl, rfl⟩
    · refine pw_tableIn (x := nI 7) (off := 165) (tgt := 166) dX7_count_1 (by decide) (by decide) (by decide) (by decide) ?_
      refine pw_iload_n dX7_count_166 rfl rfl ?_
      refine pw_iconst (v := 5) dX7_count_167 (by decide) ?_
      refine pw_bipush (v := 11) dX7_count_168 (by decide) ?_
      refine pe_callSi dX7_count_170 oX_X7_within lk_RX7_138 sp_within rfl rfl (Nat.le_of_ble_eq_true rfl) (by decide) ?_
      refine pw_ifB_eq (tgt := 190) dX7_count_173 (by decide) (fun c_173 => ?_) (fun c_173 => ?_)
      · refine pw_bipush (v := (-2)) dX7_count_190 (by decide) ?_
        exact pw_iret dX7_count_192 rfl ⟨absurd c_173 (by decide), rfl, rfl, rfl⟩
      · refine pw_aload_n dX7_count_176 rfl rfl ?_
        refine pw_getR (x := (x + 1)) dX7_count_177 fd_RX7_10 (by decide) (tw_k h) rfl (tw_r0 h) ?_
        refine pw_iload_n dX7_count_180 rfl rfl ?_
        refine pw_iconst (v := 5) dX7_count_181 (by decide) ?_
        refine pw_isub dX7_count_182 ?_
        refine pw_iload_n dX7_count_183 rfl rfl ?_
        refine pw_iconst (v := 5) dX7_count_184 (by decide) ?_
        refine pw_isub dX7_count_185 ?_
        refine pe_callVi dX7_count_186 oX_X5_tasksIn lk_RX7_250 (sp_tasksIn (tw_now h) hn hn4) (pl_k (tw_now h)) rfl rfl (Nat.le_of_ble_eq_true rfl) (by decide) ?_
        exact pw_iret dX7_count_189 rfl ⟨by rw [countV, swV_in (Nat.le_of_ble_eq_true rfl) (Nat.le_of_ble_eq_true rfl)]; rfl, rfl, rfl, rfl⟩
    · refine pw_tableIn (x := nI 8) (off := 165) (tgt := 166) dX7_count_1 (by decide) (by decide) (by decide) (by decide) ?_
      refine pw_iload_n dX7_count_166 rfl rfl ?_
      refine pw_iconst (v := 5) dX7_count_167 (by decide) ?_
      refine pw_bipush (v := 11) dX7_count_168 (by decide) ?_
      refine pe_callSi dX7_count_170 oX_X7_within lk_RX7_138 sp_within rfl rfl (Nat.le_of_ble_eq_true rfl) (by decide) ?_
      refine pw_ifB_eq (tgt := 190) dX7_count_173 (by decide) (fun c_173 => ?_) (fun c_173 => ?_)
      · refine pw_bipush (v := (-2)) dX7_count_190 (by decide) ?_
        exact pw_iret dX7_count_192 rfl ⟨absurd c_173 (by decide), rfl, rfl, rfl⟩
      · refine pw_aload_n dX7_count_176 rfl rfl ?_
        refine pw_getR (x := (x + 1)) dX7_count_177 fd_RX7_10 (by decide) (tw_k h) rfl (tw_r0 h) ?_
        refine pw_iload_n dX7_count_180 rfl rfl ?_
        refine pw_iconst (v := 5) dX7_count_181 (by decide) ?_
        refine pw_isub dX7_count_182 ?_
        refine pw_iload_n dX7_count_183 rfl rfl ?_
        refine pw_iconst (v := 5) dX7_count_184 (by decide) ?_
        refine pw_isub dX7_count_185 ?_
        refine pe_callVi dX7_count_186 oX_X5_tasksIn lk_RX7_250 (sp_tasksIn (tw_now h) hn hn4) (pl_k (tw_now h)) rfl rfl (Nat.le_of_ble_eq_true rfl) (by decide) ?_
        exact pw_iret dX7_count_189 rfl ⟨by rw [countV, swV_in (Nat.le_of_ble_eq_true rfl) (Nat.le_of_ble_eq_true rfl)]; rfl, rfl, rfl, rfl⟩
    · refine pw_tableIn (x := nI 9) (off := 165) (tgt := 166) dX7_count_1 (by decide) (by decide) (by decide) (by decide) ?_
      refine pw_iload_n dX7_count_166 rfl rfl ?_
      refine pw_iconst (v := 5) dX7_count_167 (by decide) ?_
      refine pw_bipush (v := 11) dX7_count_168 (by decide) ?_
      refine pe_callSi dX7_count_170 oX_X7_within lk_RX7_138 sp_within rfl rfl (Nat.le_of_ble_eq_true rfl) (by decide) ?_
      refine pw_ifB_eq (tgt := 190) dX7_count_173 (by decide) (fun c_173 => ?_) (fun c_173 => ?_)
      · refine pw_bipush (v := (-2)) dX7_count_190 (by decide) ?_
        exact pw_iret dX7_count_192 rfl ⟨absurd c_173 (by decide), rfl, rfl, rfl⟩
      · refine pw_aload_n dX7_count_176 rfl rfl ?_
        refine pw_getR (x := (x + 1)) dX7_count_177 fd_RX7_10 (by decide) (tw_k h) rfl (tw_r0 h) ?_
        refine pw_iload_n dX7_count_180 rfl rfl ?_
        refine pw_iconst (v := 5) dX7_count_181 (by decide) ?_
        refine pw_isub dX7_count_182 ?_
        refine pw_iload_n dX7_count_183 rfl rfl ?_
        refine pw_iconst (v := 5) dX7_count_184 (by decide) ?_
        refine pw_isub dX7_count_185 ?_
        refine pe_callVi dX7_count_186 oX_X5_tasksIn lk_RX7_250 (sp_tasksIn (tw_now h) hn hn4) (pl_k (tw_now h)) rfl rfl (Nat.le_of_ble_eq_true rfl) (by decide) ?_
        exact pw_iret dX7_count_189 rfl ⟨by rw [countV, swV_in (Nat.le_of_ble_eq_true rfl) (Nat.le_of_ble_eq_true rfl)]; rfl, rfl, rfl, rfl⟩
    · refine pw_tableIn (x := nI 10) (off := 165) (tgt := 166) dX7_count_1 (by decide) (by decide) (by decide) (by decide) ?_
      refine pw_iload_n dX7_count_166 rfl rfl ?_
      refine pw_iconst (v := 5) dX7_count_167 (by decide) ?_
      refine pw_bipush (v := 11) dX7_count_168 (by decide) ?_
      refine pe_callSi dX7_count_170 oX_X7_within lk_RX7_138 sp_within rfl rfl (Nat.le_of_ble_eq_true rfl) (by decide) ?_
      refine pw_ifB_eq (tgt := 190) dX7_count_173 (by decide) (fun c_173 => ?_) (fun c_173 => ?_)
      · refine pw_bipush (v := (-2)) dX7_count_190 (by decide) ?_
        exact pw_iret dX7_count_192 rfl ⟨absurd c_173 (by decide), rfl, rfl, rfl⟩
      · refine pw_aload_n dX7_count_176 rfl rfl ?_
        refine pw_getR (x := (x + 1)) dX7_count_177 fd_RX7_10 (by decide) (tw_k h) rfl (tw_r0 h) ?_
        refine pw_iload_n dX7_count_180 rfl rfl ?_
        refine pw_iconst (v := 5) dX7_count_181 (by decide) ?_
        refine pw_isub dX7_count_182 ?_
        refine pw_iload_n dX7_count_183 rfl rfl ?_
        refine pw_iconst (v := 5) dX7_count_184 (by decide) ?_
        refine pw_isub dX7_count_185 ?_
        refine pe_callVi dX7_count_186 oX_X5_tasksIn lk_RX7_250 (sp_tasksIn (tw_now h) hn hn4) (pl_k (tw_now h)) rfl rfl (Nat.le_of_ble_eq_true rfl) (by decide) ?_
        exact pw_iret dX7_count_189 rfl ⟨by rw [countV, swV_in (Nat.le_of_ble_eq_true rfl) (Nat.le_of_ble_eq_true rfl)]; rfl, rfl, rfl, rfl⟩
    · refine pw_tableIn (x := nI 11) (off := 165) (tgt := 166) dX7_count_1 (by decide) (by decide) (by decide) (by decide) ?_
      refine pw_iload_n dX7_count_166 rfl rfl ?_
      refine pw_iconst (v := 5) dX7_count_167 (by decide) ?_
      refine pw_bipush (v := 11) dX7_count_168 (by decide) ?_
      refine pe_callSi dX7_count_170 oX_X7_within lk_RX7_138 sp_within rfl rfl (Nat.le_of_ble_eq_true rfl) (by decide) ?_
      refine pw_ifB_eq (tgt := 190) dX7_count_173 (by decide) (fun c_173 => ?_) (fun c_173 => ?_)
      · refine pw_bipush (v := (-2)) dX7_count_190 (by decide) ?_
        exact pw_iret dX7_count_192 rfl ⟨absurd c_173 (by decide), rfl, rfl, rfl⟩
      · refine pw_aload_n dX7_count_176 rfl rfl ?_
        refine pw_getR (x := (x + 1)) dX7_count_177 fd_RX7_10 (by decide) (tw_k h) rfl (tw_r0 h) ?_
        refine pw_iload_n dX7_count_180 rfl rfl ?_
        refine pw_iconst (v := 5) dX7_count_181 (by decide) ?_
        refine pw_isub dX7_count_182 ?_
        refine pw_iload_n dX7_count_183 rfl rfl ?_
        refine pw_iconst (v := 5) dX7_count_184 (by decide) ?_
        refine pw_isub dX7_count_185 ?_
        refine pe_callVi dX7_count_186 oX_X5_tasksIn lk_RX7_250 (sp_tasksIn (tw_now h) hn hn4) (pl_k (tw_now h)) rfl rfl (Nat.le_of_ble_eq_true rfl) (by decide) ?_
        exact pw_iret dX7_count_189 rfl ⟨by rw [countV, swV_in (Nat.le_of_ble_eq_true rfl) (Nat.le_of_ble_eq_true rfl)]; rfl, rfl, rfl, rfl⟩
    · refine pw_tableIn (x := nI 12) (off := 123) (tgt := 124) dX7_count_1 (by decide) (by decide) (by decide) (by decide) ?_
      refine pw_aload_n dX7_count_124 rfl rfl ?_
      refine pw_getR (x := (x + 1)) dX7_count_125 fd_RX7_10 (by decide) (tw_k h) rfl (tw_r0 h) ?_
      refine pw_iconst (v := 1) dX7_count_128 (by decide) ?_
      refine pw_iconst (v := 3) dX7_count_129 (by decide) ?_
      refine pe_callVi dX7_count_130 oX_X5_tasksIn lk_RX7_250 (sp_tasksIn (tw_now h) hn hn4) (pl_k (tw_now h)) rfl rfl (Nat.le_of_ble_eq_true rfl) (by decide) ?_
      exact pw_iret dX7_count_133 rfl ⟨by rw [countV, swV_in (Nat.le_of_ble_eq_true rfl) (Nat.le_of_ble_eq_true rfl)]; rfl, rfl, rfl, rfl⟩
    · refine pw_tableIn (x := nI 13) (off := 133) (tgt := 134) dX7_count_1 (by decide) (by decide) (by decide) (by decide) ?_
      refine pw_aload_n dX7_count_134 rfl rfl ?_
      refine pw_getR (x := (x + 1)) dX7_count_135 fd_RX7_10 (by decide) (tw_k h) rfl (tw_r0 h) ?_
      refine pe_callVi dX7_count_138 oX_X5_slipsSoFar lk_RX7_253 (sp_slipsSoFar (tw_now h) hn hn4) (pl_k (tw_now h)) rfl rfl (Nat.le_of_ble_eq_true rfl) (by decide) ?_
      exact pw_iret dX7_count_141 rfl ⟨by rw [countV, swV_in (Nat.le_of_ble_eq_true rfl) (Nat.le_of_ble_eq_true rfl)]; rfl, rfl, rfl, rfl⟩
    · refine pw_tableIn (x := nI 14) (off := 141) (tgt := 142) dX7_count_1 (by decide) (by decide) (by decide) (by decide) ?_
      refine pw_aload_n dX7_count_142 rfl rfl ?_
      refine pw_getR (x := (x + 1)) dX7_count_143 fd_RX7_10 (by decide) (tw_k h) rfl (tw_r0 h) ?_
      refine pe_callVi dX7_count_146 oX_X5_allBusyPeople lk_RX7_256 (sp_allBusyPeople (tw_now h) hn hn4) (pl_k (tw_now h)) rfl rfl (Nat.le_of_ble_eq_true rfl) (by decide) ?_
      exact pw_iret dX7_count_149 rfl ⟨by rw [countV, swV_in (Nat.le_of_ble_eq_true rfl) (Nat.le_of_ble_eq_true rfl)]; rfl, rfl, rfl, rfl⟩
    · refine pw_tableIn (x := nI 15) (off := 149) (tgt := 150) dX7_count_1 (by decide) (by decide) (by decide) (by decide) ?_
      refine pw_aload_n dX7_count_150 rfl rfl ?_
      refine pw_getR (x := (x + 127)) dX7_count_151 fd_RX7_29 (by decide) (tw_k h) rfl (tw_r4 h) ?_
      refine pw_getI dX7_count_154 fd_RX7_259 (by decide) (hi_k (tw_hi h)) rfl ?_
      exact pw_iret dX7_count_157 rfl ⟨by rw [countV, swV_in (Nat.le_of_ble_eq_true rfl) (Nat.le_of_ble_eq_true rfl)]; rfl, rfl, rfl, rfl⟩
    · refine pw_tableIn (x := nI 16) (off := 157) (tgt := 158) dX7_count_1 (by decide) (by decide) (by decide) (by decide) ?_
      refine pw_aload_n dX7_count_158 rfl rfl ?_
      refine pw_getR (x := (x + 297)) dX7_count_159 fd_RX7_36 (by decide) (tw_k h) rfl (tw_r5 h) ?_
      refine pw_getI dX7_count_162 fd_RX7_262 (by decide) (or_k (tw_or h)) rfl ?_
      exact pw_iret dX7_count_165 rfl ⟨by rw [countV, swV_in (Nat.le_of_ble_eq_true rfl) (Nat.le_of_ble_eq_true rfl)]; rfl, rfl, rfl, rfl⟩
  · refine pw_tableOut (tgt := 166) dX7_count_1 hout (by decide) ?_
    refine pw_iload_n dX7_count_166 rfl rfl ?_
    refine pw_iconst (v := 5) dX7_count_167 (by decide) ?_
    refine pw_bipush (v := 11) dX7_count_168 (by decide) ?_
    refine pe_callSi dX7_count_170 oX_X7_within lk_RX7_138 sp_within rfl rfl (Nat.le_of_ble_eq_true rfl) (by decide) ?_
    refine pw_ifB_eq (tgt := 190) dX7_count_173 (by decide) (fun c_173 => ?_) (fun c_173 => ?_)
    · refine pw_bipush (v := (-2)) dX7_count_190 (by decide) ?_
      exact pw_iret dX7_count_192 rfl ⟨by rw [countV, swV_out hout (Nat.le_of_ble_eq_true rfl)], rfl, rfl, rfl⟩
    · refine pw_aload_n dX7_count_176 rfl rfl ?_
      refine pw_getR (x := (x + 1)) dX7_count_177 fd_RX7_10 (by decide) (tw_k h) rfl (tw_r0 h) ?_
      refine pw_iload_n dX7_count_180 rfl rfl ?_
      refine pw_iconst (v := 5) dX7_count_181 (by decide) ?_
      refine pw_isub dX7_count_182 ?_
      refine pw_iload_n dX7_count_183 rfl rfl ?_
      refine pw_iconst (v := 5) dX7_count_184 (by decide) ?_
      refine pw_isub dX7_count_185 ?_
      refine pe_callVi dX7_count_186 oX_X5_tasksIn lk_RX7_250 (sp_tasksIn (tw_now h) hn hn4) (pl_k (tw_now h)) rfl rfl (Nat.le_of_ble_eq_true rfl) (by decide) ?_
      exact pw_iret dX7_count_189 rfl ⟨absurd (of_decide_eq_true c_173) (fun z9 => cnt_no hout z9), rfl, rfl, rfl⟩

