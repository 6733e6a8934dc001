/-! what changes a plant: the answer, and the cells behind it -/
theorem rL {v : Int32} {σ : pT} {I1 : pI} {F1 : pF} {R : Int32 × pI × pF} (h : R = (v, I1, F1)) : some (Value.int v) = some (Value.int R.1) ∧ σ = σ ∧ I1 = R.2.1 ∧ F1 = R.2.2 := by
  subst h
  exact ⟨rfl, rfl, rfl, rfl⟩
theorem win_nat {x : Int32} {lo hi : Nat} (h : decide (nI lo ≤ x ∧ x ≤ nI hi) = true) (hb : hi < 2 ^ 31) (hl : lo < 2 ^ 31) : ∃ d, lo ≤ d ∧ d ≤ hi ∧ x = nI d := by
  obtain ⟨h1, h2⟩ := of_decide_eq_true h
  rw [Int32.le_iff_toInt_le, nI_toInt hl] at h1
  rw [Int32.le_iff_toInt_le, nI_toInt hb] at h2
  have h3 : (0 : Int32).toInt = 0 := by decide
  obtain ⟨j, hj, rfl⟩ := nI_of (x := x) (by rw [Int32.lt_iff_toInt_lt, h3]; omega)
  rw [nI_toInt hj] at h1 h2
  exact ⟨j, by omega, by omega, rfl⟩
def us (x k : Int32) : Int32 := (x.toUInt32 >>> (k.toUInt32 &&& Int32.toUInt32 31)).toInt32
def bc1 (x : Int32) : Int32 := x - (us x 1 &&& 1431655765)
def bc2 (x : Int32) : Int32 := (x &&& 858993459) + (us x 2 &&& 858993459)
def bc3 (x : Int32) : Int32 := (x + us x 4) &&& 252645135
def bc4 (x : Int32) : Int32 := x + us x 8
def bc5 (x : Int32) : Int32 := x + us x 16
def bitC (x : Int32) : Int32 := bc5 (bc4 (bc3 (bc2 (bc1 x)))) &&& 63
def passR (I : pI) (F : pF) (p nA n : Nat) (x : Int32) : Int32 × pI × pF :=
  if 1 ≤ x ∧ x ≤ 48 then
    if I p 7 + x ≤ 2000 then (nI (psN p nA n x.toNatClampNeg I F).2.2, (psN p nA n x.toNatClampNeg I F).1, (psN p nA n x.toNatClampNeg I F).2.1)
    else (-4, I, F)
  else (-2, I, F)
def newAssetR (I : pI) (F : pF) (p nA : Nat) (r w : Int32) : Int32 × pI × pF :=
  if (1 ≤ r ∧ r ≤ 100) ∧ (1 ≤ w ∧ w ≤ 200) then
    if nA < 8 then (nI nA, up2 (up2 (up2 (up2 I (p + 5 + nA) 0 r) (p + 5 + nA) 4 0) (p + 5 + nA) 5 0) p 4 (nI (nA + 1)), up2 (up2 (up2 F (p + 5 + nA) 1 (FP.fdiv (FP.i2f w) 1148846080)) (p + 5 + nA) 2 1065353216) (p + 5 + nA) 3 0)
    else (-3, I, F)
  else (-2, I, F)
def newCrewR (I : pI) (F : pF) (p nC : Nat) (r w : Int32) : Int32 × pI × pF :=
  if (1 ≤ r ∧ r ≤ 6) ∧ (0 ≤ w ∧ w ≤ 15) then
    if nC < 5 then (nI nC, up2 (up2 (up2 I (p + 13 + nC) 0 r) (p + 13 + nC) 1 w) p 5 (nI (nC + 1)), F)
    else (-3, I, F)
  else (-2, I, F)
def linkB (I : pI) (p a : Nat) (o : Int32) : Bool := decide ((I (p + 5 + a) 5 >>> (o &&& 31)) &&& 1 = 1)
def setLinkR (I : pI) (F : pF) (p : Nat) (a o z : Int32) : Int32 × pI × pF :=
  if (0 ≤ a ∧ a < I p 4) ∧ (0 ≤ o ∧ o < I p 4) then
    if a = o then (-2, I, F)
    else if bI (linkB I p a.toNatClampNeg o) = z then (-5, I, F)
    else
      (bitC (up2 (up2 I (p + 5 + a.toNatClampNeg) 5 (I (p + 5 + a.toNatClampNeg) 5 ^^^ (1 <<< (o &&& 31)))) (p + 5 + o.toNatClampNeg) 5 (up2 I (p + 5 + a.toNatClampNeg) 5 (I (p + 5 + a.toNatClampNeg) 5 ^^^ (1 <<< (o &&& 31))) (p + 5 + o.toNatClampNeg) 5 ^^^ (1 <<< (a &&& 31))) (p + 5 + a.toNatClampNeg) 5),
       up2 (up2 I (p + 5 + a.toNatClampNeg) 5 (I (p + 5 + a.toNatClampNeg) 5 ^^^ (1 <<< (o &&& 31)))) (p + 5 + o.toNatClampNeg) 5 (up2 I (p + 5 + a.toNatClampNeg) 5 (I (p + 5 + a.toNatClampNeg) 5 ^^^ (1 <<< (o &&& 31))) (p + 5 + o.toNatClampNeg) 5 ^^^ (1 <<< (a &&& 31))), F)
  else (-1, I, F)
def barI1 (I : pI) (p k : Nat) (o : Int32) : pI := up2 I (p + 4) k (I (p + 4) k ^^^ (1 <<< (o &&& 31)))
def barI2 (I : pI) (p k j : Nat) : pI := if nI k = nI j then barI1 I p k (nI j) else barI1 (barI1 I p k (nI j)) p j (nI k)
def setBarR (I : pI) (F : pF) (p : Nat) (a o z : Int32) : Int32 × pI × pF :=
  if (0 ≤ a ∧ a ≤ 4) ∧ (0 ≤ o ∧ o ≤ 4) then
    if bI (barB I p a.toNatClampNeg o) = z then (-5, I, F)
    else (bitC (barI2 I p a.toNatClampNeg o.toNatClampNeg (p + 4) a.toNatClampNeg), barI2 I p a.toNatClampNeg o.toNatClampNeg, F)
  else (-2, I, F)
def taskI (I : pI) (q : Nat) (a b c d e f : Int32) : pI := up2 (up2 (up2 (up2 (up2 (up2 (up2 (up2 (up2 (up2 (up2 (up2 I q 0 a) q 1 b) q 2 c) q 3 d) q 4 e) q 5 f) q 6 (f + 2 * e + 6)) q 7 0) q 8 (-5)) q 9 0) q 10 0) q 11 0
def newTaskR (I : pI) (F : pF) (p n : Nat) (a s c d e f : Int32) : Int32 × pI × pF :=
  if 0 ≤ a ∧ a < I p 4 then
    if (0 ≤ s ∧ s ≤ 3) ∧ (1 ≤ c ∧ c ≤ 6) ∧ (0 ≤ d ∧ d ≤ 4) ∧ (1 ≤ e ∧ e ≤ 48) ∧ (I p 7 ≤ f ∧ f ≤ 2000) then
      if n < 24 then (nI n, up2 (taskI I (p + 18 + n) a s c d e f) p 6 (nI (n + 1)), F) else (-3, I, F)
    else (-2, I, F)
  else (-1, I, F)
def runsC (I : pI) (p nA : Nat) : Nat := cntT (fun a => decide (¬ I (p + 5 + a) 4 = 0)) nA
def startR (I : pI) (F : pF) (p nA n : Nat) (a : Int32) : Int32 × pI × pF :=
  if 0 ≤ a ∧ a < I p 4 then
    if nI (tagsC I p n a) ≤ 0 then
      if I (p + 5 + a.toNatClampNeg) 4 = 0 then (nI (runsC (up2 I (p + 5 + a.toNatClampNeg) 4 1) p nA), up2 I (p + 5 + a.toNatClampNeg) 4 1, F) else (-5, I, F)
    else (-4, I, F)
  else (-1, I, F)
def stopR (I : pI) (F : pF) (p nA : Nat) (a : Int32) : Int32 × pI × pF :=
  if 0 ≤ a ∧ a < I p 4 then
    if I (p + 5 + a.toNatClampNeg) 4 = 0 then (-5, I, F) else (nI (runsC (up2 I (p + 5 + a.toNatClampNeg) 4 0) p nA), up2 I (p + 5 + a.toNatClampNeg) 4 0, F)
  else (-1, I, F)
def hangI (I : pI) (p n t : Nat) (c : Int32) : pI := up2 (up2 (up2 I (p + 18 + t) 11 (nI (tagsC I p n (I (p + 18 + t) 0)))) (p + 18 + t) 7 1) (p + 18 + t) 8 c
def hangR (I : pI) (F : pF) (p n : Nat) (a c : Int32) : Int32 × pI × pF :=
  if (0 ≤ a ∧ a < I p 6) ∧ (0 ≤ c ∧ c < I p 5) then
    if I (p + 18 + a.toNatClampNeg) 7 = 0 ∧ I (p + 5 + (I (p + 18 + a.toNatClampNeg) 0).toNatClampNeg) 4 = 0 ∧ serveB I p n c.toNatClampNeg a.toNatClampNeg = true then (nI (tagsC I p n (I (p + 18 + a.toNatClampNeg) 0) + 1), hangI I p n a.toNatClampNeg c, F)
    else (-4, I, F)
  else (-1, I, F)
def beginR (I : pI) (F : pF) (p n : Nat) (a : Int32) : Int32 × pI × pF :=
  if 0 ≤ a ∧ a < I p 6 then
    if reasC I p n a.toNatClampNeg (I (p + 18 + a.toNatClampNeg) 3).toNatClampNeg (I (p + 18 + a.toNatClampNeg) 0).toNatClampNeg = 0 then (I p 7 + I (p + 18 + a.toNatClampNeg) 4, up2 (up2 I (p + 18 + a.toNatClampNeg) 7 2) (p + 18 + a.toNatClampNeg) 9 (I (p + 18 + a.toNatClampNeg) 4), F)
    else (-4, I, F)
  else (-1, I, F)
def liftI (I : pI) (p t : Nat) : pI := if I (p + 18 + t) 7 = 3 then up2 I (p + 18 + t) 7 4 else up2 (up2 I (p + 18 + t) 7 0) (p + 18 + t) 8 (-5)
def liftR (I : pI) (F : pF) (p n : Nat) (a c : Int32) : Int32 × pI × pF :=
  if (0 ≤ a ∧ a < I p 6) ∧ (0 ≤ c ∧ c < I p 5) then
    if (I (p + 18 + a.toNatClampNeg) 7 = 1 ∨ I (p + 18 + a.toNatClampNeg) 7 = 3) ∧ I (p + 18 + a.toNatClampNeg) 8 = c ∧ tagC I p n (I (p + 18 + a.toNatClampNeg) 0) 0 = a then (nI (tagsC (liftI I p a.toNatClampNeg) p n (I (p + 18 + a.toNatClampNeg) 0)), liftI I p a.toNatClampNeg, F)
    else (-4, I, F)
  else (-1, I, F)
def cancelR (I : pI) (F : pF) (p : Nat) (a : Int32) : Int32 × pI × pF :=
  if 0 ≤ a ∧ a < I p 6 then
    if I (p + 18 + a.toNatClampNeg) 7 = 0 then (I (p + 18 + a.toNatClampNeg) 10, up2 I (p + 18 + a.toNatClampNeg) 7 6, F) else (-4, I, F)
  else (-1, I, F)

set_option maxRecDepth 4000 in
theorem sp_bitCount {σ : pT} {I : pI} {F : pF} {x : Int32} : PE yJ6_bitCount_0f7a4 cJ6_bitCount_0f7a4 mJ6_bitCount_0f7a4 [.int x] σ I F (some (.int (bitC x))) I F := by
  refine PE.of oP_J6_bitCount_0f7a4 (catOK rfl) (Nat.le_of_ble_eq_true rfl) ?_
  show PW _ _ _ 0 [.int x] [] _ _ _ _
  refine pw_iload_n dJ6_bitCount_0f7a4_0 rfl rfl ?_
  refine pw_iload_n dJ6_bitCount_0f7a4_1 rfl rfl ?_
  refine pw_iconst (v := 1) dJ6_bitCount_0f7a4_2 (by decide) ?_
  refine pw_iushr dJ6_bitCount_0f7a4_3 rfl ?_
  refine pw_ldcw dJ6_bitCount_0f7a4_4 kc_RJ6_265 ?_
  refine pw_iand dJ6_bitCount_0f7a4_7 ?_
  refine pw_isub dJ6_bitCount_0f7a4_8 ?_
  refine pw_istore_n dJ6_bitCount_0f7a4_9 rfl (by decide) rfl ?_
  refine pw_iload_n dJ6_bitCount_0f7a4_10 rfl rfl ?_
  refine pw_ldcw dJ6_bitCount_0f7a4_11 kc_RJ6_266 ?_
  refine pw_iand dJ6_bitCount_0f7a4_14 ?_
  refine pw_iload_n dJ6_bitCount_0f7a4_15 rfl rfl ?_
  refine pw_iconst (v := 2) dJ6_bitCount_0f7a4_16 (by decide) ?_
  refine pw_iushr dJ6_bitCount_0f7a4_17 rfl ?_
  refine pw_ldcw dJ6_bitCount_0f7a4_18 kc_RJ6_266 ?_
  refine pw_iand dJ6_bitCount_0f7a4_21 ?_
  refine pw_iadd dJ6_bitCount_0f7a4_22 ?_
  refine pw_istore_n dJ6_bitCount_0f7a4_23 rfl (by decide) rfl ?_
  refine pw_iload_n dJ6_bitCount_0f7a4_24 rfl rfl ?_
  refine pw_iload_n dJ6_bitCount_0f7a4_25 rfl rfl ?_
  refine pw_iconst (v := 4) dJ6_bitCount_0f7a4_26 (by decide) ?_
  refine pw_iushr dJ6_bitCount_0f7a4_27 rfl ?_
  refine pw_iadd dJ6_bitCount_0f7a4_28 ?_
  refine pw_ldcw dJ6_bitCount_0f7a4_29 kc_RJ6_267 ?_
  refine pw_iand dJ6_bitCount_0f7a4_32 ?_
  refine pw_istore_n dJ6_bitCount_0f7a4_33 rfl (by decide) rfl ?_
  refine pw_iload_n dJ6_bitCount_0f7a4_34 rfl rfl ?_
  refine pw_iload_n dJ6_bitCount_0f7a4_35 rfl rfl ?_
  refine pw_bipush (v := 8) dJ6_bitCount_0f7a4_36 (by decide) ?_
  refine pw_iushr dJ6_bitCount_0f7a4_38 rfl ?_
  refine pw_iadd dJ6_bitCount_0f7a4_39 ?_
  refine pw_istore_n dJ6_bitCount_0f7a4_40 rfl (by decide) rfl ?_
  refine pw_iload_n dJ6_bitCount_0f7a4_41 rfl rfl ?_
  refine pw_iload_n dJ6_bitCount_0f7a4_42 rfl rfl ?_
  refine pw_bipush (v := 16) dJ6_bitCount_0f7a4_43 (by decide) ?_
  refine pw_iushr dJ6_bitCount_0f7a4_45 rfl ?_
  refine pw_iadd dJ6_bitCount_0f7a4_46 ?_
  refine pw_istore_n dJ6_bitCount_0f7a4_47 rfl (by decide) rfl ?_
  refine pw_iload_n dJ6_bitCount_0f7a4_48 rfl rfl ?_
  refine pw_bipush (v := 63) dJ6_bitCount_0f7a4_49 (by decide) ?_
  refine pw_iand dJ6_bitCount_0f7a4_51 ?_
  exact pw_iret dJ6_bitCount_0f7a4_52 rfl ⟨rfl, rfl, rfl, rfl⟩

set_option maxRecDepth 4000 in
theorem sp_passHours {σ : pT} {I : pI} {F : pF} {p nA n : Nat} {x : Int32} (h : isPl σ p) (hn : I p 6 = nI n) (hn4 : n ≤ 24) (hA : I p 4 = nI nA) (hA8 : nA ≤ 8) (hW : ∀ t, t < n → ∃ a, a < nA ∧ I (p + 18 + t) 0 = nI a)  : PE yX5_passHours cX5_passHours mX5_passHours [.ref p, .int x] σ I F (some (.int (passR I F p nA n x).1)) (passR I F p nA n x).2.1 (passR I F p nA n x).2.2 := by
  have KK : ∀ d, d ≤ 48 → PW cX5_passHours mX5_passHours (fM (qE (some (.int (nI (psN p nA n d I F).2.2))) σ (psN p nA n d I F).1 (psN p nA n d I F).2.1)) 28 [.ref p, .int (nI d), pJ, pJ] [] σ I F (0, 0) := by
    intro d hd
    have L32 : ∀ k, k ≤ d → PW cX5_passHours mX5_passHours (fM (qE (some (.int (nI (psN p nA n d I F).2.2))) σ (psN p nA n d I F).1 (psN p nA n d I F).2.1)) 32 [.ref p, .int (nI d), .int (nI (psN p nA n k I F).2.2), .int (nI k)] [] σ (psN p nA n k I F).1 (psN p nA n k I F).2.1 (0, 0) := by
      refine dn (fun k => PW cX5_passHours mX5_passHours (fM (qE (some (.int (nI (psN p nA n d I F).2.2))) σ (psN p nA n d I F).1 (psN p nA n d I F).2.1)) 32 [.ref p, .int (nI d), .int (nI (psN p nA n k I F).2.2), .int (nI k)] [] σ (psN p nA n k I F).1 (psN p nA n k I F).2.1 (0, 0)) d ?_ ?_
      · skip
        refine pw_iload_n dX5_passHours_32 rfl rfl ?_
        refine pw_iload_n dX5_passHours_33 rfl rfl ?_
        refine pw_icmp_ge (tgt := 68) dX5_passHours_34 (by decide) (fun c_34 => ?_) (fun c_34 => absurd (k_ge rfl) c_34)
        refine pw_iload_n dX5_passHours_68 rfl rfl ?_
        exact pw_iret dX5_passHours_69 rfl ⟨rfl, rfl, rfl, rfl⟩
      · intro k hk ih
        have hn1 : (psN p nA n k I F).1 p 6 = nI n := (psN_fr (by omega) k).trans hn
        have hA1 : (psN p nA n k I F).1 p 4 = nI nA := (psN_fr (by omega) k).trans hA
        have hW1 : ∀ t, t < n → ∃ a, a < nA ∧ (psN p nA n k I F).1 (p + 18 + t) 0 = nI a := fun t ht => by obtain ⟨a, h1, h2⟩ := hW t ht; exact ⟨a, h1, (psN_fr (by omega) k).trans h2⟩
        rw [show psN p nA n (k + 1) I F = hrS p nA n (psN p nA n k I F) from rfl] at ih
        revert ih hn1 hA1 hW1
        generalize psN p nA n k I F = W
        obtain ⟨I1, F1, c1⟩ := W
        intro ih hn1 hA1 hW1
        dsimp only at ih hn1 hA1 hW1 ⊢
        refine pw_iload_n dX5_passHours_32 rfl rfl ?_
        refine pw_iload_n dX5_passHours_33 rfl rfl ?_
        refine pw_icmp_ge (tgt := 68) dX5_passHours_34 (by decide) (fun c_34 => absurd c_34 (k_lt rfl hk (by omega))) (fun c_34 => ?_)
        refine pw_aload_n dX5_passHours_37 rfl rfl ?_
        refine pe_callVv dX5_passHours_38 oX_X5_runAssets lk_RX5_143 (sp_runAssets h hA1 hA8) (pl_k h) rfl rfl (Nat.le_of_ble_eq_true rfl) (by decide) ?_
        refine pw_iload_n dX5_passHours_41 rfl rfl ?_
        refine pw_aload_n dX5_passHours_42 rfl rfl ?_
        refine pe_callVi dX5_passHours_43 oX_X5_workOnTasks lk_RX5_146 (sp_workOnTasks h hn1 hn4 hA1 hA8 hW1) (pl_k h) rfl rfl (Nat.le_of_ble_eq_true rfl) (by decide) ?_
        refine pw_iadd dX5_passHours_46 ?_
        rw [nI_add]
        refine pw_istore_n dX5_passHours_47 rfl (by decide) rfl ?_
        refine pw_aload_n dX5_passHours_48 rfl rfl ?_
        refine pw_dup dX5_passHours_49 rfl ?_
        refine pw_getI dX5_passHours_50 fd_RX5_43 (by decide) (pl_k h) rfl ?_
        refine pw_iconst (v := 1) dX5_passHours_53 (by decide) ?_
        refine pw_iadd dX5_passHours_54 ?_
        refine pw_putI dX5_passHours_55 fd_RX5_43 (by decide) rfl ⟨rfl, rfl, rfl⟩ (pl_k h) ?_
        refine pw_aload_n dX5_passHours_58 rfl rfl ?_
        refine pe_callVv dX5_passHours_59 oX_X5_slipTasks lk_RX5_149 (sp_slipTasks h ((up2_nj (by decide)).trans ((wkN_fr n (by omega)).trans hn1)) hn4) (pl_k h) rfl rfl (Nat.le_of_ble_eq_true rfl) (by decide) ?_
        refine pw_iinc (v := nI (k + 1)) dX5_passHours_62 rfl (nI_add _ _) rfl ?_
        refine pw_goto (tgt := 32) dX5_passHours_65 (by decide) ?_
        exact ih
    refine pw_iconst (v := 0) dX5_passHours_28 (by decide) ?_
    refine pw_istore_n dX5_passHours_29 rfl (by decide) rfl ?_
    refine pw_iconst (v := 0) dX5_passHours_30 (by decide) ?_
    refine pw_istore_n dX5_passHours_31 rfl (by decide) rfl ?_
    exact L32 0 (Nat.zero_le _)
  refine PE.of oP_X5_passHours (catOK rfl) (Nat.le_of_ble_eq_true rfl) ?_
  show PW _ _ _ 0 [.ref p, .int x, pJ, pJ] [] _ _ _ _
  refine pw_iload_n dX5_passHours_0 rfl rfl ?_
  refine pw_iconst (v := 1) dX5_passHours_1 (by decide) ?_
  refine pw_bipush (v := 48) dX5_passHours_2 (by decide) ?_
  refine pe_callSNi dX5_passHours_4 oX_X7_within nk_RX5_59 sp_within rfl rfl (Nat.le_of_ble_eq_true rfl) (by decide) ?_
  refine pw_ifB_ne (tgt := 13) dX5_passHours_7 (by decide) (fun c_7 => ?_) (fun c_7 => ?_)
  · obtain ⟨d, hd1, hd2, rfl⟩ := win_nat (lo := 1) (hi := 48) c_7 (by decide) (by decide)
    refine pw_aload_n dX5_passHours_13 rfl rfl ?_
    refine pw_getI dX5_passHours_14 fd_RX5_43 (by decide) (pl_k h) rfl ?_
    refine pw_iload_n dX5_passHours_17 rfl rfl ?_
    refine pw_iadd dX5_passHours_18 ?_
    refine pw_sipush (v := 2000) dX5_passHours_19 (by decide) ?_
    refine pw_icmp_le (tgt := 28) dX5_passHours_22 (by decide) (fun c_22 => ?_) (fun c_22 => ?_)
    · suffices K : PW cX5_passHours mX5_passHours (fM (qE (some (.int (nI (psN p nA n d I F).2.2))) σ (psN p nA n d I F).1 (psN p nA n d I F).2.1)) 28 [.ref p, .int (nI d), pJ, pJ] [] σ I F (0, 0) by
        rw [passR, if_pos (of_decide_eq_true c_7), if_pos c_22, nI_clamp (show d < 2 ^ 31 by omega)]
        exact K
      clear c_7 c_22
      exact KK d hd2
    · refine pw_bipush (v := (-4)) dX5_passHours_25 (by decide) ?_
      exact pw_iret dX5_passHours_27 rfl (rL (by rw [passR, if_pos (of_decide_eq_true c_7), if_neg c_22]))
  · refine pw_bipush (v := (-2)) dX5_passHours_10 (by decide) ?_
    exact pw_iret dX5_passHours_12 rfl (rL (by rw [passR, if_neg (of_decide_eq_false c_7)]))

