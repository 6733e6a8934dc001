/-! hours: what happens to the plant's cells -/
theorem up2_nj {α : Type} {f : Nat → Nat → α} {q k j : Nat} {x : α} (h : j ≠ k) : up2 f q k x q j = f q j := up2_n (fun z => h z.2)
theorem up2_ni {α : Type} {f : Nat → Nat → α} {q k i j : Nat} {x : α} (h : i ≠ q) : up2 f q k x i j = f i j := up2_n (fun z => h z.1)
def mendF (F : pF) (q : Nat) : pF := up2 F q 2 (FP.fadd (F q 2) (FP.fmul (FP.fsub 1065353216 (F q 2)) 1061158912))
def runOne (I : pI) (q : Nat) (F : pF) : pF := up2 (up2 F q 3 (FP.fadd (F q 3) (FP.fmul (FP.i2f (I q 0)) (F q 2)))) q 2 (wornF (F q 1) (F q 2))
def runAF (I : pI) (p : Nat) : Nat → pF → pF
  | 0, F => F
  | k + 1, F => if I (p + 5 + k) 4 = 0 then runAF I p k F else runOne I (p + 5 + k) (runAF I p k F)
theorem runAF_t {I : pI} {p k : Nat} {F : pF} (h : ¬ I (p + 5 + k) 4 = 0) : runAF I p (k + 1) F = runOne I (p + 5 + k) (runAF I p k F) := by rw [runAF, if_neg h]
theorem runAF_f {I : pI} {p k : Nat} {F : pF} (h : I (p + 5 + k) 4 = 0) : runAF I p (k + 1) F = runAF I p k F := by rw [runAF, if_pos h]
def wk1 (p k : Nat) (W : pI × pF × Nat) : pI × pF × Nat :=
  if W.1 (p + 18 + k) 7 = 2 then
    if 0 < W.1 (p + 18 + k) 9 - 1 then (up2 W.1 (p + 18 + k) 9 (W.1 (p + 18 + k) 9 - 1), W.2.1, W.2.2)
    else (up2 (up2 W.1 (p + 18 + k) 9 (W.1 (p + 18 + k) 9 - 1)) (p + 18 + k) 7 3, mendF W.2.1 (p + 5 + (W.1 (p + 18 + k) 0).toNatClampNeg), W.2.2 + 1)
  else W
def wkN (p : Nat) : Nat → pI → pF → pI × pF × Nat
  | 0, I, F => (I, F, 0)
  | k + 1, I, F => wk1 p k (wkN p k I F)
theorem wk1_n {p k : Nat} {W : pI × pF × Nat} (h : ¬ W.1 (p + 18 + k) 7 = 2) : wk1 p k W = W := by rw [wk1, if_neg h]
theorem wk1_a {p k : Nat} {I : pI} {F : pF} {c : Nat} (h : I (p + 18 + k) 7 = 2) (h2 : 0 < I (p + 18 + k) 9 - 1) : wk1 p k (I, F, c) = (up2 I (p + 18 + k) 9 (I (p + 18 + k) 9 - 1), F, c) := by
  have h : ((I, F, c) : pI × pF × Nat).1 (p + 18 + k) 7 = 2 := h
  rw [wk1, if_pos h, if_pos h2]
theorem wk1_b {p k a : Nat} {I : pI} {F : pF} {c : Nat} (h : I (p + 18 + k) 7 = 2) (h2 : ¬ 0 < I (p + 18 + k) 9 - 1) (ha : I (p + 18 + k) 0 = nI a) (ha3 : a < 8) : wk1 p k (I, F, c) = (up2 (up2 I (p + 18 + k) 9 (I (p + 18 + k) 9 - 1)) (p + 18 + k) 7 3, mendF F (p + 5 + a), c + 1) := by
  have h : ((I, F, c) : pI × pF × Nat).1 (p + 18 + k) 7 = 2 := h
  rw [wk1, if_pos h, if_neg h2]
  simp only [ha, nI_clamp (show a < 2 ^ 31 by omega)]
theorem wk1_fr {p k : Nat} {W : pI × pF × Nat} {i j : Nat} (h : i ≠ p + 18 + k ∨ (j ≠ 7 ∧ j ≠ 9)) : (wk1 p k W).1 i j = W.1 i j := by
  unfold wk1
  split
  · split
    · exact up2_n (fun z => by rcases h with h | h; exact h z.1; exact h.2 z.2)
    · show up2 (up2 W.1 _ _ _) _ _ _ i j = _
      rw [up2_n (fun z => by rcases h with h | h; exact h z.1; exact h.1 z.2), up2_n (fun z => by rcases h with h | h; exact h z.1; exact h.2 z.2)]
  · rfl
theorem wkN_fr {p : Nat} {I : pI} {F : pF} {i j : Nat} : ∀ (n : Nat), (i < p + 18 ∨ p + 18 + n ≤ i ∨ (j ≠ 7 ∧ j ≠ 9)) → (wkN p n I F).1 i j = I i j
  | 0, _ => rfl
  | k + 1, h => by
    show (wk1 p k (wkN p k I F)).1 i j = I i j
    rw [wk1_fr (by omega)]
    exact wkN_fr k (by omega)
def sl1 (p k : Nat) (I : pI) : pI := if (0 ≤ I (p + 18 + k) 7 ∧ I (p + 18 + k) 7 ≤ 1) ∧ I (p + 18 + k) 6 < I p 7 + I (p + 18 + k) 4 then slipI I (p + 18 + k) else I
def slN (p : Nat) : Nat → pI → pI
  | 0, I => I
  | k + 1, I => sl1 p k (slN p k I)
theorem slipI_fr {I : pI} {q i j : Nat} (h : i ≠ q ∨ (j ≠ 5 ∧ j ≠ 6 ∧ j ≠ 7 ∧ j ≠ 10)) : slipI I q i j = I i j := by
  unfold slipI
  split
  · exact up2_n (fun z => by rcases h with h | h; exact h z.1; exact h.2.2.1 z.2)
  · rw [up2_n (fun z => by rcases h with h | h; exact h z.1; exact h.2.2.2 z.2), up2_n (fun z => by rcases h with h | h; exact h z.1; exact h.2.1 z.2), up2_n (fun z => by rcases h with h | h; exact h z.1; exact h.1 z.2)]
theorem sl1_fr {p k i j : Nat} {I : pI} (h : i ≠ p + 18 + k ∨ (j ≠ 5 ∧ j ≠ 6 ∧ j ≠ 7 ∧ j ≠ 10)) : sl1 p k I i j = I i j := by
  unfold sl1
  split
  · exact slipI_fr h
  · rfl
theorem slN_fr {p : Nat} {I : pI} {i j : Nat} : ∀ (n : Nat), (i < p + 18 ∨ p + 18 + n ≤ i ∨ (j ≠ 5 ∧ j ≠ 6 ∧ j ≠ 7 ∧ j ≠ 10)) → slN p n I i j = I i j
  | 0, _ => rfl
  | k + 1, h => by
    show sl1 p k (slN p k I) i j = I i j
    rw [sl1_fr (by omega)]
    exact slN_fr k (by omega)
/-- one hour: how many tasks are finished in it -/
def hrS (p nA n : Nat) (W : pI × pF × Nat) : pI × pF × Nat :=
  (slN p n (up2 (wkN p n W.1 (runAF W.1 p nA W.2.1)).1 p 7 ((wkN p n W.1 (runAF W.1 p nA W.2.1)).1 p 7 + 1)), (wkN p n W.1 (runAF W.1 p nA W.2.1)).2.1, W.2.2 + (wkN p n W.1 (runAF W.1 p nA W.2.1)).2.2)
def psN (p nA n : Nat) : Nat → pI → pF → pI × pF × Nat
  | 0, I, F => (I, F, 0)
  | k + 1, I, F => hrS p nA n (psN p nA n k I F)
theorem hrS_fr {p nA n i j : Nat} {W : pI × pF × Nat} (h : j ≠ 5 ∧ j ≠ 6 ∧ j ≠ 7 ∧ j ≠ 9 ∧ j ≠ 10 ∨ (i ≠ p ∧ (i < p + 18 ∨ p + 18 + n ≤ i)) ∨ (i = p ∧ j ≠ 7)) : (hrS p nA n W).1 i j = W.1 i j := by
  show slN p n (up2 _ p 7 _) i j = _
  rw [slN_fr n (by omega), up2_n (by omega), wkN_fr n (by omega)]
theorem psN_fr {p nA n i j : Nat} {I : pI} {F : pF} (h : j ≠ 5 ∧ j ≠ 6 ∧ j ≠ 7 ∧ j ≠ 9 ∧ j ≠ 10 ∨ (i ≠ p ∧ (i < p + 18 ∨ p + 18 + n ≤ i)) ∨ (i = p ∧ j ≠ 7)) : ∀ k, (psN p nA n k I F).1 i j = I i j
  | 0 => rfl
  | k + 1 => (hrS_fr h).trans (psN_fr h k)

set_option maxRecDepth 4000 in
theorem sp_mendAsset {σ : pT} {I : pI} {F : pF} {p nA a : Nat} (h : isPl σ p) (hA : I p 4 = nI nA) (hA8 : nA ≤ 8) (ha : a < nA) : PE yX5_mendAsset cX5_mendAsset mX5_mendAsset [.ref p, .int (nI a)] σ I F none I (mendF F (p + 5 + a)) := by
  refine PE.of oP_X5_mendAsset (catOK rfl) (Nat.le_of_ble_eq_true rfl) ?_
  show PW _ _ _ 0 [.ref p, .int (nI a)] [] _ _ _ _
  refine pw_aload_n dX5_mendAsset_0 rfl rfl ?_
  refine pw_iload_n dX5_mendAsset_1 rfl rfl ?_
  refine pe_callVi dX5_mendAsset_2 oX_X5_hasAsset lk_RX5_67 (sp_hasAsset h) (pl_k h) rfl rfl (Nat.le_of_ble_eq_true rfl) (by decide) ?_
  refine pw_ifB_eq (tgt := 17) dX5_mendAsset_5 (by decide) (fun c_5 => (has_not hA ha (by omega) c_5).elim) (fun c_5 => ?_)
  refine pw_aload_n dX5_mendAsset_8 rfl rfl ?_
  refine pw_getR (x := (p + 1)) dX5_mendAsset_9 fd_RX5_11 (by decide) (pl_k h) rfl (pl_rA h) ?_
  refine pw_iload_n dX5_mendAsset_12 rfl rfl ?_
  refine pw_aaldN (j := a) (x := (p + 5 + a)) dX5_mendAsset_13 (pl_kA h) (by omega) (by decide) (by decide) (pl_eA h (by omega)) ?_
  refine pe_callVv dX5_mendAsset_14 oX_X0_mend lk_RX5_159 (sp_mend (pl_oA h (by omega))) (pl_oA h (by omega)) rfl rfl (Nat.le_of_ble_eq_true rfl) (by decide) ?_
  exact pw_vret dX5_mendAsset_17 rfl ⟨rfl, rfl, rfl, rfl⟩

set_option maxRecDepth 4000 in
theorem sp_runAssets {σ : pT} {I : pI} {F : pF} {p nA : Nat} (h : isPl σ p) (hA : I p 4 = nI nA) (hA8 : nA ≤ 8)  : PE yX5_runAssets cX5_runAssets mX5_runAssets [.ref p] σ I F none I (runAF I p nA F) := by
  refine PE.of oP_X5_runAssets (catOK rfl) (Nat.le_of_ble_eq_true rfl) ?_
  show PW _ _ _ 0 [.ref p, pJ] [] _ _ _ _
  have L2 : ∀ k, k ≤ nA → PW cX5_runAssets mX5_runAssets (fM (qE none σ I (runAF I p nA F))) 2 [.ref p, .int (nI k)] [] σ I (runAF I p k F) (0, 0) := by
    refine dn (fun k => PW cX5_runAssets mX5_runAssets (fM (qE none σ I (runAF I p nA F))) 2 [.ref p, .int (nI k)] [] σ I (runAF I p k F) (0, 0)) nA ?_ ?_
    · skip
      refine pw_iload_n dX5_runAssets_2 rfl rfl ?_
      refine pw_aload_n dX5_runAssets_3 rfl rfl ?_
      refine pw_getI dX5_runAssets_4 fd_RX5_33 (by decide) (pl_k h) rfl ?_
      refine pw_icmp_ge (tgt := 37) dX5_runAssets_7 (by decide) (fun c_7 => ?_) (fun c_7 => absurd (k_ge hA) c_7)
      exact pw_vret dX5_runAssets_37 rfl ⟨rfl, rfl, rfl, rfl⟩
    · intro k hk ih
      refine pw_iload_n dX5_runAssets_2 rfl rfl ?_
      refine pw_aload_n dX5_runAssets_3 rfl rfl ?_
      refine pw_getI dX5_runAssets_4 fd_RX5_33 (by decide) (pl_k h) rfl ?_
      refine pw_icmp_ge (tgt := 37) dX5_runAssets_7 (by decide) (fun c_7 => absurd c_7 (k_lt hA hk (by omega))) (fun c_7 => ?_)
      refine pw_aload_n dX5_runAssets_10 rfl rfl ?_
      refine pw_getR (x := (p + 1)) dX5_runAssets_11 fd_RX5_11 (by decide) (pl_k h) rfl (pl_rA h) ?_
      refine pw_iload_n dX5_runAssets_14 rfl rfl ?_
      refine pw_aaldN (j := k) (x := (p + 5 + k)) dX5_runAssets_15 (pl_kA h) (by omega) (by decide) (by decide) (pl_eA h (by omega)) ?_
      refine pw_getI dX5_runAssets_16 fd_RX5_94 (by decide) (pl_oA h (by omega)) rfl ?_
      refine pw_if_eq (tgt := 31) dX5_runAssets_19 (by decide) (fun c_19 => ?_) (fun c_19 => ?_)
      · refine pw_iinc (v := nI (k + 1)) dX5_runAssets_31 rfl (nI_add _ _) rfl ?_
        refine pw_goto (tgt := 2) dX5_runAssets_34 (by decide) ?_
        rw [runAF_f c_19] at ih
        exact ih
      · refine pw_aload_n dX5_runAssets_22 rfl rfl ?_
        refine pw_getR (x := (p + 1)) dX5_runAssets_23 fd_RX5_11 (by decide) (pl_k h) rfl (pl_rA h) ?_
        refine pw_iload_n dX5_runAssets_26 rfl rfl ?_
        refine pw_aaldN (j := k) (x := (p + 5 + k)) dX5_runAssets_27 (pl_kA h) (by omega) (by decide) (by decide) (pl_eA h (by omega)) ?_
        refine pe_callVv dX5_runAssets_28 oX_X0_runForAnHour lk_RX5_152 (sp_runForAnHour (pl_oA h (by omega))) (pl_oA h (by omega)) rfl rfl (Nat.le_of_ble_eq_true rfl) (by decide) ?_
        refine pw_iinc (v := nI (k + 1)) dX5_runAssets_31 rfl (nI_add _ _) rfl ?_
        refine pw_goto (tgt := 2) dX5_runAssets_34 (by decide) ?_
        rw [runAF_t c_19] at ih
        exact ih
  refine pw_iconst (v := 0) dX5_runAssets_0 (by decide) ?_
  refine pw_istore_n dX5_runAssets_1 rfl (by decide) rfl ?_
  exact L2 0 (Nat.zero_le _)

set_option maxRecDepth 4000 in
theorem sp_workOnTasks {σ : pT} {I : pI} {F : pF} {p nA n : Nat} (h : isPl σ p) (hn : I p 6 = nI n) (hn4 : n ≤ 24) (hA : I p 4 = nI nA) (hA8 : nA ≤ 8) (hW : ∀ t, t < n → ∃ a, a < nA ∧ I (p + 18 + t) 0 = nI a)  : PE yX5_workOnTasks cX5_workOnTasks mX5_workOnTasks [.ref p] σ I F (some (.int (nI (wkN p n I F).2.2))) (wkN p n I F).1 (wkN p n I F).2.1 := by
  refine PE.of oP_X5_workOnTasks (catOK rfl) (Nat.le_of_ble_eq_true rfl) ?_
  show PW _ _ _ 0 [.ref p, pJ, pJ, pJ] [] _ _ _ _
  have L4 : ∀ k, k ≤ n → ∀ w : Value, PW cX5_workOnTasks mX5_workOnTasks (fM (qE (some (.int (nI (wkN p n I F).2.2))) σ (wkN p n I F).1 (wkN p n I F).2.1)) 4 [.ref p, .int (nI (wkN p k I F).2.2), .int (nI k), w] [] σ (wkN p k I F).1 (wkN p k I F).2.1 (0, 0) := by
    refine dn (fun k => ∀ w : Value, PW cX5_workOnTasks mX5_workOnTasks (fM (qE (some (.int (nI (wkN p n I F).2.2))) σ (wkN p n I F).1 (wkN p n I F).2.1)) 4 [.ref p, .int (nI (wkN p k I F).2.2), .int (nI k), w] [] σ (wkN p k I F).1 (wkN p k I F).2.1 (0, 0)) n ?_ ?_
    · intro w
      refine pw_iload_n dX5_workOnTasks_4 rfl rfl ?_
      refine pw_aload_n dX5_workOnTasks_5 rfl rfl ?_
      refine pw_getI dX5_workOnTasks_6 fd_RX5_40 (by decide) (pl_k h) rfl ?_
      refine pw_icmp_ge (tgt := 66) dX5_workOnTasks_9 (by decide) (fun c_9 => ?_) (fun c_9 => absurd (k_ge ((wkN_fr n (by omega)).trans hn)) c_9)
      refine pw_iload_n dX5_workOnTasks_66 rfl rfl ?_
      exact pw_iret dX5_workOnTasks_67 rfl ⟨rfl, rfl, rfl, rfl⟩
    · intro k hk ih
      intro w
      have hn1 : (wkN p k I F).1 p 6 = nI n := (wkN_fr k (by omega)).trans hn
      have hA1 : (wkN p k I F).1 p 4 = nI nA := (wkN_fr k (by omega)).trans hA
      obtain ⟨a1, ha1, hat0⟩ := hW k hk
      have hat1 : (wkN p k I F).1 (p + 18 + k) 0 = nI a1 := (wkN_fr k (by omega)).trans hat0
      rw [show wkN p (k + 1) I F = wk1 p k (wkN p k I F) from rfl] at ih
      revert ih hn1 hA1 hat1
      generalize wkN p k I F = W
      obtain ⟨I1, F1, c1⟩ := W
      intro ih hn1 hA1 hat1
      dsimp only at ih hn1 hA1 hat1 ⊢
      refine pw_iload_n dX5_workOnTasks_4 rfl rfl ?_
      refine pw_aload_n dX5_workOnTasks_5 rfl rfl ?_
      refine pw_getI dX5_workOnTasks_6 fd_RX5_40 (by decide) (pl_k h) rfl ?_
      refine pw_icmp_ge (tgt := 66) dX5_workOnTasks_9 (by decide) (fun c_9 => absurd c_9 (k_lt hn1 hk (by omega))) (fun c_9 => ?_)
      refine pw_aload_n dX5_workOnTasks_12 rfl rfl ?_
      refine pw_getR (x := (p + 3)) dX5_workOnTasks_13 fd_RX5_25 (by decide) (pl_k h) rfl (pl_rT h) ?_
      refine pw_iload_n dX5_workOnTasks_16 rfl rfl ?_
      refine pw_aaldN (j := k) (x := (p + 18 + k)) dX5_workOnTasks_17 (pl_kT h) (by omega) (by decide) (by decide) (pl_eT h (by omega)) ?_
      refine pw_astore_n dX5_workOnTasks_18 rfl (by decide) rfl ?_
      refine pw_aload_n dX5_workOnTasks_19 rfl rfl ?_
      refine pw_getI dX5_workOnTasks_20 fd_RX5_108 (by decide) (pl_oT h (by omega)) rfl ?_
      refine pw_iconst (v := 2) dX5_workOnTasks_23 (by decide) ?_
      refine pw_icmp_ne (tgt := 60) dX5_workOnTasks_24 (by decide) (fun c_24 => ?_) (fun c_24 => ?_)
      · refine pw_iinc (v := nI (k + 1)) dX5_workOnTasks_60 rfl (nI_add _ _) rfl ?_
        refine pw_goto (tgt := 4) dX5_workOnTasks_63 (by decide) ?_
        rw [wk1_n c_24] at ih
        exact ih _
      · refine pw_aload_n dX5_workOnTasks_27 rfl rfl ?_
        refine pw_dup dX5_workOnTasks_28 rfl ?_
        refine pw_getI dX5_workOnTasks_29 fd_RX5_133 (by decide) (pl_oT h (by omega)) rfl ?_
        refine pw_iconst (v := 1) dX5_workOnTasks_32 (by decide) ?_
        refine pw_isub dX5_workOnTasks_33 ?_
        refine pw_putI dX5_workOnTasks_34 fd_RX5_133 (by decide) rfl ⟨rfl, rfl, rfl⟩ (pl_oT h (by omega)) ?_
        refine pw_aload_n dX5_workOnTasks_37 rfl rfl ?_
        refine pw_getI dX5_workOnTasks_38 fd_RX5_133 (by decide) (pl_oT h (by omega)) rfl ?_
        refine pw_if_gt (tgt := 60) dX5_workOnTasks_41 (by decide) (fun c_41 => ?_) (fun c_41 => ?_)
        · rw [up2_s] at c_41
          refine pw_iinc (v := nI (k + 1)) dX5_workOnTasks_60 rfl (nI_add _ _) rfl ?_
          refine pw_goto (tgt := 4) dX5_workOnTasks_63 (by decide) ?_
          rw [wk1_a c_24 c_41] at ih
          exact ih _
        · rw [up2_s] at c_41
          refine pw_aload_n dX5_workOnTasks_44 rfl rfl ?_
          refine pw_iconst (v := 3) dX5_workOnTasks_45 (by decide) ?_
          refine pw_putI dX5_workOnTasks_46 fd_RX5_108 (by decide) rfl ⟨rfl, rfl, rfl⟩ (pl_oT h (by omega)) ?_
          refine pw_iinc (v := nI (c1 + 1)) dX5_workOnTasks_49 rfl (nI_add _ _) rfl ?_
          refine pw_aload_n dX5_workOnTasks_52 rfl rfl ?_
          refine pw_aload_n dX5_workOnTasks_53 rfl rfl ?_
          refine pw_getI dX5_workOnTasks_54 fd_RX5_111 (by decide) (pl_oT h (by omega)) rfl ?_
          rw [up2_nj (by decide), up2_nj (by decide), hat1]
          refine pe_callVv dX5_workOnTasks_57 oX_X5_mendAsset lk_RX5_155 (sp_mendAsset (a := a1) h (nA := nA) ((up2_ni (by omega)).trans ((up2_ni (by omega)).trans hA1)) hA8 ha1) (pl_k h) rfl rfl (Nat.le_of_ble_eq_true rfl) (by decide) ?_
          refine pw_iinc (v := nI (k + 1)) dX5_workOnTasks_60 rfl (nI_add _ _) rfl ?_
          refine pw_goto (tgt := 4) dX5_workOnTasks_63 (by decide) ?_
          rw [wk1_b c_24 c_41 hat1 (by omega)] at ih
          exact ih _
  refine pw_iconst (v := 0) dX5_workOnTasks_0 (by decide) ?_
  refine pw_istore_n dX5_workOnTasks_1 rfl (by decide) rfl ?_
  refine pw_iconst (v := 0) dX5_workOnTasks_2 (by decide) ?_
  refine pw_istore_n dX5_workOnTasks_3 rfl (by decide) rfl ?_
  exact L4 0 (Nat.zero_le _) _

set_option maxRecDepth 4000 in
theorem sp_slipTasks {σ : pT} {I : pI} {F : pF} {p n : Nat} (h : isPl σ p) (hn : I p 6 = nI n) (hn4 : n ≤ 24)  : PE yX5_slipTasks cX5_slipTasks mX5_slipTasks [.ref p] σ I F none (slN p n I) F := by
  refine PE.of oP_X5_slipTasks (catOK rfl) (Nat.le_of_ble_eq_true rfl) ?_
  show PW _ _ _ 0 [.ref p, pJ, pJ] [] _ _ _ _
  have L2 : ∀ k, k ≤ n → ∀ w : Value, PW cX5_slipTasks mX5_slipTasks (fM (qE none σ (slN p n I) F)) 2 [.ref p, .int (nI k), w] [] σ (slN p k I) F (0, 0) := by
    refine dn (fun k => ∀ w : Value, PW cX5_slipTasks mX5_slipTasks (fM (qE none σ (slN p n I) F)) 2 [.ref p, .int (nI k), w] [] σ (slN p k I) F (0, 0)) n ?_ ?_
    · intro w
      refine pw_iload_n dX5_slipTasks_2 rfl rfl ?_
      refine pw_aload_n dX5_slipTasks_3 rfl rfl ?_
      refine pw_getI dX5_slipTasks_4 fd_RX5_40 (by decide) (pl_k h) rfl ?_
      refine pw_icmp_ge (tgt := 47) dX5_slipTasks_7 (by decide) (fun c_7 => ?_) (fun c_7 => absurd (k_ge ((slN_fr n (by omega)).trans hn)) c_7)
      exact pw_vret dX5_slipTasks_47 rfl ⟨rfl, rfl, rfl, rfl⟩
    · intro k hk ih
      intro w
      have hn1 : slN p k I p 6 = nI n := (slN_fr k (by omega)).trans hn
      rw [show slN p (k + 1) I = sl1 p k (slN p k I) from rfl] at ih
      revert ih hn1
      generalize slN p k I = I1
      intro ih hn1
      refine pw_iload_n dX5_slipTasks_2 rfl rfl ?_
      refine pw_aload_n dX5_slipTasks_3 rfl rfl ?_
      refine pw_getI dX5_slipTasks_4 fd_RX5_40 (by decide) (pl_k h) rfl ?_
      refine pw_icmp_ge (tgt := 47) dX5_slipTasks_7 (by decide) (fun c_7 => absurd c_7 (k_lt hn1 hk (by omega))) (fun c_7 => ?_)
      refine pw_aload_n dX5_slipTasks_10 rfl rfl ?_
      refine pw_getR (x := (p + 3)) dX5_slipTasks_11 fd_RX5_25 (by decide) (pl_k h) rfl (pl_rT h) ?_
      refine pw_iload_n dX5_slipTasks_14 rfl rfl ?_
      refine pw_aaldN (j := k) (x := (p + 18 + k)) dX5_slipTasks_15 (pl_kT h) (by omega) (by decide) (by decide) (pl_eT h (by omega)) ?_
      refine pw_astore_n dX5_slipTasks_16 rfl (by decide) rfl ?_
      refine pw_aload_n dX5_slipTasks_17 rfl rfl ?_
      refine pw_iconst (v := 0) dX5_slipTasks_18 (by decide) ?_
      refine pw_iconst (v := 1) dX5_slipTasks_19 (by decide) ?_
      refine pe_callVi dX5_slipTasks_20 oX_X6_isIn lk_RX5_162 (sp_T_isIn (pl_oT h (by omega))) (pl_oT h (by omega)) rfl rfl (Nat.le_of_ble_eq_true rfl) (by decide) ?_
      refine pw_ifB_eq (tgt := 41) dX5_slipTasks_23 (by decide) (fun c_23 => ?_) (fun c_23 => ?_)
      · refine pw_iinc (v := nI (k + 1)) dX5_slipTasks_41 rfl (nI_add _ _) rfl ?_
        refine pw_goto (tgt := 2) dX5_slipTasks_44 (by decide) ?_
        rw [sl1, if_neg (fun z => of_decide_eq_false c_23 z.1)] at ih
        exact ih _
      · refine pw_aload_n dX5_slipTasks_26 rfl rfl ?_
        refine pw_aload_n dX5_slipTasks_27 rfl rfl ?_
        refine pw_getI dX5_slipTasks_28 fd_RX5_43 (by decide) (pl_k h) rfl ?_
        refine pe_callVi dX5_slipTasks_31 oX_X6_isTooLateAt lk_RX5_165 (sp_T_isTooLateAt (pl_oT h (by omega))) (pl_oT h (by omega)) rfl rfl (Nat.le_of_ble_eq_true rfl) (by decide) ?_
        refine pw_ifB_eq (tgt := 41) dX5_slipTasks_34 (by decide) (fun c_34 => ?_) (fun c_34 => ?_)
        · refine pw_iinc (v := nI (k + 1)) dX5_slipTasks_41 rfl (nI_add _ _) rfl ?_
          refine pw_goto (tgt := 2) dX5_slipTasks_44 (by decide) ?_
          rw [sl1, if_neg (fun z => of_decide_eq_false c_34 z.2)] at ih
          exact ih _
        · refine pw_aload_n dX5_slipTasks_37 rfl rfl ?_
          refine pe_callVv dX5_slipTasks_38 oX_X6_slip lk_RX5_168 (sp_T_slip (pl_oT h (by omega))) (pl_oT h (by omega)) rfl rfl (Nat.le_of_ble_eq_true rfl) (by decide) ?_
          refine pw_iinc (v := nI (k + 1)) dX5_slipTasks_41 rfl (nI_add _ _) rfl ?_
          refine pw_goto (tgt := 2) dX5_slipTasks_44 (by decide) ?_
          rw [sl1, if_pos ⟨of_decide_eq_true c_23, of_decide_eq_true c_34⟩] at ih
          exact ih _
  refine pw_iconst (v := 0) dX5_slipTasks_0 (by decide) ?_
  refine pw_istore_n dX5_slipTasks_1 rfl (by decide) rfl ?_
  exact L2 0 (Nat.zero_le _) _

