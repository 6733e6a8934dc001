set_option maxRecDepth 4000 in
theorem sp_x_type {σ : pT} {I : pI} {F : pF} {x l : Nat} {c : Int32} (h : isTW σ x) (hl : I (x + 297) 1 = nI l) (hl6 : l ≤ 60) : PE yX7_type cX7_type mX7_type [.ref x, .int c] σ I F (some (.int (appR I F (x + 297) l c).1)) (appR I F (x + 297) l c).2.1 (appR I F (x + 297) l c).2.2 := by
  refine PE.of oP_X7_type (catOK rfl) (Nat.le_of_ble_eq_true rfl) ?_
  show PW _ _ _ 0 [.ref x, .int c] [] _ _ _ _
  refine pw_aload_n dX7_type_0 rfl rfl ?_
  refine pw_getR (x := (x + 297)) dX7_type_1 fd_RX7_36 (by decide) (tw_k h) rfl (tw_r5 h) ?_
  refine pw_iload_n dX7_type_4 rfl rfl ?_
  refine pe_callVi dX7_type_5 oX_X4_append lk_RX7_87 (sp_append (tw_or h) hl hl6) (or_k (tw_or h)) rfl rfl (Nat.le_of_ble_eq_true rfl) (by decide) ?_
  exact pw_iret dX7_type_8 rfl ⟨rfl, rfl, rfl, rfl⟩

set_option maxRecDepth 4000 in
theorem sp_x_clearText {σ : pT} {I : pI} {F : pF} {x : Nat} (h : isTW σ x)  : PE yX7_clearText cX7_clearText mX7_clearText [.ref x] σ I F (some (.int (I (x + 297) 1))) (up2 I (x + 297) 1 0) F := by
  refine PE.of oP_X7_clearText (catOK rfl) (Nat.le_of_ble_eq_true rfl) ?_
  show PW _ _ _ 0 [.ref x] [] _ _ _ _
  refine pw_aload_n dX7_clearText_0 rfl rfl ?_
  refine pw_getR (x := (x + 297)) dX7_clearText_1 fd_RX7_36 (by decide) (tw_k h) rfl (tw_r5 h) ?_
  refine pe_callVi dX7_clearText_4 oX_X4_clear lk_RX7_91 (sp_clear (tw_or h)) (or_k (tw_or h)) rfl rfl (Nat.le_of_ble_eq_true rfl) (by decide) ?_
  exact pw_iret dX7_clearText_7 rfl ⟨rfl, rfl, rfl, rfl⟩

set_option maxRecDepth 4000 in
theorem sp_x_undo {σ : pT} {I : pI} {F : pF} {x o z : Nat} (h : isTW σ x) (ho : I (x + 127) 1 = nI o) (ho4 : o < 4) (hz : I (x + 127) 2 = nI z) (hz4 : z ≤ 4) (hb : ∀ i, i < 4 → ∀ a, a < 8 → I (x + 127 + 2 + 42 * i + 5 + a) 4 = 0 ∨ I (x + 127 + 2 + 42 * i + 5 + a) 4 = 1) : PR yX7_undo cX7_undo mX7_undo [.ref x] σ I F fun v I' F' => (z = 0 ∧ v = some (.int (-5)) ∧ I' = I ∧ F' = F) ∨ (0 < z ∧ v = some (.int (nI (z - 1))) ∧ Cpy (x + 1) (x + 127 + 2 + 42 * ((o + (z - 1)) % 4)) (up2 I (x + 127) 2 (nI (z - 1))) F I' F') := by
  refine PR.of oP_X7_undo (catOK rfl) (Nat.le_of_ble_eq_true rfl) ?_
  show PW _ _ _ 0 [.ref x] [] _ _ _ _
  refine pw_aload_n dX7_undo_0 rfl rfl ?_
  refine pw_getR (x := (x + 127)) dX7_undo_1 fd_RX7_29 (by decide) (tw_k h) rfl (tw_r4 h) ?_
  refine pw_aload_n dX7_undo_4 rfl rfl ?_
  refine pw_getR (x := (x + 1)) dX7_undo_5 fd_RX7_10 (by decide) (tw_k h) rfl (tw_r0 h) ?_
  refine pr_callV dX7_undo_8 oX_X2_takeBack lk_RX7_110 (sp_takeBack (tw_hi h) (tw_now h) (by omega) ho ho4 hz hz4 hb) (hi_k (tw_hi h)) rfl rfl (Nat.le_of_ble_eq_true rfl) (by decide) (fun v I1 F1 hq => ?_)
  rcases hq with ⟨hz0, rfl, rfl, rfl⟩ | ⟨hz0, rfl, hc⟩
  · exact pw_iret dX7_undo_11 rfl ⟨rfl, Or.inl ⟨hz0, rfl, rfl, rfl⟩⟩
  exact pw_iret dX7_undo_11 rfl ⟨rfl, Or.inr ⟨hz0, rfl, hc⟩⟩

set_option maxRecDepth 4000 in
theorem sp_x_keep {σ : pT} {I : pI} {F : pF} {x : Nat} (h : isTW σ x) (hb : ∀ a, a < 8 → I (x + 1 + 5 + a) 4 = 0 ∨ I (x + 1 + 5 + a) 4 = 1) : PR yX7_keep cX7_keep mX7_keep [.ref x] σ I F fun v I' F' => v = some (.int (I (x + 1) 7)) ∧ ∃ I1, Cpy (x + 85) (x + 1) I F I1 F' ∧ I' = up2 I1 x 3 1 := by
  refine PR.of oP_X7_keep (catOK rfl) (Nat.le_of_ble_eq_true rfl) ?_
  show PW _ _ _ 0 [.ref x] [] _ _ _ _
  refine pw_aload_n dX7_keep_0 rfl rfl ?_
  refine pw_getR (x := (x + 85)) dX7_keep_1 fd_RX7_19 (by decide) (tw_k h) rfl (tw_r2 h) ?_
  refine pw_aload_n dX7_keep_4 rfl rfl ?_
  refine pw_getR (x := (x + 1)) dX7_keep_5 fd_RX7_10 (by decide) (tw_k h) rfl (tw_r0 h) ?_
  refine pr_callV dX7_keep_8 oX_X5_copyFrom lk_RX7_40 (sp_copyFrom (tw_kept h) (tw_now h) (by omega) hb) (pl_k (tw_kept h)) rfl rfl (Nat.le_of_ble_eq_true rfl) (by decide) (fun v I1 F1 hq => ?_)
  obtain ⟨rfl, hc⟩ := hq
  refine pw_aload_n dX7_keep_11 rfl rfl ?_
  refine pw_iconst (v := 1) dX7_keep_12 (by decide) ?_
  refine pw_putI dX7_keep_13 fd_RX7_22 (by decide) rfl ⟨by decide, by decide, rfl⟩ (tw_k h) ?_
  refine pw_aload_n dX7_keep_16 rfl rfl ?_
  refine pw_getR (x := (x + 1)) dX7_keep_17 fd_RX7_10 (by decide) (tw_k h) rfl (tw_r0 h) ?_
  refine pw_getI dX7_keep_20 fd_RX7_114 (by decide) (pl_k (tw_now h)) rfl ?_
  rw [up2_ni (by omega), congrFun (Cpy_fr hc (by omega)).1 7]
  exact pw_iret dX7_keep_23 rfl ⟨rfl, rfl, I1, hc, rfl⟩

set_option maxRecDepth 4000 in
theorem sp_x_restore {σ : pT} {I : pI} {F : pF} {x o z : Nat} (h : isTW σ x) (ho : I (x + 127) 1 = nI o) (ho4 : o < 4) (hz : I (x + 127) 2 = nI z) (hz4 : z ≤ 4) (hb : ∀ a, a < 8 → I (x + 1 + 5 + a) 4 = 0 ∨ I (x + 1 + 5 + a) 4 = 1) (hbk : ∀ a, a < 8 → I (x + 85 + 5 + a) 4 = 0 ∨ I (x + 85 + 5 + a) 4 = 1) : PR yX7_restore cX7_restore mX7_restore [.ref x] σ I F fun v I' F' => (I x 3 = 0 ∧ v = some (.int (-5)) ∧ I' = I ∧ F' = F) ∨ (¬ I x 3 = 0 ∧ ∃ I1 F1 I2 F2, Cpy (x + 43) (x + 1) I F I1 F1 ∧ Cpy (x + 1) (x + 85) I1 F1 I2 F2 ∧ recQ x o z (I2 (x + 1) 7) I2 F2 v I' F') := by
  refine PR.of oP_X7_restore (catOK rfl) (Nat.le_of_ble_eq_true rfl) ?_
  show PW _ _ _ 0 [.ref x] [] _ _ _ _
  refine pw_aload_n dX7_restore_0 rfl rfl ?_
  refine pw_getI dX7_restore_1 fd_RX7_22 (by decide) (tw_k h) rfl ?_
  refine pw_if_ne (tgt := 10) dX7_restore_4 (by decide) (fun c_4 => ?_) (fun c_4 => ?_)
  · refine pw_aload_n dX7_restore_10 rfl rfl ?_
    refine pw_getR (x := (x + 43)) dX7_restore_11 fd_RX7_16 (by decide) (tw_k h) rfl (tw_r1 h) ?_
    refine pw_aload_n dX7_restore_14 rfl rfl ?_
    refine pw_getR (x := (x + 1)) dX7_restore_15 fd_RX7_10 (by decide) (tw_k h) rfl (tw_r0 h) ?_
    refine pr_callV dX7_restore_18 oX_X5_copyFrom lk_RX7_40 (sp_copyFrom (tw_bef h) (tw_now h) (by omega) hb) (pl_k (tw_bef h)) rfl rfl (Nat.le_of_ble_eq_true rfl) (by decide) (fun v I1 F1 hq => ?_)
    obtain ⟨rfl, hc⟩ := hq
    refine pw_aload_n dX7_restore_21 rfl rfl ?_
    refine pw_getR (x := (x + 1)) dX7_restore_22 fd_RX7_10 (by decide) (tw_k h) rfl (tw_r0 h) ?_
    refine pw_aload_n dX7_restore_25 rfl rfl ?_
    refine pw_getR (x := (x + 85)) dX7_restore_26 fd_RX7_19 (by decide) (tw_k h) rfl (tw_r2 h) ?_
    refine pr_callV dX7_restore_29 oX_X5_copyFrom lk_RX7_40 (sp_copyFrom (tw_now h) (tw_kept h) (by omega) (fun a ha => by rw [congrFun (Cpy_fr hc (by omega)).1 4]; exact hbk a ha)) (pl_k (tw_now h)) rfl rfl (Nat.le_of_ble_eq_true rfl) (by decide) (fun v I2 F2 hq => ?_)
    obtain ⟨rfl, hc2⟩ := hq
    refine pw_aload_n dX7_restore_32 rfl rfl ?_
    refine pw_aload_n dX7_restore_33 rfl rfl ?_
    refine pw_getR (x := (x + 1)) dX7_restore_34 fd_RX7_10 (by decide) (tw_k h) rfl (tw_r0 h) ?_
    refine pw_getI dX7_restore_37 fd_RX7_114 (by decide) (pl_k (tw_now h)) rfl ?_
    refine pr_callV dX7_restore_40 oX_X7_recorded lk_RX7_48 (sp_recorded h ((congrFun (Cpy_fr hc2 (by omega)).1 1).trans ((congrFun (Cpy_fr hc (by omega)).1 1).trans ho)) ho4 ((congrFun (Cpy_fr hc2 (by omega)).1 2).trans ((congrFun (Cpy_fr hc (by omega)).1 2).trans hz)) hz4 (fun a ha => by rw [congrFun (Cpy_fr hc2 (by omega)).1 4, (hc.1.2.1 a ha).2.1]; exact hb a ha)) (tw_k h) rfl rfl (Nat.le_of_ble_eq_true rfl) (by decide) (fun v I3 F3 hq => ?_)
    have hv := hq.1
    subst hv
    exact pw_iret dX7_restore_43 rfl ⟨rfl, Or.inr ⟨c_4, I1, F1, I2, F2, hc, hc2, hq⟩⟩
  · refine pw_bipush (v := (-5)) dX7_restore_7 (by decide) ?_
    exact pw_iret dX7_restore_9 rfl ⟨rfl, Or.inl ⟨c_4, rfl, rfl, rfl⟩⟩

/-! orders followed -/
def folR (I : pI) (F : pF) (p nA n : Nat) (o : Int32 × Int32 × Int32) : Int32 × pI × pF :=
  if o.1 = 104 then hangR I F p n o.2.1 o.2.2
  else if o.1 = 108 then liftR I F p n o.2.1 o.2.2
  else if o.1 = 98 then beginR I F p n o.2.1
  else if o.1 = 114 then startR I F p nA n o.2.1
  else if o.1 = 115 then stopR I F p nA o.2.1
  else passR I F p nA n o.2.1
def folL (p nA n : Nat) : List (Int32 × Int32 × Int32) → pI → pF → Option Int32 × pI × pF
  | [], I, F => (none, I, F)
  | o :: L, I, F => if (folR I F p nA n o).1 < 0 ∧ ¬ (folR I F p nA n o).1 = -5 then (some (folR I F p nA n o).1, (folR I F p nA n o).2.1, (folR I F p nA n o).2.2) else folL p nA n L (folR I F p nA n o).2.1 (folR I F p nA n o).2.2
/-- a plant's counts, its tasks' assets and kinds, whether its assets run -/
def pOK (p : Nat) (I : pI) (nA nC n : Nat) : Prop := I p 4 = nI nA ∧ nA ≤ 8 ∧ I p 5 = nI nC ∧ nC ≤ 5 ∧ I p 6 = nI n ∧ n ≤ 24 ∧ (∀ t, t < n → ∃ a, a < nA ∧ I (p + 18 + t) 0 = nI a) ∧ (∀ t, t < n → ∃ k, k < 5 ∧ I (p + 18 + t) 3 = nI k) ∧ (∀ a, a < 8 → I (p + 5 + a) 4 = 0 ∨ I (p + 5 + a) 4 = 1)
theorem pOK_of {x : Nat} {I : pI} {nA nC n o z : Nat} (h : cOK x I nA nC n o z) : pOK (x + 1) I nA nC n := by
  obtain ⟨h1, h2, h3, h4, h5, h6, h7, h8, h9, h10⟩ := h
  exact ⟨h1, h2, h3, h4, h5, h6, h7, h8, h9⟩
theorem pOK_eq {p : Nat} {I I' : pI} {nA nC n : Nat} (h : pOK p I nA nC n) (h1 : ∀ j, j ≠ 7 → I' p j = I p j) (h2 : ∀ t, I' (p + 18 + t) 0 = I (p + 18 + t) 0 ∧ I' (p + 18 + t) 3 = I (p + 18 + t) 3) (h3 : ∀ a, a < 8 → I' (p + 5 + a) 4 = I (p + 5 + a) 4 ∨ I' (p + 5 + a) 4 = 0 ∨ I' (p + 5 + a) 4 = 1) : pOK p I' nA nC n := by
  obtain ⟨g1, g2, g3, g4, g5, g6, g7, g8, g9⟩ := h
  refine ⟨(h1 4 (by decide)).trans g1, g2, (h1 5 (by decide)).trans g3, g4, (h1 6 (by decide)).trans g5, g6, fun t ht => ?_, fun t ht => ?_, fun a ha => ?_⟩
  · rw [(h2 t).1]; exact g7 t ht
  · rw [(h2 t).2]; exact g8 t ht
  · rcases h3 a ha with h | h
    · rw [h]; exact g9 a ha
    · exact h
theorem pOK_task {p q k : Nat} {x : Int32} {I I0 : pI} {nA nC n : Nat} (h : pOK p I nA nC n) (hq : p + 18 ≤ q) (hk : k ≠ 0 ∧ k ≠ 3) : pOK p (up2 I q k x) nA nC n :=
  pOK_eq h (fun j _ => up2_ni (by omega)) (fun t => ⟨up2_n (by omega), up2_n (by omega)⟩) (fun a _ => Or.inl (up2_ni (by omega)))
theorem pk_fol {p : Nat} {I : pI} {F : pF} {nA nC n : Nat} {o : Int32 × Int32 × Int32} (h : pOK p I nA nC n) : pOK p (folR I F p nA n o).2.1 nA nC n ∧ lcl p I (folR I F p nA n o).2.1 ∧ lcl p F (folR I F p nA n o).2.2 := by
  obtain ⟨hA, hA8, hC, hC5, hn, hn4, hW, hK, hb⟩ := id h
  unfold folR
  split
  · refine ⟨?_, lc_hang hn hn4⟩
    unfold hangR
    split
    · split
      · exact pOK_task (I0 := I) (pOK_task (I0 := I) (pOK_task (I0 := I) h (by omega) (by decide)) (by omega) (by decide)) (by omega) (by decide)
      · exact h
    · exact h
  split
  · refine ⟨?_, lc_lift hn hn4⟩
    unfold liftR
    split
    · split
      · show pOK p (liftI _ _ _) nA nC n
        unfold liftI
        split
        · exact pOK_task (I0 := I) h (by omega) (by decide)
        · exact pOK_task (I0 := I) (pOK_task (I0 := I) h (by omega) (by decide)) (by omega) (by decide)
      · exact h
    · exact h
  split
  · refine ⟨?_, lc_begin hn hn4⟩
    unfold beginR
    split
    · split
      · exact pOK_task (I0 := I) (pOK_task (I0 := I) h (by omega) (by decide)) (by omega) (by decide)
      · exact h
    · exact h
  split
  · refine ⟨?_, lc_start hA hA8⟩
    unfold startR
    split
    · rename_i h9
      have h1 := tn_lt h9 hA (by omega)
      split
      · split
        · exact pOK_eq h (fun j _ => up2_ni (by omega)) (fun t => ⟨up2_ni (by omega), up2_ni (by omega)⟩) (fun a _ => by
            by_cases ha : a = o.2.1.toNatClampNeg
            · subst ha
              exact Or.inr (Or.inr up2_s)
            · exact Or.inl (up2_ni (by omega)))
        · exact h
      · exact h
    · exact h
  split
  · refine ⟨?_, lc_stop hA hA8⟩
    unfold stopR
    split
    · rename_i h9
      have h1 := tn_lt h9 hA (by omega)
      split
      · exact h
      · exact pOK_eq h (fun j _ => up2_ni (by omega)) (fun t => ⟨up2_ni (by omega), up2_ni (by omega)⟩) (fun a _ => by
            by_cases ha : a = o.2.1.toNatClampNeg
            · subst ha
              exact Or.inr (Or.inl up2_s)
            · exact Or.inl (up2_ni (by omega)))
    · exact h
  · refine ⟨?_, lc_pass hn4 hW hA8⟩
    unfold passR
    split
    · split
      · exact pOK_eq h (fun j hj => psN_fr (by omega) _) (fun t => ⟨psN_fr (by omega) _, psN_fr (by omega) _⟩) (fun a _ => Or.inl (psN_fr (by omega) _))
      · exact h
    · exact h

set_option maxRecDepth 4000 in
theorem sp_follow {σ : pT} {I : pI} {F : pF} {x r nA nC n : Nat} {o : Int32 × Int32 × Int32} (h : isTW σ x) (hk : pOK (x + 1) I nA nC n) (hr : (σ.2.1 r).1 = 3 + 1) (hm : rowM I r o) : PE yX7_follow cX7_follow mX7_follow [.ref x, .ref r] σ I F (some (.int (folR I F (x + 1) nA n o).1)) (folR I F (x + 1) nA n o).2.1 (folR I F (x + 1) nA n o).2.2 := by
  obtain ⟨hA, hA8, hC, hC5, hn, hn4, hW, hKd, hb⟩ := hk
  refine PE.of oP_X7_follow (catOK rfl) (Nat.le_of_ble_eq_true rfl) ?_
  show PW _ _ _ 0 [.ref x, .ref r] [] _ _ _ _
  refine pw_aload_n dX7_follow_0 rfl rfl ?_
  refine pw_getI dX7_follow_1 fd_RX7_268 (by decide) hr rfl ?_
  rw [hm.1]
  refine pw_bipush (v := 104) dX7_follow_4 (by decide) ?_
  refine pw_icmp_ne (tgt := 25) dX7_follow_6 (by decide) (fun c_6 => ?_) (fun c_6 => ?_)
  · refine pw_aload_n dX7_follow_25 rfl rfl ?_
    refine pw_getI dX7_follow_26 fd_RX7_268 (by decide) hr rfl ?_
    rw [hm.1]
    refine pw_bipush (v := 108) dX7_follow_29 (by decide) ?_
    refine pw_icmp_ne (tgt := 50) dX7_follow_31 (by decide) (fun c_31 => ?_) (fun c_31 => ?_)
    · refine pw_aload_n dX7_follow_50 rfl rfl ?_
      refine pw_getI dX7_follow_51 fd_RX7_268 (by decide) hr rfl ?_
      rw [hm.1]
      refine pw_bipush (v := 98) dX7_follow_54 (by decide) ?_
      refine pw_icmp_ne (tgt := 71) dX7_follow_56 (by decide) (fun c_56 => ?_) (fun c_56 => ?_)
      · refine pw_aload_n dX7_follow_71 rfl rfl ?_
        refine pw_getI dX7_follow_72 fd_RX7_268 (by decide) hr rfl ?_
        rw [hm.1]
        refine pw_bipush (v := 114) dX7_follow_75 (by decide) ?_
        refine pw_icmp_ne (tgt := 92) dX7_follow_77 (by decide) (fun c_77 => ?_) (fun c_77 => ?_)
        · refine pw_aload_n dX7_follow_92 rfl rfl ?_
          refine pw_getI dX7_follow_93 fd_RX7_268 (by decide) hr rfl ?_
          rw [hm.1]
          refine pw_bipush (v := 115) dX7_follow_96 (by decide) ?_
          refine pw_icmp_ne (tgt := 113) dX7_follow_98 (by decide) (fun c_98 => ?_) (fun c_98 => ?_)
          · refine pw_aload_n dX7_follow_113 rfl rfl ?_
            refine pw_getR (x := (x + 1)) dX7_follow_114 fd_RX7_10 (by decide) (tw_k h) rfl (tw_r0 h) ?_
            refine pw_aload_n dX7_follow_117 rfl rfl ?_
            refine pw_getI dX7_follow_118 fd_RX7_274 (by decide) hr rfl ?_
            rw [hm.2.1]
            refine pe_callVi dX7_follow_121 oX_X5_passHours lk_RX7_84 (sp_passHours (tw_now h) hn hn4 hA hA8 hW) (pl_k (tw_now h)) rfl rfl (Nat.le_of_ble_eq_true rfl) (by decide) ?_
            exact pw_iret dX7_follow_124 rfl (by rw [folR, if_neg c_6, if_neg c_31, if_neg c_56, if_neg c_77, if_neg c_98]; exact ⟨rfl, rfl, rfl, rfl⟩)
          · refine pw_aload_n dX7_follow_101 rfl rfl ?_
            refine pw_getR (x := (x + 1)) dX7_follow_102 fd_RX7_10 (by decide) (tw_k h) rfl (tw_r0 h) ?_
            refine pw_aload_n dX7_follow_105 rfl rfl ?_
            refine pw_getI dX7_follow_106 fd_RX7_274 (by decide) hr rfl ?_
            rw [hm.2.1]
            refine pe_callVi dX7_follow_109 oX_X5_stopAsset lk_RX7_69 (sp_stopAsset (tw_now h) hA hA8) (pl_k (tw_now h)) rfl rfl (Nat.le_of_ble_eq_true rfl) (by decide) ?_
            exact pw_iret dX7_follow_112 rfl (by rw [folR, if_neg c_6, if_neg c_31, if_neg c_56, if_neg c_77, if_pos c_98]; exact ⟨rfl, rfl, rfl, rfl⟩)
        · refine pw_aload_n dX7_follow_80 rfl rfl ?_
          refine pw_getR (x := (x + 1)) dX7_follow_81 fd_RX7_10 (by decide) (tw_k h) rfl (tw_r0 h) ?_
          refine pw_aload_n dX7_follow_84 rfl rfl ?_
          refine pw_getI dX7_follow_85 fd_RX7_274 (by decide) hr rfl ?_
          rw [hm.2.1]
          refine pe_callVi dX7_follow_88 oX_X5_startAsset lk_RX7_66 (sp_startAsset (tw_now h) hn hn4 hA hA8) (pl_k (tw_now h)) rfl rfl (Nat.le_of_ble_eq_true rfl) (by decide) ?_
          exact pw_iret dX7_follow_91 rfl (by rw [folR, if_neg c_6, if_neg c_31, if_neg c_56, if_pos c_77]; exact ⟨rfl, rfl, rfl, rfl⟩)
      · refine pw_aload_n dX7_follow_59 rfl rfl ?_
        refine pw_getR (x := (x + 1)) dX7_follow_60 fd_RX7_10 (by decide) (tw_k h) rfl (tw_r0 h) ?_
        refine pw_aload_n dX7_follow_63 rfl rfl ?_
        refine pw_getI dX7_follow_64 fd_RX7_274 (by decide) hr rfl ?_
        rw [hm.2.1]
        refine pe_callVi dX7_follow_67 oX_X5_beginTask lk_RX7_75 (sp_beginTask (tw_now h) hn hn4 hA hA8 hW hKd) (pl_k (tw_now h)) rfl rfl (Nat.le_of_ble_eq_true rfl) (by decide) ?_
        exact pw_iret dX7_follow_70 rfl (by rw [folR, if_neg c_6, if_neg c_31, if_pos c_56]; exact ⟨rfl, rfl, rfl, rfl⟩)
    · refine pw_aload_n dX7_follow_34 rfl rfl ?_
      refine pw_getR (x := (x + 1)) dX7_follow_35 fd_RX7_10 (by decide) (tw_k h) rfl (tw_r0 h) ?_
      refine pw_aload_n dX7_follow_38 rfl rfl ?_
      refine pw_getI dX7_follow_39 fd_RX7_274 (by decide) hr rfl ?_
      rw [hm.2.1]
      refine pw_aload_n dX7_follow_42 rfl rfl ?_
      refine pw_getI dX7_follow_43 fd_RX7_277 (by decide) hr rfl ?_
      rw [hm.2.2 (Or.inr (hm.1.trans c_31))]
      refine pe_callVi dX7_follow_46 oX_X5_liftTag lk_RX7_78 (sp_liftTag (nA := nA) (tw_now h) hn hn4 hC hC5) (pl_k (tw_now h)) rfl rfl (Nat.le_of_ble_eq_true rfl) (by decide) ?_
      exact pw_iret dX7_follow_49 rfl (by rw [folR, if_neg c_6, if_pos c_31]; exact ⟨rfl, rfl, rfl, rfl⟩)
  · refine pw_aload_n dX7_follow_9 rfl rfl ?_
    refine pw_getR (x := (x + 1)) dX7_follow_10 fd_RX7_10 (by decide) (tw_k h) rfl (tw_r0 h) ?_
    refine pw_aload_n dX7_follow_13 rfl rfl ?_
    refine pw_getI dX7_follow_14 fd_RX7_274 (by decide) hr rfl ?_
    rw [hm.2.1]
    refine pw_aload_n dX7_follow_17 rfl rfl ?_
    refine pw_getI dX7_follow_18 fd_RX7_277 (by decide) hr rfl ?_
    rw [hm.2.2 (Or.inl (hm.1.trans c_6))]
    refine pe_callVi dX7_follow_21 oX_X5_hangTag lk_RX7_72 (sp_hangTag (tw_now h) hn hn4 hA hA8 hC hC5 hW) (pl_k (tw_now h)) rfl rfl (Nat.le_of_ble_eq_true rfl) (by decide) ?_
    exact pw_iret dX7_follow_24 rfl (by rw [folR, if_pos c_6]; exact ⟨rfl, rfl, rfl, rfl⟩)

def perQ (x l nA n o z : Nat) (I : pI) (F : pF) (v : Option Value) (I' : pI) (F' : pF) : Prop :=
  (∃ y, (rdV (I (x + 298)) l 20 0).2 = some y ∧ v = some (.int (-100 - nI y)) ∧ F' = F ∧ frR (x + 297) I I') ∨
  ((rdV (I (x + 298)) l 20 0).2 = none ∧ ∃ I0 I1 F1, frR (x + 297) I I0 ∧ Cpy (x + 43) (x + 1) I0 F I1 F1 ∧
    ((∃ e, (folL (x + 1) nA n (rdV (I (x + 298)) l 20 0).1 I1 F1).1 = some e ∧ v = some (.int e) ∧ Cpy (x + 1) (x + 43) (folL (x + 1) nA n (rdV (I (x + 298)) l 20 0).1 I1 F1).2.1 (folL (x + 1) nA n (rdV (I (x + 298)) l 20 0).1 I1 F1).2.2 I' F') ∨
     ((folL (x + 1) nA n (rdV (I (x + 298)) l 20 0).1 I1 F1).1 = none ∧ recQ x o z (nI (rdV (I (x + 298)) l 20 0).1.length) (folL (x + 1) nA n (rdV (I (x + 298)) l 20 0).1 I1 F1).2.1 (folL (x + 1) nA n (rdV (I (x + 298)) l 20 0).1 I1 F1).2.2 v I' F')))
theorem fol_t {p nA n : Nat} {o : Int32 × Int32 × Int32} {L : List (Int32 × Int32 × Int32)} {I : pI} {F : pF} (h : (folR I F p nA n o).1 < 0) (h2 : ¬ (folR I F p nA n o).1 = -5) : folL p nA n (o :: L) I F = (some (folR I F p nA n o).1, (folR I F p nA n o).2.1, (folR I F p nA n o).2.2) := by rw [folL, if_pos ⟨h, h2⟩]
theorem fol_f {p nA n : Nat} {o : Int32 × Int32 × Int32} {L : List (Int32 × Int32 × Int32)} {I : pI} {F : pF} (h : ¬ ((folR I F p nA n o).1 < 0 ∧ ¬ (folR I F p nA n o).1 = -5)) : folL p nA n (o :: L) I F = folL p nA n L (folR I F p nA n o).2.1 (folR I F p nA n o).2.2 := by rw [folL, if_neg h]

theorem nI_m1 {y : Nat} (hy : y ≤ 60) : ¬ nI y = -1 := by
  intro h
  have h1 := congrArg Int32.toInt h
  rw [nI_toInt (by omega)] at h1
  have h2 : (-1 : Int32).toInt = -1 := by decide
  rw [h2] at h1
  omega
theorem rd_z {x : Nat → Int32} {l : Nat} (hl : l ≤ 60) : ∀ (n a y : Nat), a ≤ 60 → (rdV x l n a).2 = some y → y ≤ 60
  | 0, a, y, ha, h => by
    cases h
    exact ha
  | n + 1, a, y, ha, h => by
    have ho := ord_le (x := x) hl ha
    unfold rdV at h
    split at h
    · split at h
      · cases h
      · split at h
        · rename_i h3
          have := sgn_lt h3
          exact rd_z hl n _ y (by omega) h
        · cases h
          exact ho
    · cases h
      exact ho
theorem cOK_fr' {x : Nat} {I I1 : pI} {nA nC n o z : Nat} (h : cOK x I nA nC n o z) (hf : frR (x + 297) I I1) : cOK x I1 nA nC n o z := by
  obtain ⟨h1, h2, h3, h4, h5, h6, h7, h8, h9, h10, h11, h12, h13⟩ := h
  refine ⟨(hf _ _ (by omega) (by omega)).trans h1, h2, (hf _ _ (by omega) (by omega)).trans h3, h4, (hf _ _ (by omega) (by omega)).trans h5, h6, fun t ht => ?_, fun t ht => ?_, fun a ha => ?_, (hf _ _ (by omega) (by omega)).trans h10, h11, (hf _ _ (by omega) (by omega)).trans h12, h13⟩
  · rw [hf _ _ (by omega) (by omega)]; exact h7 t ht
  · rw [hf _ _ (by omega) (by omega)]; exact h8 t ht
  · rw [hf _ _ (by omega) (by omega)]; exact h9 a ha

set_option maxRecDepth 4000 in
theorem sp_x_perform {σ : pT} {I : pI} {F : pF} {x l nA nC n o z : Nat} (h : isTW σ x) (hk : cOK x I nA nC n o z) (hl : I (x + 297) 1 = nI l) (hl6 : l ≤ 60) (hch : ∀ k, k < l → narrow .char (.int (I (x + 297 + 1) k)) = .int (I (x + 297 + 1) k) ∧ fits .char (.int (I (x + 297 + 1) k)) = true) : PR yX7_perform cX7_perform mX7_perform [.ref x] σ I F (perQ x l nA n o z I F) := by
  refine PR.of oP_X7_perform (catOK rfl) (Nat.le_of_ble_eq_true rfl) ?_
  show PW _ _ _ 0 [.ref x, pJ, pJ, pJ] [] _ _ _ _
  refine pw_aload_n dX7_perform_0 rfl rfl ?_
  refine pw_getR (x := (x + 297)) dX7_perform_1 fd_RX7_36 (by decide) (tw_k h) rfl (tw_r5 h) ?_
  refine pr_callV dX7_perform_4 oX_X4_read lk_RX7_95 (sp_read (tw_or h) hl hl6 hch) (or_k (tw_or h)) rfl rfl (Nat.le_of_ble_eq_true rfl) (by decide) (fun v I0 F0 hq => ?_)
  obtain ⟨hF0, hf, hq1, hq2⟩ := hq
  rw [hF0]
  rcases hrd : (rdV (I (x + 297 + 1)) l 20 0).2 with _ | y
  · obtain ⟨rfl, h3, hm⟩ := hq2 hrd
    have hb0 : ∀ a, a < 8 → I0 (x + 1 + 5 + a) 4 = 0 ∨ I0 (x + 1 + 5 + a) 4 = 1 := (cOK_fr' hk hf).2.2.2.2.2.2.2.2.1
    show PW _ _ _ _ _ [.int (-1)] _ _ _ _
    refine pw_istore_n dX7_perform_7 rfl (by decide) rfl ?_
    refine pw_iload_n dX7_perform_8 rfl rfl ?_
    refine pw_iconst (v := (-1)) dX7_perform_9 (by decide) ?_
    refine pw_icmp_eq (tgt := 18) dX7_perform_10 (by decide) (fun c_10 => ?_) (fun c_10 => absurd rfl c_10)
    refine pw_aload_n dX7_perform_18 rfl rfl ?_
    refine pw_getR (x := (x + 43)) dX7_perform_19 fd_RX7_16 (by decide) (tw_k h) rfl (tw_r1 h) ?_
    refine pw_aload_n dX7_perform_22 rfl rfl ?_
    refine pw_getR (x := (x + 1)) dX7_perform_23 fd_RX7_10 (by decide) (tw_k h) rfl (tw_r0 h) ?_
    refine pr_callV dX7_perform_26 oX_X5_copyFrom lk_RX7_40 (sp_copyFrom (tw_bef h) (tw_now h) (by omega) hb0) (pl_k (tw_bef h)) rfl rfl (Nat.le_of_ble_eq_true rfl) (by decide) (fun v I1 F1 hq => ?_)
    obtain ⟨rfl, hc⟩ := hq
    have hx7 : (x + 297 + 1) = x + 298 := by omega
    rw [hx7] at hrd hm h3
    have hkk := cOK_fr (cOK_fr' hk hf) (fun i hi => (Cpy_fr hc (by omega)).1)
    have hpk := pOK_of hkk
    obtain ⟨-, -, -, -, -, -, -, -, -, ho, ho4, hz, hz4⟩ := hkk
    have hcnt : I1 (x + 297) 3 = nI (rdV (I (x + 298)) l 20 0).1.length := (congrFun (Cpy_fr hc (i := x + 297) (by omega)).1 3).trans h3
    have hm1 : rowsM I1 (x + 297) (rdV (I (x + 298)) l 20 0).1 := fun i w hi => rowM_eq (Cpy_fr hc (by omega)).1 (hm i w hi)
    have hlen : (rdV (I (x + 298)) l 20 0).1.length ≤ 20 := rd_len 20 0
    have bef2 : ∀ I9 : pI, lcl (x + 1) I1 I9 → ∀ a, a < 8 → I9 (x + 43 + 5 + a) 4 = 0 ∨ I9 (x + 43 + 5 + a) 4 = 1 := fun I9 h9 => bef_b hc hb0 h9
    have L31 : ∀ k9, k9 ≤ (rdV (I (x + 298)) l 20 0).1.length → ∀ (I2 : pI) (F2 : pF) (w : Value), pOK (x + 1) I2 nA nC n → lcl (x + 1) I1 I2 → folL (x + 1) nA n (rdV (I (x + 298)) l 20 0).1 I1 F1 = folL (x + 1) nA n ((rdV (I (x + 298)) l 20 0).1.drop k9) I2 F2 → PW cX7_perform mX7_perform (fM (qR σ (perQ x l nA n o z I F))) 31 [.ref x, .int (-1), .int (nI k9), w] [] σ I2 F2 (0, 0) := by
      refine dn (fun k9 => ∀ (I2 : pI) (F2 : pF) (w : Value), pOK (x + 1) I2 nA nC n → lcl (x + 1) I1 I2 → folL (x + 1) nA n (rdV (I (x + 298)) l 20 0).1 I1 F1 = folL (x + 1) nA n ((rdV (I (x + 298)) l 20 0).1.drop k9) I2 F2 → PW cX7_perform mX7_perform (fM (qR σ (perQ x l nA n o z I F))) 31 [.ref x, .int (-1), .int (nI k9), w] [] σ I2 F2 (0, 0)) (rdV (I (x + 298)) l 20 0).1.length ?_ ?_
      · intro I2 F2 w hpk2 hl2 hx
        refine pw_iload_n dX7_perform_31 rfl rfl ?_
        refine pw_aload_n dX7_perform_32 rfl rfl ?_
        refine pw_getR (x := (x + 297)) dX7_perform_33 fd_RX7_36 (by decide) (tw_k h) rfl (tw_r5 h) ?_
        refine pw_getI dX7_perform_36 fd_RX7_98 (by decide) (or_k (tw_or h)) rfl ?_
        rw [congrFun (hl2 _ (by omega)) 3, hcnt]
        refine pw_icmp_ge (tgt := 97) dX7_perform_39 (by decide) (fun c_39 => ?_) (fun c_39 => absurd (Int32.le_refl _) c_39)
        refine pw_aload_n dX7_perform_97 rfl rfl ?_
        refine pw_aload_n dX7_perform_98 rfl rfl ?_
        refine pw_getR (x := (x + 297)) dX7_perform_99 fd_RX7_36 (by decide) (tw_k h) rfl (tw_r5 h) ?_
        refine pw_getI dX7_perform_102 fd_RX7_98 (by decide) (or_k (tw_or h)) rfl ?_
        rw [congrFun (hl2 _ (by omega)) 3, hcnt]
        refine pr_callV dX7_perform_105 oX_X7_recorded lk_RX7_48 (sp_recorded h ((congrFun (hl2 _ (by omega)) 1).trans ho) ho4 ((congrFun (hl2 _ (by omega)) 2).trans hz) hz4 (bef2 _ hl2)) (tw_k h) rfl rfl (Nat.le_of_ble_eq_true rfl) (by decide) (fun v I3 F3 hq => ?_)
        have hv := hq.1
        subst hv
        exact pw_iret dX7_perform_108 rfl ⟨rfl, Or.inr ⟨hrd, I0, I1, F1, hf, hc, Or.inr ⟨by rw [hx, List.drop_length]; rfl, by rw [hx, List.drop_length]; exact hq⟩⟩⟩
      · intro k9 hk9 ih I2 F2 w hpk2 hl2 hx
        obtain ⟨w9, hw9⟩ : ∃ w9, (rdV (I (x + 298)) l 20 0).1[k9]? = some w9 := ⟨_, List.getElem?_eq_getElem hk9⟩
        have hdrop : (rdV (I (x + 298)) l 20 0).1.drop k9 = w9 :: (rdV (I (x + 298)) l 20 0).1.drop (k9 + 1) := by
          have h8 := List.getElem?_eq_some_iff.mp hw9
          rw [← h8.2]
          exact List.drop_eq_getElem_cons h8.1
        have hrow : rowM I2 (x + 297 + 3 + k9) w9 := rowM_eq (hl2 _ (by omega)) (hm1 k9 w9 hw9)
        have hpf := pk_fol (F := F2) (o := w9) hpk2
        have hlf := hpf.2.1
        refine pw_iload_n dX7_perform_31 rfl rfl ?_
        refine pw_aload_n dX7_perform_32 rfl rfl ?_
        refine pw_getR (x := (x + 297)) dX7_perform_33 fd_RX7_36 (by decide) (tw_k h) rfl (tw_r5 h) ?_
        refine pw_getI dX7_perform_36 fd_RX7_98 (by decide) (or_k (tw_or h)) rfl ?_
        rw [congrFun (hl2 _ (by omega)) 3, hcnt]
        refine pw_icmp_ge (tgt := 97) dX7_perform_39 (by decide) (fun c_39 => absurd c_39 (nI_ge hk9 (by omega))) (fun c_39 => ?_)
        refine pw_iload_n dX7_perform_42 rfl rfl ?_
        refine pw_aload_n dX7_perform_43 rfl rfl ?_
        refine pw_getR (x := (x + 297)) dX7_perform_44 fd_RX7_36 (by decide) (tw_k h) rfl (tw_r5 h) ?_
        refine pw_getR (x := ((x + 297) + 2)) dX7_perform_47 fd_RX7_102 (by decide) (or_k (tw_or h)) rfl (or_rr (tw_or h)) ?_
        refine pw_alenR dX7_perform_50 (or_kr (tw_or h)) (by decide) ?_
        refine pw_icmp_ge (tgt := 97) dX7_perform_51 (by decide) (fun c_51 => absurd c_51 (nI_ge (b := 20) (by omega) (by decide))) (fun c_51 => ?_)
        refine pw_aload_n dX7_perform_54 rfl rfl ?_
        refine pw_aload_n dX7_perform_55 rfl rfl ?_
        refine pw_getR (x := (x + 297)) dX7_perform_56 fd_RX7_36 (by decide) (tw_k h) rfl (tw_r5 h) ?_
        refine pw_getR (x := ((x + 297) + 2)) dX7_perform_59 fd_RX7_102 (by decide) (or_k (tw_or h)) rfl (or_rr (tw_or h)) ?_
        refine pw_iload_n dX7_perform_62 rfl rfl ?_
        refine pw_aaldN (j := k9) (x := ((x + 297) + 3 + k9)) dX7_perform_63 (or_kr (tw_or h)) (by omega) (by decide) (by decide) (or_eo (tw_or h) (by omega)) ?_
        refine pe_callVi dX7_perform_64 oX_X7_follow lk_RX7_106 (sp_follow h hpk2 (or_oo (tw_or h) (by omega)) hrow) (tw_k h) rfl rfl (Nat.le_of_ble_eq_true rfl) (by decide) ?_
        refine pw_istore_n dX7_perform_67 rfl (by decide) rfl ?_
        refine pw_iload_n dX7_perform_68 rfl rfl ?_
        refine pw_if_ge (tgt := 91) dX7_perform_69 (by decide) (fun c_69 => ?_) (fun c_69 => ?_)
        · refine pw_iinc (v := nI (k9 + 1)) dX7_perform_91 rfl (nI_add _ _) rfl ?_
          refine pw_goto (tgt := 31) dX7_perform_94 (by decide) ?_
          exact ih _ _ _ hpf.1 (fun i hi => (hlf i hi).trans (hl2 i hi)) (by rw [hx, hdrop, fol_f (fun z9 => i_nlt z9.1 c_69)])
        · refine pw_iload_n dX7_perform_72 rfl rfl ?_
          refine pw_bipush (v := (-5)) dX7_perform_73 (by decide) ?_
          refine pw_icmp_eq (tgt := 91) dX7_perform_75 (by decide) (fun c_75 => ?_) (fun c_75 => ?_)
          · refine pw_iinc (v := nI (k9 + 1)) dX7_perform_91 rfl (nI_add _ _) rfl ?_
            refine pw_goto (tgt := 31) dX7_perform_94 (by decide) ?_
            exact ih _ _ _ hpf.1 (fun i hi => (hlf i hi).trans (hl2 i hi)) (by rw [hx, hdrop, fol_f (fun z9 => z9.2 c_75)])
          · refine pw_aload_n dX7_perform_78 rfl rfl ?_
            refine pw_getR (x := (x + 1)) dX7_perform_79 fd_RX7_10 (by decide) (tw_k h) rfl (tw_r0 h) ?_
            refine pw_aload_n dX7_perform_82 rfl rfl ?_
            refine pw_getR (x := (x + 43)) dX7_perform_83 fd_RX7_16 (by decide) (tw_k h) rfl (tw_r1 h) ?_
            refine pr_callV dX7_perform_86 oX_X5_copyFrom lk_RX7_40 (sp_copyFrom (tw_now h) (tw_bef h) (by omega) (bef2 _ (fun i hi => (hlf i hi).trans (hl2 i hi)))) (pl_k (tw_now h)) rfl rfl (Nat.le_of_ble_eq_true rfl) (by decide) (fun v I3 F3 hq => ?_)
            obtain ⟨rfl, hc3⟩ := hq
            refine pw_iload_n dX7_perform_89 rfl rfl ?_
            exact pw_iret dX7_perform_90 rfl ⟨rfl, Or.inr ⟨hrd, I0, I1, F1, hf, hc, Or.inl ⟨_, by rw [hx, hdrop, fol_t (i_lt c_69) c_75], rfl, by rw [hx, hdrop, fol_t (i_lt c_69) c_75]; exact hc3⟩⟩⟩
    refine pw_iconst (v := 0) dX7_perform_29 (by decide) ?_
    refine pw_istore_n dX7_perform_30 rfl (by decide) rfl ?_
    exact L31 0 (Nat.zero_le _) _ _ _ hpk lcl_0 (by rw [List.drop_zero])
  have hv := hq1 y hrd
  subst hv
  refine pw_istore_n dX7_perform_7 rfl (by decide) rfl ?_
  refine pw_iload_n dX7_perform_8 rfl rfl ?_
  refine pw_iconst (v := (-1)) dX7_perform_9 (by decide) ?_
  refine pw_icmp_eq (tgt := 18) dX7_perform_10 (by decide) (fun c_10 => ?_) (fun c_10 => ?_)
  · exact absurd c_10 (nI_m1 (rd_z hl6 20 0 y (by omega) hrd))
  · refine pw_bipush (v := (-100)) dX7_perform_13 (by decide) ?_
    refine pw_iload_n dX7_perform_15 rfl rfl ?_
    refine pw_isub dX7_perform_16 ?_
    exact pw_iret dX7_perform_17 rfl ⟨rfl, Or.inl ⟨y, hrd, rfl, rfl, hf⟩⟩
