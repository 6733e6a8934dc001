/-! the history -/
theorem rem4 (a : Nat) (h : a < 2 ^ 31) : nI a - nI a / 4 * 4 = nI (a % 4) := pk_rem (d := 4) h (by decide) (by decide)
theorem Cpy_fr {p r : Nat} {I I' : pI} {F F' : pF} (h : Cpy p r I F I' F') {i : Nat} (hi : i < p ∨ p + 42 ≤ i) : I' i = I i ∧ F' i = F i := h.1.1 i hi

set_option maxRecDepth 4000 in
theorem sp_add {σ : pT} {I : pI} {F : pF} {q s o z : Nat} (h : isHi σ q) (hs : isPl σ s) (hd : s + 42 ≤ q) (ho : I q 1 = nI o) (ho4 : o < 4) (hz : I q 2 = nI z) (hz4 : z ≤ 4) (hb : ∀ a, a < 8 → I (s + 5 + a) 4 = 0 ∨ I (s + 5 + a) 4 = 1) : PR yX2_add cX2_add mX2_add [.ref q, .ref s] σ I F fun v I' F' => v = none ∧ ∃ I1, Cpy (q + 2 + 42 * ((o + z) % 4)) s I F I1 F' ∧ I' = (if z < 4 then up2 I1 q 2 (nI (z + 1)) else up2 I1 q 1 (nI ((o + 1) % 4))) := by
  refine PR.of oP_X2_add (catOK rfl) (Nat.le_of_ble_eq_true rfl) ?_
  show PW _ _ _ 0 [.ref q, .ref s] [] _ _ _ _
  refine pw_aload_n dX2_add_0 rfl rfl ?_
  refine pw_getR (x := (q + 1)) dX2_add_1 fd_RX2_11 (by decide) (hi_k h) rfl (hi_rs h) ?_
  refine pw_aload_n dX2_add_4 rfl rfl ?_
  refine pw_getI dX2_add_5 fd_RX2_17 (by decide) (hi_k h) rfl ?_
  rw [ho]
  refine pw_aload_n dX2_add_8 rfl rfl ?_
  refine pw_getI dX2_add_9 fd_RX2_21 (by decide) (hi_k h) rfl ?_
  rw [hz]
  refine pw_iadd dX2_add_12 ?_
  rw [nI_add]
  refine pw_iconst (v := 4) dX2_add_13 (by decide) ?_
  refine pw_irem dX2_add_14 (by decide) ?_
  rw [rem4 _ (by omega)]
  refine pw_aaldN (j := ((o + z) % 4)) (x := (q + 2 + 42 * ((o + z) % 4))) dX2_add_15 (hi_ks h) (by omega) (by decide) (by decide) (hi_ep h (by omega)) ?_
  refine pw_aload_n dX2_add_16 rfl rfl ?_
  refine pr_callV dX2_add_17 oX_X5_copyFrom lk_RX2_25 (sp_copyFrom (hi_op h (by omega)) hs (by omega) hb) (pl_k (hi_op h (by omega))) rfl rfl (Nat.le_of_ble_eq_true rfl) (by decide) (fun v I1 F1 hq => ?_)
  obtain ⟨rfl, hc⟩ := hq
  refine pw_aload_n dX2_add_20 rfl rfl ?_
  refine pw_getI dX2_add_21 fd_RX2_21 (by decide) (hi_k h) rfl ?_
  rw [(congrFun (Cpy_fr hc (i := q) (by omega)).1 2).trans hz]
  refine pw_iconst (v := 4) dX2_add_24 (by decide) ?_
  refine pw_icmp_ge (tgt := 41) dX2_add_25 (by decide) (fun c_25 => ?_) (fun c_25 => ?_)
  · have hzz : ¬ z < 4 := fun w => nI_ge (b := 4) w (by decide) c_25
    refine pw_aload_n dX2_add_41 rfl rfl ?_
    refine pw_aload_n dX2_add_42 rfl rfl ?_
    refine pw_getI dX2_add_43 fd_RX2_17 (by decide) (hi_k h) rfl ?_
    rw [(congrFun (Cpy_fr hc (i := q) (by omega)).1 1).trans ho]
    refine pw_iconst (v := 1) dX2_add_46 (by decide) ?_
    refine pw_iadd dX2_add_47 ?_
    rw [nI_1]
    refine pw_iconst (v := 4) dX2_add_48 (by decide) ?_
    refine pw_irem dX2_add_49 (by decide) ?_
    rw [rem4 _ (by omega)]
    refine pw_putI dX2_add_50 fd_RX2_17 (by decide) rfl ⟨rfl, rfl, rfl⟩ (hi_k h) ?_
    exact pw_vret dX2_add_53 rfl ⟨rfl, rfl, _, hc, by rw [if_neg hzz]⟩
  · have hzz : z < 4 := Nat.not_le.mp fun w => c_25 (nI_le (a := 4) w (by omega))
    refine pw_aload_n dX2_add_28 rfl rfl ?_
    refine pw_dup dX2_add_29 rfl ?_
    refine pw_getI dX2_add_30 fd_RX2_21 (by decide) (hi_k h) rfl ?_
    rw [(congrFun (Cpy_fr hc (i := q) (by omega)).1 2).trans hz]
    refine pw_iconst (v := 1) dX2_add_33 (by decide) ?_
    refine pw_iadd dX2_add_34 ?_
    rw [nI_1]
    refine pw_putI dX2_add_35 fd_RX2_21 (by decide) rfl ⟨rfl, rfl, rfl⟩ (hi_k h) ?_
    refine pw_goto (tgt := 53) dX2_add_38 (by decide) ?_
    exact pw_vret dX2_add_53 rfl ⟨rfl, rfl, _, hc, by rw [if_pos hzz]⟩

theorem pk_m1s {z : Nat} (h : 0 < z) : nI z - 1 = nI (z - 1) := by
  obtain ⟨k, rfl⟩ : ∃ k, z = k + 1 := ⟨z - 1, by omega⟩
  exact nI_pred k
set_option maxRecDepth 4000 in
theorem sp_takeBack {σ : pT} {I : pI} {F : pF} {q s o z : Nat} (h : isHi σ q) (hs : isPl σ s) (hd : s + 42 ≤ q) (ho : I q 1 = nI o) (ho4 : o < 4) (hz : I q 2 = nI z) (hz4 : z ≤ 4) (hb : ∀ i, i < 4 → ∀ a, a < 8 → I (q + 2 + 42 * i + 5 + a) 4 = 0 ∨ I (q + 2 + 42 * i + 5 + a) 4 = 1) : PR yX2_takeBack cX2_takeBack mX2_takeBack [.ref q, .ref s] σ I F fun v I' F' => (z = 0 ∧ v = some (.int (-5)) ∧ I' = I ∧ F' = F) ∨ (0 < z ∧ v = some (.int (nI (z - 1))) ∧ Cpy s (q + 2 + 42 * ((o + (z - 1)) % 4)) (up2 I q 2 (nI (z - 1))) F I' F') := by
  refine PR.of oP_X2_takeBack (catOK rfl) (Nat.le_of_ble_eq_true rfl) ?_
  show PW _ _ _ 0 [.ref q, .ref s] [] _ _ _ _
  refine pw_aload_n dX2_takeBack_0 rfl rfl ?_
  refine pw_getI dX2_takeBack_1 fd_RX2_21 (by decide) (hi_k h) rfl ?_
  rw [hz]
  refine pw_if_gt (tgt := 10) dX2_takeBack_4 (by decide) (fun c_4 => ?_) (fun c_4 => ?_)
  · have hz0 : 0 < z := Nat.pos_of_ne_zero (fun w => by subst w; exact absurd c_4 (by decide))
    refine pw_aload_n dX2_takeBack_10 rfl rfl ?_
    refine pw_dup dX2_takeBack_11 rfl ?_
    refine pw_getI dX2_takeBack_12 fd_RX2_21 (by decide) (hi_k h) rfl ?_
    rw [hz]
    refine pw_iconst (v := 1) dX2_takeBack_15 (by decide) ?_
    refine pw_isub dX2_takeBack_16 ?_
    rw [pk_m1s hz0]
    refine pw_putI dX2_takeBack_17 fd_RX2_21 (by decide) rfl ⟨rfl, rfl, rfl⟩ (hi_k h) ?_
    refine pw_aload_n dX2_takeBack_20 rfl rfl ?_
    refine pw_aload_n dX2_takeBack_21 rfl rfl ?_
    refine pw_getR (x := (q + 1)) dX2_takeBack_22 fd_RX2_11 (by decide) (hi_k h) rfl (hi_rs h) ?_
    refine pw_aload_n dX2_takeBack_25 rfl rfl ?_
    refine pw_getI dX2_takeBack_26 fd_RX2_17 (by decide) (hi_k h) rfl ?_
    rw [up2_nj (by decide), ho]
    refine pw_aload_n dX2_takeBack_29 rfl rfl ?_
    refine pw_getI dX2_takeBack_30 fd_RX2_21 (by decide) (hi_k h) rfl ?_
    rw [up2_s]
    refine pw_iadd dX2_takeBack_33 ?_
    rw [nI_add]
    refine pw_iconst (v := 4) dX2_takeBack_34 (by decide) ?_
    refine pw_irem dX2_takeBack_35 (by decide) ?_
    rw [rem4 _ (by omega)]
    refine pw_aaldN (j := ((o + (z - 1)) % 4)) (x := (q + 2 + 42 * ((o + (z - 1)) % 4))) dX2_takeBack_36 (hi_ks h) (by omega) (by decide) (by decide) (hi_ep h (by omega)) ?_
    refine pr_callV dX2_takeBack_37 oX_X5_copyFrom lk_RX2_25 (sp_copyFrom hs (hi_op h (by omega)) (by omega) (fun a ha => by rw [up2_ni (by omega)]; exact hb _ (by omega) a ha)) (pl_k hs) rfl rfl (Nat.le_of_ble_eq_true rfl) (by decide) (fun v I1 F1 hq => ?_)
    obtain ⟨rfl, hc⟩ := hq
    refine pw_aload_n dX2_takeBack_40 rfl rfl ?_
    refine pw_getI dX2_takeBack_41 fd_RX2_21 (by decide) (hi_k h) rfl ?_
    rw [(congrFun (Cpy_fr hc (i := q) (by omega)).1 2).trans up2_s]
    exact pw_iret dX2_takeBack_44 rfl ⟨rfl, Or.inr ⟨hz0, rfl, hc⟩⟩
  · have hz0 : z = 0 := Nat.eq_zero_of_not_pos (fun w => c_4 (nI_lt (a := 0) w (by omega)))
    refine pw_bipush (v := (-5)) dX2_takeBack_7 (by decide) ?_
    exact pw_iret dX2_takeBack_9 rfl ⟨rfl, Or.inl ⟨hz0, rfl, rfl, rfl⟩⟩

/-! the text -/
def appR (I : pI) (F : pF) (q l : Nat) (c : Int32) : Int32 × pI × pF := if l < 60 then (nI (l + 1), up2 (up2 I (q + 1) l (vp_nar .char c)) q 1 (nI (l + 1)), F) else (-3, I, F)
/-- a digit at place a -/
def digB (x : Nat → Int32) (l a : Nat) : Bool := decide (a < l) && (decide (48 ≤ x a) && decide (x a ≤ 57))
def sgnB (x : Nat → Int32) (l a : Nat) (g : Int32) : Bool := decide (a < l) && decide (x a = g)

set_option maxRecDepth 4000 in
theorem sp_append {σ : pT} {I : pI} {F : pF} {q l : Nat} {c : Int32} (h : isOr σ q) (hl : I q 1 = nI l) (hl6 : l ≤ 60)  : PE yX4_append cX4_append mX4_append [.ref q, .int c] σ I F (some (.int (appR I F q l c).1)) (appR I F q l c).2.1 (appR I F q l c).2.2 := by
  refine PE.of oP_X4_append (catOK rfl) (Nat.le_of_ble_eq_true rfl) ?_
  show PW _ _ _ 0 [.ref q, .int c] [] _ _ _ _
  refine pw_aload_n dX4_append_0 rfl rfl ?_
  refine pw_getI dX4_append_1 fd_RX4_15 (by decide) (or_k h) rfl ?_
  rw [hl]
  refine pw_aload_n dX4_append_4 rfl rfl ?_
  refine pw_getR (x := (q + 1)) dX4_append_5 fd_RX4_9 (by decide) (or_k h) rfl (or_rt h) ?_
  refine pw_alenC dX4_append_8 (or_kt h) ?_
  refine pw_icmp_lt (tgt := 15) dX4_append_9 (by decide) (fun c_9 => ?_) (fun c_9 => ?_)
  · have hlt : l < 60 := (nI_ltI (b := 60) (by omega) (by decide)).mp c_9
    refine pw_aload_n dX4_append_15 rfl rfl ?_
    refine pw_getR (x := (q + 1)) dX4_append_16 fd_RX4_9 (by decide) (or_k h) rfl (or_rt h) ?_
    refine pw_aload_n dX4_append_19 rfl rfl ?_
    refine pw_getI dX4_append_20 fd_RX4_15 (by decide) (or_k h) rfl ?_
    rw [hl]
    refine pw_iload_n dX4_append_23 rfl rfl ?_
    refine pw_castN (j := l) dX4_append_24 (or_kt h) (by omega) (by decide) ?_
    refine pw_aload_n dX4_append_25 rfl rfl ?_
    refine pw_dup dX4_append_26 rfl ?_
    refine pw_getI dX4_append_27 fd_RX4_15 (by decide) (or_k h) rfl ?_
    rw [up2_ni (by omega), hl]
    refine pw_iconst (v := 1) dX4_append_30 (by decide) ?_
    refine pw_iadd dX4_append_31 ?_
    rw [nI_1]
    refine pw_putI dX4_append_32 fd_RX4_15 (by decide) rfl ⟨rfl, rfl, rfl⟩ (or_k h) ?_
    refine pw_aload_n dX4_append_35 rfl rfl ?_
    refine pw_getI dX4_append_36 fd_RX4_15 (by decide) (or_k h) rfl ?_
    rw [up2_s]
    exact pw_iret dX4_append_39 rfl (rL (by rw [appR, if_pos hlt]))
  · have hge : ¬ l < 60 := fun z => c_9 (nI_lt (b := 60) z (by decide))
    refine pw_bipush (v := (-3)) dX4_append_12 (by decide) ?_
    exact pw_iret dX4_append_14 rfl (rL (by rw [appR, if_neg hge]))

set_option maxRecDepth 4000 in
theorem sp_clear {σ : pT} {I : pI} {F : pF} {q : Nat} (h : isOr σ q) : PE yX4_clear cX4_clear mX4_clear [.ref q] σ I F (some (.int (I q 1))) (up2 I q 1 0) F := by
  refine PE.of oP_X4_clear (catOK rfl) (Nat.le_of_ble_eq_true rfl) ?_
  show PW _ _ _ 0 [.ref q, pJ] [] _ _ _ _
  refine pw_aload_n dX4_clear_0 rfl rfl ?_
  refine pw_getI dX4_clear_1 fd_RX4_15 (by decide) (or_k h) rfl ?_
  refine pw_istore_n dX4_clear_4 rfl (by decide) rfl ?_
  refine pw_aload_n dX4_clear_5 rfl rfl ?_
  refine pw_iconst (v := 0) dX4_clear_6 (by decide) ?_
  refine pw_putI dX4_clear_7 fd_RX4_15 (by decide) rfl ⟨rfl, rfl, rfl⟩ (or_k h) ?_
  refine pw_iload_n dX4_clear_10 rfl rfl ?_
  exact pw_iret dX4_clear_11 rfl ⟨rfl, rfl, rfl, rfl⟩

set_option maxRecDepth 4000 in
theorem sp_isAtDigit {σ : pT} {I : pI} {F : pF} {q l a : Nat} (h : isOr σ q) (hl : I q 1 = nI l) (hl6 : l ≤ 60) (ha : I q 4 = nI a) (ha6 : a ≤ 60)  : PE yX4_isAtDigit cX4_isAtDigit mX4_isAtDigit [.ref q] σ I F (some (.int (bI (digB (I (q + 1)) l a)))) I F := by
  refine PE.of oP_X4_isAtDigit (catOK rfl) (Nat.le_of_ble_eq_true rfl) ?_
  show PW _ _ _ 0 [.ref q] [] _ _ _ _
  refine pw_aload_n dX4_isAtDigit_0 rfl rfl ?_
  refine pw_getI dX4_isAtDigit_1 fd_RX4_28 (by decide) (or_k h) rfl ?_
  rw [ha]
  refine pw_aload_n dX4_isAtDigit_4 rfl rfl ?_
  refine pw_getI dX4_isAtDigit_5 fd_RX4_15 (by decide) (or_k h) rfl ?_
  rw [hl]
  refine pw_icmp_ge (tgt := 55) dX4_isAtDigit_8 (by decide) (fun c_8 => ?_) (fun c_8 => ?_)
  · have h8 : ¬ a < l := fun z => nI_ge z (by omega) c_8
    refine pw_iconst (v := 0) dX4_isAtDigit_55 (by decide) ?_
    exact pw_zret dX4_isAtDigit_56 rfl (by first | rfl | decide) ⟨b_f (by simp [digB, h8, h8]), rfl, rfl, rfl⟩
  · have h8 : a < l := Nat.not_le.mp fun z => c_8 (nI_le z (by omega))
    refine pw_aload_n dX4_isAtDigit_11 rfl rfl ?_
    refine pw_getI dX4_isAtDigit_12 fd_RX4_28 (by decide) (or_k h) rfl ?_
    rw [ha]
    refine pw_aload_n dX4_isAtDigit_15 rfl rfl ?_
    refine pw_getR (x := (q + 1)) dX4_isAtDigit_16 fd_RX4_9 (by decide) (or_k h) rfl (or_rt h) ?_
    refine pw_alenC dX4_isAtDigit_19 (or_kt h) ?_
    refine pw_icmp_ge (tgt := 55) dX4_isAtDigit_20 (by decide) (fun c_20 => absurd c_20 (nI_ge (b := 60) (by omega) (by decide))) (fun c_20 => ?_)
    refine pw_aload_n dX4_isAtDigit_23 rfl rfl ?_
    refine pw_getR (x := (q + 1)) dX4_isAtDigit_24 fd_RX4_9 (by decide) (or_k h) rfl (or_rt h) ?_
    refine pw_aload_n dX4_isAtDigit_27 rfl rfl ?_
    refine pw_getI dX4_isAtDigit_28 fd_RX4_28 (by decide) (or_k h) rfl ?_
    rw [ha]
    refine pw_caldN (j := a) dX4_isAtDigit_31 (or_kt h) (by omega) (by decide) ?_
    refine pw_bipush (v := 48) dX4_isAtDigit_32 (by decide) ?_
    refine pw_icmp_lt (tgt := 55) dX4_isAtDigit_34 (by decide) (fun c_34 => ?_) (fun c_34 => ?_)
    · refine pw_iconst (v := 0) dX4_isAtDigit_55 (by decide) ?_
      exact pw_zret dX4_isAtDigit_56 rfl (by first | rfl | decide) ⟨b_f (by simp [digB, h8, i_nlt c_34]), rfl, rfl, rfl⟩
    · refine pw_aload_n dX4_isAtDigit_37 rfl rfl ?_
      refine pw_getR (x := (q + 1)) dX4_isAtDigit_38 fd_RX4_9 (by decide) (or_k h) rfl (or_rt h) ?_
      refine pw_aload_n dX4_isAtDigit_41 rfl rfl ?_
      refine pw_getI dX4_isAtDigit_42 fd_RX4_28 (by decide) (or_k h) rfl ?_
      rw [ha]
      refine pw_caldN (j := a) dX4_isAtDigit_45 (or_kt h) (by omega) (by decide) ?_
      refine pw_bipush (v := 57) dX4_isAtDigit_46 (by decide) ?_
      refine pw_icmp_gt (tgt := 55) dX4_isAtDigit_48 (by decide) (fun c_48 => ?_) (fun c_48 => ?_)
      · refine pw_iconst (v := 0) dX4_isAtDigit_55 (by decide) ?_
        exact pw_zret dX4_isAtDigit_56 rfl (by first | rfl | decide) ⟨b_f (by simp [digB, h8, c_34, i_le c_34, i_nlt c_48]), rfl, rfl, rfl⟩
      · refine pw_iconst (v := 1) dX4_isAtDigit_51 (by decide) ?_
        refine pw_goto (tgt := 56) dX4_isAtDigit_52 (by decide) ?_
        exact pw_zret dX4_isAtDigit_56 rfl (by first | rfl | decide) ⟨b_t (by simp [digB, h8, c_34, i_le c_34, c_48, i_le c_48]), rfl, rfl, rfl⟩

set_option maxRecDepth 4000 in
theorem sp_readDigit {σ : pT} {I : pI} {F : pF} {q l a : Nat} (h : isOr σ q) (ha : I q 4 = nI a) (ha6 : a < 60) : PE yX4_readDigit cX4_readDigit mX4_readDigit [.ref q] σ I F (some (.int (I (q + 1) a - 48))) (up2 I q 4 (nI (a + 1))) F := by
  refine PE.of oP_X4_readDigit (catOK rfl) (Nat.le_of_ble_eq_true rfl) ?_
  show PW _ _ _ 0 [.ref q] [] _ _ _ _
  refine pw_aload_n dX4_readDigit_0 rfl rfl ?_
  refine pw_getI dX4_readDigit_1 fd_RX4_28 (by decide) (or_k h) rfl ?_
  rw [ha]
  refine pw_aload_n dX4_readDigit_4 rfl rfl ?_
  refine pw_getR (x := (q + 1)) dX4_readDigit_5 fd_RX4_9 (by decide) (or_k h) rfl (or_rt h) ?_
  refine pw_alenC dX4_readDigit_8 (or_kt h) ?_
  refine pw_icmp_lt (tgt := 14) dX4_readDigit_9 (by decide) (fun c_9 => ?_) (fun c_9 => absurd (nI_lt (b := 60) (by omega) (by decide)) c_9)
  refine pw_aload_n dX4_readDigit_14 rfl rfl ?_
  refine pw_dup dX4_readDigit_15 rfl ?_
  refine pw_getI dX4_readDigit_16 fd_RX4_28 (by decide) (or_k h) rfl ?_
  rw [ha]
  refine pw_iconst (v := 1) dX4_readDigit_19 (by decide) ?_
  refine pw_iadd dX4_readDigit_20 ?_
  rw [nI_1]
  refine pw_putI dX4_readDigit_21 fd_RX4_28 (by decide) rfl ⟨rfl, rfl, rfl⟩ (or_k h) ?_
  refine pw_aload_n dX4_readDigit_24 rfl rfl ?_
  refine pw_getR (x := (q + 1)) dX4_readDigit_25 fd_RX4_9 (by decide) (or_k h) rfl (or_rt h) ?_
  refine pw_aload_n dX4_readDigit_28 rfl rfl ?_
  refine pw_getI dX4_readDigit_29 fd_RX4_28 (by decide) (or_k h) rfl ?_
  rw [up2_s]
  refine pw_iconst (v := 1) dX4_readDigit_32 (by decide) ?_
  refine pw_isub dX4_readDigit_33 ?_
  rw [nI_pred]
  refine pw_caldN (j := a) dX4_readDigit_34 (or_kt h) (by omega) (by decide) ?_
  rw [up2_ni (by omega)]
  refine pw_bipush (v := 48) dX4_readDigit_35 (by decide) ?_
  refine pw_isub dX4_readDigit_37 ?_
  exact pw_iret dX4_readDigit_38 rfl ⟨rfl, rfl, rfl, rfl⟩

set_option maxRecDepth 4000 in
theorem sp_readSign {σ : pT} {I : pI} {F : pF} {q l a : Nat} {g : Int32} (h : isOr σ q) (hl : I q 1 = nI l) (hl6 : l ≤ 60) (ha : I q 4 = nI a) (ha6 : a ≤ 60)  : PE yX4_readSign cX4_readSign mX4_readSign [.ref q, .int g] σ I F (some (.int (bI (sgnB (I (q + 1)) l a g)))) (if sgnB (I (q + 1)) l a g = true then up2 I q 4 (nI (a + 1)) else I) F := by
  refine PE.of oP_X4_readSign (catOK rfl) (Nat.le_of_ble_eq_true rfl) ?_
  show PW _ _ _ 0 [.ref q, .int g] [] _ _ _ _
  refine pw_aload_n dX4_readSign_0 rfl rfl ?_
  refine pw_getI dX4_readSign_1 fd_RX4_28 (by decide) (or_k h) rfl ?_
  rw [ha]
  refine pw_aload_n dX4_readSign_4 rfl rfl ?_
  refine pw_getI dX4_readSign_5 fd_RX4_15 (by decide) (or_k h) rfl ?_
  rw [hl]
  refine pw_icmp_ge (tgt := 36) dX4_readSign_8 (by decide) (fun c_8 => ?_) (fun c_8 => ?_)
  · have h8 : ¬ a < l := fun z => nI_ge z (by omega) c_8
    have hB : sgnB (I (q + 1)) l a g = false := by simp [sgnB, h8]
    refine pw_iconst (v := 0) dX4_readSign_36 (by decide) ?_
    exact pw_zret dX4_readSign_37 rfl (by first | rfl | decide) ⟨b_f hB, rfl, by rw [hB]; rfl, rfl⟩
  · have h8 : a < l := Nat.not_le.mp fun z => c_8 (nI_le z (by omega))
    refine pw_aload_n dX4_readSign_11 rfl rfl ?_
    refine pw_getI dX4_readSign_12 fd_RX4_28 (by decide) (or_k h) rfl ?_
    rw [ha]
    refine pw_aload_n dX4_readSign_15 rfl rfl ?_
    refine pw_getR (x := (q + 1)) dX4_readSign_16 fd_RX4_9 (by decide) (or_k h) rfl (or_rt h) ?_
    refine pw_alenC dX4_readSign_19 (or_kt h) ?_
    refine pw_icmp_ge (tgt := 36) dX4_readSign_20 (by decide) (fun c_20 => absurd c_20 (nI_ge (b := 60) (by omega) (by decide))) (fun c_20 => ?_)
    refine pw_aload_n dX4_readSign_23 rfl rfl ?_
    refine pw_getR (x := (q + 1)) dX4_readSign_24 fd_RX4_9 (by decide) (or_k h) rfl (or_rt h) ?_
    refine pw_aload_n dX4_readSign_27 rfl rfl ?_
    refine pw_getI dX4_readSign_28 fd_RX4_28 (by decide) (or_k h) rfl ?_
    rw [ha]
    refine pw_caldN (j := a) dX4_readSign_31 (or_kt h) (by omega) (by decide) ?_
    refine pw_iload_n dX4_readSign_32 rfl rfl ?_
    refine pw_icmp_eq (tgt := 38) dX4_readSign_33 (by decide) (fun c_33 => ?_) (fun c_33 => ?_)
    · have hB : sgnB (I (q + 1)) l a g = true := by simp [sgnB, h8, c_33]
      refine pw_aload_n dX4_readSign_38 rfl rfl ?_
      refine pw_dup dX4_readSign_39 rfl ?_
      refine pw_getI dX4_readSign_40 fd_RX4_28 (by decide) (or_k h) rfl ?_
      rw [ha]
      refine pw_iconst (v := 1) dX4_readSign_43 (by decide) ?_
      refine pw_iadd dX4_readSign_44 ?_
      rw [nI_1]
      refine pw_putI dX4_readSign_45 fd_RX4_28 (by decide) rfl ⟨rfl, rfl, rfl⟩ (or_k h) ?_
      refine pw_iconst (v := 1) dX4_readSign_48 (by decide) ?_
      exact pw_zret dX4_readSign_49 rfl (by first | rfl | decide) ⟨b_t hB, rfl, by rw [if_pos hB], rfl⟩
    · have hB : sgnB (I (q + 1)) l a g = false := by simp [sgnB, c_33]
      refine pw_iconst (v := 0) dX4_readSign_36 (by decide) ?_
      exact pw_zret dX4_readSign_37 rfl (by first | rfl | decide) ⟨b_f hB, rfl, by rw [hB]; rfl, rfl⟩
