/-! the model reads its text -/
theorem up2_same {α : Type} {f : Nat → Nat → α} {q k : Nat} {x y : α} : up2 (up2 f q k x) q k y = up2 f q k y := by
  funext i j
  by_cases h : i = q ∧ j = k
  · simp [up2, h]
  · simp [up2, h]
theorem up2_comm {α : Type} {f : Nat → Nat → α} {q k b : Nat} {x y : α} (h : k ≠ b) : up2 (up2 f q k x) q b y = up2 (up2 f q b y) q k x := by
  funext i j
  by_cases h1 : i = q ∧ j = k
  · obtain ⟨rfl, rfl⟩ := h1
    simp [up2, h]
  · by_cases h2 : i = q ∧ j = b
    · obtain ⟨rfl, rfl⟩ := h2
      simp [up2, Ne.symm h]
    · simp [up2, h1, h2]
def hereB (x : Nat → Int32) (l a : Nat) (u w : Int32) : Bool := decide (a < l) && decide (u ≤ x a ∧ x a ≤ w)
theorem here_dig {x : Nat → Int32} {l a : Nat} : hereB x l a 48 57 = digB x l a := by
  unfold hereB digB
  rw [Bool.decide_and]
theorem here_sgn {x : Nat → Int32} {l a : Nat} {g : Int32} : hereB x l a g g = sgnB x l a g := by
  unfold hereB sgnB
  rw [show decide (g ≤ x a ∧ x a ≤ g) = decide (x a = g) from decide_eq_decide.mpr ⟨fun h => Int32.le_antisymm h.2 h.1, fun h => ⟨Int32.le_of_eq h.symm, Int32.le_of_eq h⟩⟩]
theorem dig_d {x : Nat → Int32} {l a : Nat} (h : digB x l a = true) : ∃ d, d ≤ 9 ∧ x a - 48 = nI d := by
  unfold digB at h
  simp only [Bool.and_eq_true, decide_eq_true_eq] at h
  obtain ⟨d, h1, h2, h3⟩ := win_nat (lo := 48) (hi := 57) (decide_eq_true ⟨h.2.1, h.2.2⟩) (by decide) (by decide)
  exact ⟨d - 48, by omega, by rw [h3]; exact pk_sub (a := d) (b := 48) h1⟩
theorem dig_pos {x : Nat → Int32} {l a : Nat} (h : digB x l a = true) : x a - 48 ≤ 0 ↔ x a - 48 = 0 := by
  obtain ⟨d, h1, h2⟩ := dig_d h
  rw [h2]
  constructor
  · intro h3
    rcases Nat.eq_zero_or_pos d with h4 | h4
    · rw [h4]; rfl
    · exact absurd h3 (nI_ge (a := 0) (b := d) h4 (by omega))
  · intro h3
    rw [h3]
    exact Int32.le_refl _
theorem num_v {a b : Int32} : 10 * a + b - 48 = 10 * a + (b - 48) := by
  rw [Int32.sub_eq_add_neg, Int32.sub_eq_add_neg, Int32.add_assoc]

set_option maxRecDepth 4000 in
theorem sp_isHere {σ : pT} {I : pI} {F : pF} {m l a : Nat} {u w : Int32} (h : isMo σ m) (hl : I m 9 = nI l) (hl6 : l ≤ 60) (ha : I m 10 = nI a) (ha6 : a ≤ 61) : PE yX8_isHere cX8_isHere mX8_isHere [.ref m, .int u, .int w] σ I F (some (.int (bI (hereB (I (m + 7)) l a u w)))) I F := by
  refine PE.of oP_X8_isHere (catOK rfl) (Nat.le_of_ble_eq_true rfl) ?_
  show PW _ _ _ 0 [.ref m, .int u, .int w] [] _ _ _ _
  refine pw_aload_n dX8_isHere_0 rfl rfl ?_
  refine pw_getI dX8_isHere_1 fd_RX8_177 (by decide) (mo_k h) rfl ?_
  rw [ha]
  refine pw_aload_n dX8_isHere_4 rfl rfl ?_
  refine pw_getI dX8_isHere_5 fd_RX8_174 (by decide) (mo_k h) rfl ?_
  rw [hl]
  refine pw_icmp_ge (tgt := 32) dX8_isHere_8 (by decide) (fun c_8 => ?_) (fun c_8 => ?_)
  · have h8 : ¬ a < l := fun z => nI_ge z (by omega) c_8
    refine pw_iconst (v := 0) dX8_isHere_32 (by decide) ?_
    exact pw_zret dX8_isHere_33 rfl (by first | rfl | decide) ⟨b_f (by simp only [hereB, h8, decide_true, decide_false, Bool.true_and, Bool.false_and]), rfl, rfl, rfl⟩
  · have h8 : a < l := Nat.not_le.mp fun z => c_8 (nI_le z (by omega))
    refine pw_aload_n dX8_isHere_11 rfl rfl ?_
    refine pw_getR (x := (m + 7)) dX8_isHere_12 fd_RX8_29 (by decide) (mo_k h) rfl (mo_r7 h) ?_
    refine pw_aload_n dX8_isHere_15 rfl rfl ?_
    refine pw_getI dX8_isHere_16 fd_RX8_177 (by decide) (mo_k h) rfl ?_
    rw [ha]
    refine pw_ialdN (j := a) dX8_isHere_19 (mo_k7 h) (by omega) (by decide) ?_
    refine pw_iload_n dX8_isHere_20 rfl rfl ?_
    refine pw_iload_n dX8_isHere_21 rfl rfl ?_
    refine pe_callSi dX8_isHere_22 oX_X8_isIn lk_RX8_32 sp_isIn rfl rfl (Nat.le_of_ble_eq_true rfl) (by decide) ?_
    refine pw_ifB_eq (tgt := 32) dX8_isHere_25 (by decide) (fun c_25 => ?_) (fun c_25 => ?_)
    · refine pw_iconst (v := 0) dX8_isHere_32 (by decide) ?_
      exact pw_zret dX8_isHere_33 rfl (by first | rfl | decide) ⟨b_f (by simp only [hereB, h8, decide_true, decide_false, Bool.true_and, Bool.false_and, c_25]), rfl, rfl, rfl⟩
    · refine pw_iconst (v := 1) dX8_isHere_28 (by decide) ?_
      refine pw_goto (tgt := 33) dX8_isHere_29 (by decide) ?_
      exact pw_zret dX8_isHere_33 rfl (by first | rfl | decide) ⟨b_t (by simp only [hereB, h8, decide_true, decide_false, Bool.true_and, Bool.false_and, c_25]), rfl, rfl, rfl⟩

theorem up2_id {α : Type} {f : Nat → Nat → α} {q k : Nat} {x : α} (h : f q k = x) : up2 f q k x = f := by
  funext i j
  by_cases h1 : i = q ∧ j = k
  · obtain ⟨rfl, rfl⟩ := h1
    simp [up2, h]
  · simp [up2, h1]
set_option maxRecDepth 4000 in
theorem sp_passesSign {σ : pT} {I : pI} {F : pF} {m l a : Nat} {g : Int32} (h : isMo σ m) (hl : I m 9 = nI l) (hl6 : l ≤ 60) (ha : I m 10 = nI a) (ha6 : a ≤ 61) : PE yX8_passesSign cX8_passesSign mX8_passesSign [.ref m, .int g] σ I F (some (.int (bI (sgnB (I (m + 7)) l a g)))) (if sgnB (I (m + 7)) l a g = true then up2 I m 10 (nI (a + 1)) else I) F := by
  refine PE.of oP_X8_passesSign (catOK rfl) (Nat.le_of_ble_eq_true rfl) ?_
  show PW _ _ _ 0 [.ref m, .int g, pJ] [] _ _ _ _
  refine pw_aload_n dX8_passesSign_0 rfl rfl ?_
  refine pw_iload_n dX8_passesSign_1 rfl rfl ?_
  refine pw_iload_n dX8_passesSign_2 rfl rfl ?_
  refine pe_callVi dX8_passesSign_3 oX_X8_isHere lk_RX8_180 (sp_isHere h hl hl6 ha (by omega)) (mo_k h) rfl rfl (Nat.le_of_ble_eq_true rfl) (by decide) ?_
  rw [here_sgn]
  refine pw_istore_n dX8_passesSign_6 rfl (by decide) rfl ?_
  refine pw_aload_n dX8_passesSign_7 rfl rfl ?_
  refine pw_dup dX8_passesSign_8 rfl ?_
  refine pw_getI dX8_passesSign_9 fd_RX8_177 (by decide) (mo_k h) rfl ?_
  rw [ha]
  refine pw_iload_n dX8_passesSign_12 rfl rfl ?_
  refine pw_ifB_eq (tgt := 20) dX8_passesSign_13 (by decide) (fun c_13 => ?_) (fun c_13 => ?_)
  · refine pw_iconst (v := 0) dX8_passesSign_20 (by decide) ?_
    refine pw_iadd dX8_passesSign_21 ?_
    rw [show (nI a + 0 : Int32) = nI (a + 0) from nI_add _ _]
    refine pw_putI dX8_passesSign_22 fd_RX8_177 (by decide) rfl ⟨rfl, rfl, rfl⟩ (mo_k h) ?_
    refine pw_iload_n dX8_passesSign_25 rfl rfl ?_
    exact pw_bret dX8_passesSign_26 rfl ⟨rfl, rfl, by rw [if_neg (fun z => by rw [z] at c_13; cases c_13), up2_id (show I m 10 = nI (a + 0) from ha)], rfl⟩
  · refine pw_iconst (v := 1) dX8_passesSign_16 (by decide) ?_
    refine pw_goto (tgt := 21) dX8_passesSign_17 (by decide) ?_
    refine pw_iadd dX8_passesSign_21 ?_
    rw [show (nI a + 1 : Int32) = nI (a + 1) from nI_add _ _]
    refine pw_putI dX8_passesSign_22 fd_RX8_177 (by decide) rfl ⟨rfl, rfl, rfl⟩ (mo_k h) ?_
    refine pw_iload_n dX8_passesSign_25 rfl rfl ?_
    exact pw_bret dX8_passesSign_26 rfl ⟨rfl, rfl, by rw [if_pos c_13], rfl⟩

set_option maxRecDepth 4000 in
theorem sp_pn1 {σ : pT} {I : pI} {F : pF} {m l a : Nat} (h : isMo σ m) (hl : I m 9 = nI l) (hl6 : l ≤ 60) (ha : I m 10 = nI a) (ha6 : a ≤ 61) : PE yX8_passesNumber cX8_passesNumber mX8_passesNumber [.ref m, .int (nI 1)] σ I F (some (.int (bI (digB (I (m + 7)) l a)))) (if digB (I (m + 7)) l a = true then up2 (up2 I m 10 (nI (((I (m + 7)) a - 48, a + 1) : Int32 × Nat).2)) m 11 (((I (m + 7)) a - 48, a + 1) : Int32 × Nat).1 else I) F := by
  refine PE.of oP_X8_passesNumber (catOK rfl) (Nat.le_of_ble_eq_true rfl) ?_
  show PW _ _ _ 0 [.ref m, .int (nI 1), pJ, pJ] [] _ _ _ _
  refine pw_aload_n dX8_passesNumber_0 rfl rfl ?_
  refine pw_bipush (v := 48) dX8_passesNumber_1 (by decide) ?_
  refine pw_bipush (v := 57) dX8_passesNumber_3 (by decide) ?_
  refine pe_callVi dX8_passesNumber_5 oX_X8_isHere lk_RX8_180 (sp_isHere h hl hl6 ha (by omega)) (mo_k h) rfl rfl (Nat.le_of_ble_eq_true rfl) (by decide) ?_
  rw [here_dig]
  refine pw_ifB_ne (tgt := 13) dX8_passesNumber_8 (by decide) (fun c_8 => ?_) (fun c_8 => ?_)
  · have h60 := dig_lt c_8
    refine pw_aload_n dX8_passesNumber_13 rfl rfl ?_
    refine pw_getR (x := (m + 7)) dX8_passesNumber_14 fd_RX8_29 (by decide) (mo_k h) rfl (mo_r7 h) ?_
    refine pw_aload_n dX8_passesNumber_17 rfl rfl ?_
    refine pw_getI dX8_passesNumber_18 fd_RX8_177 (by decide) (mo_k h) rfl ?_
    rw [ha]
    refine pw_ialdN (j := a) dX8_passesNumber_21 (mo_k7 h) (by omega) (by decide) ?_
    refine pw_bipush (v := 48) dX8_passesNumber_22 (by decide) ?_
    refine pw_isub dX8_passesNumber_24 ?_
    refine pw_istore_n dX8_passesNumber_25 rfl (by decide) rfl ?_
    refine pw_aload_n dX8_passesNumber_26 rfl rfl ?_
    refine pw_dup dX8_passesNumber_27 rfl ?_
    refine pw_getI dX8_passesNumber_28 fd_RX8_177 (by decide) (mo_k h) rfl ?_
    rw [ha]
    refine pw_iconst (v := 1) dX8_passesNumber_31 (by decide) ?_
    refine pw_iadd dX8_passesNumber_32 ?_
    rw [nI_1]
    refine pw_putI dX8_passesNumber_33 fd_RX8_177 (by decide) rfl ⟨rfl, rfl, rfl⟩ (mo_k h) ?_
    refine pw_iconst (v := 1) dX8_passesNumber_36 (by decide) ?_
    refine pw_istore_n dX8_passesNumber_37 rfl (by decide) rfl ?_
    refine pw_iload_n dX8_passesNumber_38 rfl rfl ?_
    refine pw_iload_n dX8_passesNumber_39 rfl rfl ?_
    refine pw_icmp_ge (tgt := 92) dX8_passesNumber_40 (by decide) (fun c_40 => ?_) (fun c_40 => absurd (by decide) c_40)
    refine pw_aload_n dX8_passesNumber_92 rfl rfl ?_
    refine pw_iload_n dX8_passesNumber_93 rfl rfl ?_
    refine pw_putI dX8_passesNumber_94 fd_RX8_183 (by decide) rfl ⟨rfl, rfl, rfl⟩ (mo_k h) ?_
    refine pw_iconst (v := 1) dX8_passesNumber_97 (by decide) ?_
    exact pw_zret dX8_passesNumber_98 rfl (by first | rfl | decide) ⟨b_t c_8, rfl, by rw [if_pos c_8], rfl⟩
  · skip
    refine pw_iconst (v := 0) dX8_passesNumber_11 (by decide) ?_
    exact pw_zret dX8_passesNumber_12 rfl (by first | rfl | decide) ⟨b_f c_8, rfl, by rw [if_neg (fun z => by rw [z] at c_8; cases c_8)], rfl⟩

set_option maxRecDepth 4000 in
theorem sp_pn2 {σ : pT} {I : pI} {F : pF} {m l a : Nat} (h : isMo σ m) (hl : I m 9 = nI l) (hl6 : l ≤ 60) (ha : I m 10 = nI a) (ha6 : a ≤ 61) : PE yX8_passesNumber cX8_passesNumber mX8_passesNumber [.ref m, .int (nI 2)] σ I F (some (.int (bI (digB (I (m + 7)) l a)))) (if digB (I (m + 7)) l a = true then up2 (up2 I m 10 (nI (numV (I (m + 7)) l a).2)) m 11 (numV (I (m + 7)) l a).1 else I) F := by
  refine PE.of oP_X8_passesNumber (catOK rfl) (Nat.le_of_ble_eq_true rfl) ?_
  show PW _ _ _ 0 [.ref m, .int (nI 2), pJ, pJ] [] _ _ _ _
  refine pw_aload_n dX8_passesNumber_0 rfl rfl ?_
  refine pw_bipush (v := 48) dX8_passesNumber_1 (by decide) ?_
  refine pw_bipush (v := 57) dX8_passesNumber_3 (by decide) ?_
  refine pe_callVi dX8_passesNumber_5 oX_X8_isHere lk_RX8_180 (sp_isHere h hl hl6 ha (by omega)) (mo_k h) rfl rfl (Nat.le_of_ble_eq_true rfl) (by decide) ?_
  rw [here_dig]
  refine pw_ifB_ne (tgt := 13) dX8_passesNumber_8 (by decide) (fun c_8 => ?_) (fun c_8 => ?_)
  · have h60 := dig_lt c_8
    refine pw_aload_n dX8_passesNumber_13 rfl rfl ?_
    refine pw_getR (x := (m + 7)) dX8_passesNumber_14 fd_RX8_29 (by decide) (mo_k h) rfl (mo_r7 h) ?_
    refine pw_aload_n dX8_passesNumber_17 rfl rfl ?_
    refine pw_getI dX8_passesNumber_18 fd_RX8_177 (by decide) (mo_k h) rfl ?_
    rw [ha]
    refine pw_ialdN (j := a) dX8_passesNumber_21 (mo_k7 h) (by omega) (by decide) ?_
    refine pw_bipush (v := 48) dX8_passesNumber_22 (by decide) ?_
    refine pw_isub dX8_passesNumber_24 ?_
    refine pw_istore_n dX8_passesNumber_25 rfl (by decide) rfl ?_
    refine pw_aload_n dX8_passesNumber_26 rfl rfl ?_
    refine pw_dup dX8_passesNumber_27 rfl ?_
    refine pw_getI dX8_passesNumber_28 fd_RX8_177 (by decide) (mo_k h) rfl ?_
    rw [ha]
    refine pw_iconst (v := 1) dX8_passesNumber_31 (by decide) ?_
    refine pw_iadd dX8_passesNumber_32 ?_
    rw [nI_1]
    refine pw_putI dX8_passesNumber_33 fd_RX8_177 (by decide) rfl ⟨rfl, rfl, rfl⟩ (mo_k h) ?_
    refine pw_iconst (v := 1) dX8_passesNumber_36 (by decide) ?_
    refine pw_istore_n dX8_passesNumber_37 rfl (by decide) rfl ?_
    refine pw_iload_n dX8_passesNumber_38 rfl rfl ?_
    refine pw_iload_n dX8_passesNumber_39 rfl rfl ?_
    refine pw_icmp_ge (tgt := 92) dX8_passesNumber_40 (by decide) (fun c_40 => absurd c_40 (by decide)) (fun c_40 => ?_)
    refine pw_iload_n dX8_passesNumber_43 rfl rfl ?_
    refine pw_if_le (tgt := 92) dX8_passesNumber_44 (by decide) (fun c_44 => ?_) (fun c_44 => ?_)
    · refine pw_aload_n dX8_passesNumber_92 rfl rfl ?_
      refine pw_iload_n dX8_passesNumber_93 rfl rfl ?_
      refine pw_putI dX8_passesNumber_94 fd_RX8_183 (by decide) rfl ⟨rfl, rfl, rfl⟩ (mo_k h) ?_
      refine pw_iconst (v := 1) dX8_passesNumber_97 (by decide) ?_
      exact pw_zret dX8_passesNumber_98 rfl (by first | rfl | decide) ⟨b_t c_8, rfl, by rw [if_pos c_8, numV, if_neg (fun z => z.1 ((dig_pos c_8).mp c_44))], rfl⟩
    · refine pw_aload_n dX8_passesNumber_47 rfl rfl ?_
      refine pw_bipush (v := 48) dX8_passesNumber_48 (by decide) ?_
      refine pw_bipush (v := 57) dX8_passesNumber_50 (by decide) ?_
      refine pe_callVi dX8_passesNumber_52 oX_X8_isHere lk_RX8_180 (sp_isHere (a := a + 1) h ((up2_nj (by decide)).trans hl) hl6 up2_s (by omega)) (mo_k h) rfl rfl (Nat.le_of_ble_eq_true rfl) (by decide) ?_
      rw [up2_row (by omega), here_dig]
      refine pw_ifB_eq (tgt := 92) dX8_passesNumber_55 (by decide) (fun c_55 => ?_) (fun c_55 => ?_)
      · refine pw_aload_n dX8_passesNumber_92 rfl rfl ?_
        refine pw_iload_n dX8_passesNumber_93 rfl rfl ?_
        refine pw_putI dX8_passesNumber_94 fd_RX8_183 (by decide) rfl ⟨rfl, rfl, rfl⟩ (mo_k h) ?_
        refine pw_iconst (v := 1) dX8_passesNumber_97 (by decide) ?_
        exact pw_zret dX8_passesNumber_98 rfl (by first | rfl | decide) ⟨b_t c_8, rfl, by rw [if_pos c_8, numV, if_neg (fun z => by rw [z.2] at c_55; cases c_55)], rfl⟩
      · have h61 := dig_lt c_55
        refine pw_bipush (v := 10) dX8_passesNumber_58 (by decide) ?_
        refine pw_iload_n dX8_passesNumber_60 rfl rfl ?_
        refine pw_imul dX8_passesNumber_61 ?_
        refine pw_aload_n dX8_passesNumber_62 rfl rfl ?_
        refine pw_getR (x := (m + 7)) dX8_passesNumber_63 fd_RX8_29 (by decide) (mo_k h) rfl (mo_r7 h) ?_
        refine pw_aload_n dX8_passesNumber_66 rfl rfl ?_
        refine pw_getI dX8_passesNumber_67 fd_RX8_177 (by decide) (mo_k h) rfl ?_
        rw [up2_s]
        refine pw_ialdN (j := (a + 1)) dX8_passesNumber_70 (mo_k7 h) (by omega) (by decide) ?_
        rw [up2_row (by omega)]
        refine pw_iadd dX8_passesNumber_71 ?_
        refine pw_bipush (v := 48) dX8_passesNumber_72 (by decide) ?_
        refine pw_isub dX8_passesNumber_74 ?_
        refine pw_istore_n dX8_passesNumber_75 rfl (by decide) rfl ?_
        refine pw_aload_n dX8_passesNumber_76 rfl rfl ?_
        refine pw_dup dX8_passesNumber_77 rfl ?_
        refine pw_getI dX8_passesNumber_78 fd_RX8_177 (by decide) (mo_k h) rfl ?_
        rw [up2_s]
        refine pw_iconst (v := 1) dX8_passesNumber_81 (by decide) ?_
        refine pw_iadd dX8_passesNumber_82 ?_
        rw [nI_1]
        refine pw_putI dX8_passesNumber_83 fd_RX8_177 (by decide) rfl ⟨rfl, rfl, rfl⟩ (mo_k h) ?_
        refine pw_iinc (v := 2) dX8_passesNumber_86 rfl (by decide) rfl ?_
        refine pw_goto (tgt := 38) dX8_passesNumber_89 (by decide) ?_
        refine pw_iload_n dX8_passesNumber_38 rfl rfl ?_
        refine pw_iload_n dX8_passesNumber_39 rfl rfl ?_
        refine pw_icmp_ge (tgt := 92) dX8_passesNumber_40 (by decide) (fun c_40 => ?_) (fun c_40 => absurd (by decide) c_40)
        refine pw_aload_n dX8_passesNumber_92 rfl rfl ?_
        refine pw_iload_n dX8_passesNumber_93 rfl rfl ?_
        refine pw_putI dX8_passesNumber_94 fd_RX8_183 (by decide) rfl ⟨rfl, rfl, rfl⟩ (mo_k h) ?_
        refine pw_iconst (v := 1) dX8_passesNumber_97 (by decide) ?_
        exact pw_zret dX8_passesNumber_98 rfl (by first | rfl | decide) ⟨b_t c_8, rfl, by rw [if_pos c_8, numV, if_pos ⟨fun z => c_44 ((dig_pos c_8).mpr z), c_55⟩, up2_same]; simp only [num_v], rfl⟩
  · skip
    refine pw_iconst (v := 0) dX8_passesNumber_11 (by decide) ?_
    exact pw_zret dX8_passesNumber_12 rfl (by first | rfl | decide) ⟨b_f c_8, rfl, by rw [if_neg (fun z => by rw [z] at c_8; cases c_8)], rfl⟩

/-- the model's cell m but for its reading places -/
def mEq (m : Nat) (I I' : pI) : Prop := ∀ i j, ¬ (i = m ∧ 10 ≤ j) → I' i j = I i j
theorem mEq_0 {m : Nat} {I : pI} : mEq m I I := fun _ _ _ => rfl
theorem mEq_u {m k : Nat} {I I' : pI} {x : Int32} (h : mEq m I I') (hk : 10 ≤ k) : mEq m I (up2 I' m k x) := fun i j hj => (up2_n (by omega)).trans (h i j hj)
theorem mEq_t {m : Nat} {I I' I2 : pI} (h : mEq m I I') (h2 : mEq m I' I2) : mEq m I I2 := fun i j hj => (h2 i j hj).trans (h i j hj)
theorem mEq_r {m i : Nat} {I I' : pI} (h : mEq m I I') (hi : i ≠ m) : I' i = I i := funext fun j => h i j (by omega)
def poQ (m l a : Nat) (x : Nat → Int32) (I : pI) (F : pF) (v : Option Value) (I' : pI) (F' : pF) : Prop :=
  v = some (.int (bI (ordV x l a).1)) ∧ F' = F ∧ mEq m I I' ∧ I' m 10 = nI (ordV x l a).2.1 ∧ ((ordV x l a).1 = true → I' m 12 = (ordV x l a).2.2.1 ∧ I' m 13 = (ordV x l a).2.2.2.1 ∧ (I' m 12 = 104 ∨ I' m 12 = 108 → I' m 14 = (ordV x l a).2.2.2.2))
theorem po_ret {m l a : Nat} {x : Nat → Int32} {I I' : pI} {F : pF} {σ : pT} {b : Bool} {z : Nat} {v n c : Int32} (e : ordV x l a = (b, z, v, n, c)) (h1 : mEq m I I') (h2 : I' m 10 = nI z) (h3 : b = true → I' m 12 = v ∧ I' m 13 = n ∧ (I' m 12 = 104 ∨ I' m 12 = 108 → I' m 14 = c)) : σ = σ ∧ poQ m l a x I F (some (Value.int (bI b))) I' F := by
  unfold poQ
  rw [e]
  exact ⟨rfl, rfl, rfl, h1, h2, h3⟩
theorem po_no {x : Nat → Int32} {l a : Nat} {v : Int32} (hv : v = (if a < l then x a else 0)) (h1 : ¬ v = 104) (h2 : ¬ v = 108) (h3 : ¬ v = 98) (h4 : ¬ v = 114) (h5 : ¬ v = 115) (h6 : ¬ v = 112) : ordV x l a = (false, a, 0, 0, 0) := by
  unfold ordV
  split
  · rename_i h
    rw [if_pos h] at hv
    subst hv
    rw [if_neg (by simp [h1, h2]), if_neg (by simp [h3, h6]), if_neg (by simp [h4, h5])]
  · rfl

theorem ord_f {x : Nat → Int32} {l a : Nat} (h : a < l) (hv : x a = 104 ∨ x a = 108 ∨ x a = 98 ∨ x a = 114 ∨ x a = 115 ∨ x a = 112) (hd : digB x l (a + 1) = false) : ordV x l a = (false, a + 1, 0, 0, 0) := by
  have hd' : ¬ digB x l (a + 1) = true := by rw [hd]; decide
  unfold ordV
  rw [if_pos h]
  split
  · first | rfl | rw [if_neg hd']
  split
  · first | rfl | rw [if_neg hd']
  split
  · first | rfl | rw [if_neg hd']
  · rename_i h1 h2 h3
    rcases hv with h | h | h | h | h | h
    · exact absurd (Or.inl h) h1
    · exact absurd (Or.inr h) h1
    · exact absurd (Or.inl h) h2
    · exact absurd (Or.inl h) h3
    · exact absurd (Or.inr h) h3
    · exact absurd (Or.inr h) h2
theorem ord_rs {x : Nat → Int32} {l a : Nat} (h : a < l) (hv : x a = 114 ∨ x a = 115) (hd : digB x l (a + 1) = true) : ordV x l a = (true, a + 2, x a, x (a + 1) - 48, 0) := by
  unfold ordV
  rw [if_pos h, if_neg (fun z => by rcases hv with h | h <;> rw [h] at z <;> exact absurd z (by decide)), if_neg (fun z => by rcases hv with h | h <;> rw [h] at z <;> exact absurd z (by decide)), if_pos hv, if_pos hd]
theorem ord_bp {x : Nat → Int32} {l a : Nat} (h : a < l) (hv : x a = 104 ∨ x a = 108 ∨ x a = 98 ∨ x a = 114 ∨ x a = 115 ∨ x a = 112) (n1 : ¬ x a = 114) (n2 : ¬ x a = 115) (n3 : ¬ x a = 104) (n4 : ¬ x a = 108) (hd : digB x l (a + 1) = true) : ordV x l a = (true, (numV x l (a + 1)).2, x a, (numV x l (a + 1)).1, 0) := by
  unfold ordV
  rw [if_pos h, if_neg (fun z => z.elim n3 n4), if_pos (by rcases hv with h | h | h | h | h | h; exact absurd h n3; exact absurd h n4; exact Or.inl h; exact absurd h n1; exact absurd h n2; exact Or.inr h), if_pos hd]
theorem ord_h1 {x : Nat → Int32} {l a : Nat} (h : a < l) (hv : x a = 104 ∨ x a = 108) (hd : digB x l (a + 1) = true) (hs : sgnB x l (numV x l (a + 1)).2 99 = false) : ordV x l a = (false, (numV x l (a + 1)).2, 0, 0, 0) := by
  unfold ordV
  rw [if_pos h, if_pos hv, if_pos hd, if_neg (fun z => by rw [z] at hs; cases hs)]
theorem ord_h2 {x : Nat → Int32} {l a : Nat} (h : a < l) (hv : x a = 104 ∨ x a = 108) (hd : digB x l (a + 1) = true) (hs : sgnB x l (numV x l (a + 1)).2 99 = true) (h3 : digB x l ((numV x l (a + 1)).2 + 1) = false) : ordV x l a = (false, (numV x l (a + 1)).2 + 1, 0, 0, 0) := by
  unfold ordV
  rw [if_pos h, if_pos hv, if_pos hd, if_pos hs, if_neg (fun z => by rw [z] at h3; cases h3)]
theorem ord_h3 {x : Nat → Int32} {l a : Nat} (h : a < l) (hv : x a = 104 ∨ x a = 108) (hd : digB x l (a + 1) = true) (hs : sgnB x l (numV x l (a + 1)).2 99 = true) (h3 : digB x l ((numV x l (a + 1)).2 + 1) = true) : ordV x l a = (true, (numV x l (a + 1)).2 + 2, x a, (numV x l (a + 1)).1, x ((numV x l (a + 1)).2 + 1) - 48) := by
  unfold ordV
  rw [if_pos h, if_pos hv, if_pos hd, if_pos hs, if_pos h3]

set_option maxRecDepth 4000 in
theorem sp_passesOrder {σ : pT} {I : pI} {F : pF} {m l a : Nat} (h : isMo σ m) (hl : I m 9 = nI l) (hl6 : l ≤ 60) (ha : I m 10 = nI a) (ha6 : a ≤ 61) : PR yX8_passesOrder cX8_passesOrder mX8_passesOrder [.ref m] σ I F (poQ m l a (I (m + 7)) I F) := by
  have rq : ∀ (f : pI) (k : Nat) (x : Int32), up2 f m k x (m + 7) = f (m + 7) := fun f k x => up2_row (by omega)
  refine PR.of oP_X8_passesOrder (catOK rfl) (Nat.le_of_ble_eq_true rfl) ?_
  show PW _ _ _ 0 [.ref m] [] _ _ _ _
  have K84 : a < l → ((I (m + 7)) a = 104 ∨ (I (m + 7)) a = 108 ∨ (I (m + 7)) a = 98 ∨ (I (m + 7)) a = 114 ∨ (I (m + 7)) a = 115 ∨ (I (m + 7)) a = 112) → PW cX8_passesOrder mX8_passesOrder (fM (qR σ ((poQ m l a (I (m + 7)) I F)))) 84 [.ref m] [] σ (up2 I m 12 ((I (m + 7)) a)) F (0, 0) := by
    intro h8 hv
    refine pw_aload_n dX8_passesOrder_84 rfl rfl ?_
    refine pw_dup dX8_passesOrder_85 rfl ?_
    refine pw_getI dX8_passesOrder_86 fd_RX8_177 (by decide) (mo_k h) rfl ?_
    rw [up2_nj (by decide), ha]
    refine pw_iconst (v := 1) dX8_passesOrder_89 (by decide) ?_
    refine pw_iadd dX8_passesOrder_90 ?_
    rw [nI_1]
    refine pw_putI dX8_passesOrder_91 fd_RX8_177 (by decide) rfl ⟨rfl, rfl, rfl⟩ (mo_k h) ?_
    refine pw_aload_n dX8_passesOrder_94 rfl rfl ?_
    refine pw_aload_n dX8_passesOrder_95 rfl rfl ?_
    refine pw_getI dX8_passesOrder_96 fd_RX8_186 (by decide) (mo_k h) rfl ?_
    rw [up2_nj (by decide), up2_s]
    refine pw_bipush (v := 114) dX8_passesOrder_99 (by decide) ?_
    refine pw_icmp_eq (tgt := 113) dX8_passesOrder_101 (by decide) (fun c_101 => ?_) (fun c_101 => ?_)
    · refine pw_iconst (v := 1) dX8_passesOrder_113 (by decide) ?_
      refine pw_goto (tgt := 118) dX8_passesOrder_114 (by decide) ?_
      refine pe_callVi dX8_passesOrder_118 oX_X8_passesNumber lk_RX8_189 (sp_pn1 (a := a + 1) h ((up2_nj (by decide)).trans ((up2_nj (by decide)).trans hl)) hl6 up2_s (by omega)) (mo_k h) rfl rfl (Nat.le_of_ble_eq_true rfl) (by decide) ?_
      simp only [rq]
      refine pw_ifB_ne (tgt := 126) dX8_passesOrder_121 (by decide) (fun c_121 => ?_) (fun c_121 => ?_)
      · rw [if_pos c_121]
        refine pw_aload_n dX8_passesOrder_126 rfl rfl ?_
        refine pw_aload_n dX8_passesOrder_127 rfl rfl ?_
        refine pw_getI dX8_passesOrder_128 fd_RX8_183 (by decide) (mo_k h) rfl ?_
        rw [up2_s]
        refine pw_putI dX8_passesOrder_131 fd_RX8_192 (by decide) rfl ⟨rfl, rfl, rfl⟩ (mo_k h) ?_
        refine pw_aload_n dX8_passesOrder_134 rfl rfl ?_
        refine pw_getI dX8_passesOrder_135 fd_RX8_186 (by decide) (mo_k h) rfl ?_
        rw [up2_nj (by decide), up2_nj (by decide), up2_nj (by decide), up2_nj (by decide), up2_s]
        refine pw_bipush (v := 104) dX8_passesOrder_138 (by decide) ?_
        refine pw_icmp_eq (tgt := 152) dX8_passesOrder_140 (by decide) (fun c_140 => absurd (c_101.symm.trans c_140) (by decide)) (fun c_140 => ?_)
        refine pw_aload_n dX8_passesOrder_143 rfl rfl ?_
        refine pw_getI dX8_passesOrder_144 fd_RX8_186 (by decide) (mo_k h) rfl ?_
        rw [up2_nj (by decide), up2_nj (by decide), up2_nj (by decide), up2_nj (by decide), up2_s]
        refine pw_bipush (v := 108) dX8_passesOrder_147 (by decide) ?_
        refine pw_icmp_ne (tgt := 179) dX8_passesOrder_149 (by decide) (fun c_149 => ?_) (fun c_149 => absurd (c_101.symm.trans c_149) (by decide))
        refine pw_iconst (v := 1) dX8_passesOrder_179 (by decide) ?_
        exact pw_zret dX8_passesOrder_180 rfl (by first | rfl | decide) (po_ret (b := true) (z := a + 2) (v := (I (m + 7)) a) (n := (I (m + 7)) (a + 1) - 48) (c := 0) (ord_rs h8 (Or.inl c_101) c_121) (mEq_u (mEq_u (mEq_u (mEq_u (mEq_u mEq_0 (by decide)) (by decide)) (by decide)) (by decide)) (by decide)) (by rw [up2_nj (by decide), up2_nj (by decide), up2_s]) (fun _ => ⟨by rw [up2_nj (by decide), up2_nj (by decide), up2_nj (by decide), up2_nj (by decide), up2_s], up2_s, fun z => absurd z (by rw [up2_nj (by decide), up2_nj (by decide), up2_nj (by decide), up2_nj (by decide), up2_s, c_101]; decide)⟩))
      · rw [if_neg (fun z => by rw [z] at c_121; cases c_121)]
        refine pw_iconst (v := 0) dX8_passesOrder_124 (by decide) ?_
        exact pw_zret dX8_passesOrder_125 rfl (by first | rfl | decide) (po_ret (b := false) (z := a + 1) (v := 0) (n := 0) (c := 0) (ord_f h8 hv c_121) (mEq_u (mEq_u mEq_0 (by decide)) (by decide)) up2_s (fun z => by cases z))
    · refine pw_aload_n dX8_passesOrder_104 rfl rfl ?_
      refine pw_getI dX8_passesOrder_105 fd_RX8_186 (by decide) (mo_k h) rfl ?_
      rw [up2_nj (by decide), up2_s]
      refine pw_bipush (v := 115) dX8_passesOrder_108 (by decide) ?_
      refine pw_icmp_ne (tgt := 117) dX8_passesOrder_110 (by decide) (fun c_110 => ?_) (fun c_110 => ?_)
      · refine pw_iconst (v := 2) dX8_passesOrder_117 (by decide) ?_
        refine pe_callVi dX8_passesOrder_118 oX_X8_passesNumber lk_RX8_189 (sp_pn2 (a := a + 1) h ((up2_nj (by decide)).trans ((up2_nj (by decide)).trans hl)) hl6 up2_s (by omega)) (mo_k h) rfl rfl (Nat.le_of_ble_eq_true rfl) (by decide) ?_
        simp only [rq]
        refine pw_ifB_ne (tgt := 126) dX8_passesOrder_121 (by decide) (fun c_121 => ?_) (fun c_121 => ?_)
        · rw [if_pos c_121]
          refine pw_aload_n dX8_passesOrder_126 rfl rfl ?_
          refine pw_aload_n dX8_passesOrder_127 rfl rfl ?_
          refine pw_getI dX8_passesOrder_128 fd_RX8_183 (by decide) (mo_k h) rfl ?_
          rw [up2_s]
          refine pw_putI dX8_passesOrder_131 fd_RX8_192 (by decide) rfl ⟨rfl, rfl, rfl⟩ (mo_k h) ?_
          refine pw_aload_n dX8_passesOrder_134 rfl rfl ?_
          refine pw_getI dX8_passesOrder_135 fd_RX8_186 (by decide) (mo_k h) rfl ?_
          rw [up2_nj (by decide), up2_nj (by decide), up2_nj (by decide), up2_nj (by decide), up2_s]
          refine pw_bipush (v := 104) dX8_passesOrder_138 (by decide) ?_
          refine pw_icmp_eq (tgt := 152) dX8_passesOrder_140 (by decide) (fun c_140 => ?_) (fun c_140 => ?_)
          · refine pw_aload_n dX8_passesOrder_152 rfl rfl ?_
            refine pw_bipush (v := 99) dX8_passesOrder_153 (by decide) ?_
            refine pe_callVi dX8_passesOrder_155 oX_X8_passesSign lk_RX8_195 (sp_passesSign (a := (numV (I (m + 7)) l (a + 1)).2) h (by rw [up2_nj (by decide), up2_nj (by decide), up2_nj (by decide), up2_nj (by decide), up2_nj (by decide)]; exact hl) hl6 (by rw [up2_nj (by decide), up2_nj (by decide), up2_s]) (by have := (numV_le c_121).1; omega)) (mo_k h) rfl rfl (Nat.le_of_ble_eq_true rfl) (by decide) ?_
            simp only [rq]
            refine pw_ifB_eq (tgt := 169) dX8_passesOrder_158 (by decide) (fun c_158 => ?_) (fun c_158 => ?_)
            · rw [if_neg (fun z => by rw [z] at c_158; cases c_158)]
              refine pw_iconst (v := 0) dX8_passesOrder_169 (by decide) ?_
              exact pw_zret dX8_passesOrder_170 rfl (by first | rfl | decide) (po_ret (b := false) (z := (numV (I (m + 7)) l (a + 1)).2) (v := 0) (n := 0) (c := 0) (ord_h1 h8 (Or.inl c_140) c_121 c_158) (mEq_u (mEq_u (mEq_u (mEq_u (mEq_u mEq_0 (by decide)) (by decide)) (by decide)) (by decide)) (by decide)) (by rw [up2_nj (by decide), up2_nj (by decide), up2_s]) (fun z => by cases z))
            · rw [if_pos c_158]
              refine pw_aload_n dX8_passesOrder_161 rfl rfl ?_
              refine pw_iconst (v := 1) dX8_passesOrder_162 (by decide) ?_
              refine pe_callVi dX8_passesOrder_163 oX_X8_passesNumber lk_RX8_189 (sp_pn1 (a := (numV (I (m + 7)) l (a + 1)).2 + 1) h (by rw [up2_nj (by decide), up2_nj (by decide), up2_nj (by decide), up2_nj (by decide), up2_nj (by decide), up2_nj (by decide)]; exact hl) hl6 up2_s (by have := sgn_lt c_158; omega)) (mo_k h) rfl rfl (Nat.le_of_ble_eq_true rfl) (by decide) ?_
              simp only [rq]
              refine pw_ifB_ne (tgt := 171) dX8_passesOrder_166 (by decide) (fun c_166 => ?_) (fun c_166 => ?_)
              · rw [if_pos c_166]
                refine pw_aload_n dX8_passesOrder_171 rfl rfl ?_
                refine pw_aload_n dX8_passesOrder_172 rfl rfl ?_
                refine pw_getI dX8_passesOrder_173 fd_RX8_183 (by decide) (mo_k h) rfl ?_
                rw [up2_s]
                refine pw_putI dX8_passesOrder_176 fd_RX8_198 (by decide) rfl ⟨rfl, rfl, rfl⟩ (mo_k h) ?_
                refine pw_iconst (v := 1) dX8_passesOrder_179 (by decide) ?_
                exact pw_zret dX8_passesOrder_180 rfl (by first | rfl | decide) (po_ret (b := true) (z := (numV (I (m + 7)) l (a + 1)).2 + 2) (v := (I (m + 7)) a) (n := (numV (I (m + 7)) l (a + 1)).1) (c := (I (m + 7)) ((numV (I (m + 7)) l (a + 1)).2 + 1) - 48) (ord_h3 h8 (Or.inl c_140) c_121 c_158 c_166) (mEq_u (mEq_u (mEq_u (mEq_u (mEq_u (mEq_u (mEq_u (mEq_u (mEq_u mEq_0 (by decide)) (by decide)) (by decide)) (by decide)) (by decide)) (by decide)) (by decide)) (by decide)) (by decide)) (by rw [up2_nj (by decide), up2_nj (by decide), up2_s]) (fun _ => ⟨by rw [up2_nj (by decide), up2_nj (by decide), up2_nj (by decide), up2_nj (by decide), up2_nj (by decide), up2_nj (by decide), up2_nj (by decide), up2_nj (by decide), up2_s], by rw [up2_nj (by decide), up2_nj (by decide), up2_nj (by decide), up2_nj (by decide), up2_s], fun _ => up2_s⟩))
              · rw [if_neg (fun z => by rw [z] at c_166; cases c_166)]
                refine pw_iconst (v := 0) dX8_passesOrder_169 (by decide) ?_
                exact pw_zret dX8_passesOrder_170 rfl (by first | rfl | decide) (po_ret (b := false) (z := (numV (I (m + 7)) l (a + 1)).2 + 1) (v := 0) (n := 0) (c := 0) (ord_h2 h8 (Or.inl c_140) c_121 c_158 c_166) (mEq_u (mEq_u (mEq_u (mEq_u (mEq_u (mEq_u mEq_0 (by decide)) (by decide)) (by decide)) (by decide)) (by decide)) (by decide)) up2_s (fun z => by cases z))
          · refine pw_aload_n dX8_passesOrder_143 rfl rfl ?_
            refine pw_getI dX8_passesOrder_144 fd_RX8_186 (by decide) (mo_k h) rfl ?_
            rw [up2_nj (by decide), up2_nj (by decide), up2_nj (by decide), up2_nj (by decide), up2_s]
            refine pw_bipush (v := 108) dX8_passesOrder_147 (by decide) ?_
            refine pw_icmp_ne (tgt := 179) dX8_passesOrder_149 (by decide) (fun c_149 => ?_) (fun c_149 => ?_)
            · refine pw_iconst (v := 1) dX8_passesOrder_179 (by decide) ?_
              exact pw_zret dX8_passesOrder_180 rfl (by first | rfl | decide) (po_ret (b := true) (z := (numV (I (m + 7)) l (a + 1)).2) (v := (I (m + 7)) a) (n := (numV (I (m + 7)) l (a + 1)).1) (c := 0) (ord_bp h8 hv c_101 c_110 c_140 c_149 c_121) (mEq_u (mEq_u (mEq_u (mEq_u (mEq_u mEq_0 (by decide)) (by decide)) (by decide)) (by decide)) (by decide)) (by rw [up2_nj (by decide), up2_nj (by decide), up2_s]) (fun _ => ⟨by rw [up2_nj (by decide), up2_nj (by decide), up2_nj (by decide), up2_nj (by decide), up2_s], up2_s, fun z => by rw [up2_nj (by decide), up2_nj (by decide), up2_nj (by decide), up2_nj (by decide), up2_s] at z; exact (z.elim c_140 c_149).elim⟩))
            · refine pw_aload_n dX8_passesOrder_152 rfl rfl ?_
              refine pw_bipush (v := 99) dX8_passesOrder_153 (by decide) ?_
              refine pe_callVi dX8_passesOrder_155 oX_X8_passesSign lk_RX8_195 (sp_passesSign (a := (numV (I (m + 7)) l (a + 1)).2) h (by rw [up2_nj (by decide), up2_nj (by decide), up2_nj (by decide), up2_nj (by decide), up2_nj (by decide)]; exact hl) hl6 (by rw [up2_nj (by decide), up2_nj (by decide), up2_s]) (by have := (numV_le c_121).1; omega)) (mo_k h) rfl rfl (Nat.le_of_ble_eq_true rfl) (by decide) ?_
              simp only [rq]
              refine pw_ifB_eq (tgt := 169) dX8_passesOrder_158 (by decide) (fun c_158 => ?_) (fun c_158 => ?_)
              · rw [if_neg (fun z => by rw [z] at c_158; cases c_158)]
                refine pw_iconst (v := 0) dX8_passesOrder_169 (by decide) ?_
                exact pw_zret dX8_passesOrder_170 rfl (by first | rfl | decide) (po_ret (b := false) (z := (numV (I (m + 7)) l (a + 1)).2) (v := 0) (n := 0) (c := 0) (ord_h1 h8 (Or.inr c_149) c_121 c_158) (mEq_u (mEq_u (mEq_u (mEq_u (mEq_u mEq_0 (by decide)) (by decide)) (by decide)) (by decide)) (by decide)) (by rw [up2_nj (by decide), up2_nj (by decide), up2_s]) (fun z => by cases z))
              · rw [if_pos c_158]
                refine pw_aload_n dX8_passesOrder_161 rfl rfl ?_
                refine pw_iconst (v := 1) dX8_passesOrder_162 (by decide) ?_
                refine pe_callVi dX8_passesOrder_163 oX_X8_passesNumber lk_RX8_189 (sp_pn1 (a := (numV (I (m + 7)) l (a + 1)).2 + 1) h (by rw [up2_nj (by decide), up2_nj (by decide), up2_nj (by decide), up2_nj (by decide), up2_nj (by decide), up2_nj (by decide)]; exact hl) hl6 up2_s (by have := sgn_lt c_158; omega)) (mo_k h) rfl rfl (Nat.le_of_ble_eq_true rfl) (by decide) ?_
                simp only [rq]
                refine pw_ifB_ne (tgt := 171) dX8_passesOrder_166 (by decide) (fun c_166 => ?_) (fun c_166 => ?_)
                · rw [if_pos c_166]
                  refine pw_aload_n dX8_passesOrder_171 rfl rfl ?_
                  refine pw_aload_n dX8_passesOrder_172 rfl rfl ?_
                  refine pw_getI dX8_passesOrder_173 fd_RX8_183 (by decide) (mo_k h) rfl ?_
                  rw [up2_s]
                  refine pw_putI dX8_passesOrder_176 fd_RX8_198 (by decide) rfl ⟨rfl, rfl, rfl⟩ (mo_k h) ?_
                  refine pw_iconst (v := 1) dX8_passesOrder_179 (by decide) ?_
                  exact pw_zret dX8_passesOrder_180 rfl (by first | rfl | decide) (po_ret (b := true) (z := (numV (I (m + 7)) l (a + 1)).2 + 2) (v := (I (m + 7)) a) (n := (numV (I (m + 7)) l (a + 1)).1) (c := (I (m + 7)) ((numV (I (m + 7)) l (a + 1)).2 + 1) - 48) (ord_h3 h8 (Or.inr c_149) c_121 c_158 c_166) (mEq_u (mEq_u (mEq_u (mEq_u (mEq_u (mEq_u (mEq_u (mEq_u (mEq_u mEq_0 (by decide)) (by decide)) (by decide)) (by decide)) (by decide)) (by decide)) (by decide)) (by decide)) (by decide)) (by rw [up2_nj (by decide), up2_nj (by decide), up2_s]) (fun _ => ⟨by rw [up2_nj (by decide), up2_nj (by decide), up2_nj (by decide), up2_nj (by decide), up2_nj (by decide), up2_nj (by decide), up2_nj (by decide), up2_nj (by decide), up2_s], by rw [up2_nj (by decide), up2_nj (by decide), up2_nj (by decide), up2_nj (by decide), up2_s], fun _ => up2_s⟩))
                · rw [if_neg (fun z => by rw [z] at c_166; cases c_166)]
                  refine pw_iconst (v := 0) dX8_passesOrder_169 (by decide) ?_
                  exact pw_zret dX8_passesOrder_170 rfl (by first | rfl | decide) (po_ret (b := false) (z := (numV (I (m + 7)) l (a + 1)).2 + 1) (v := 0) (n := 0) (c := 0) (ord_h2 h8 (Or.inr c_149) c_121 c_158 c_166) (mEq_u (mEq_u (mEq_u (mEq_u (mEq_u (mEq_u mEq_0 (by decide)) (by decide)) (by decide)) (by decide)) (by decide)) (by decide)) up2_s (fun z => by cases z))
        · rw [if_neg (fun z => by rw [z] at c_121; cases c_121)]
          refine pw_iconst (v := 0) dX8_passesOrder_124 (by decide) ?_
          exact pw_zret dX8_passesOrder_125 rfl (by first | rfl | decide) (po_ret (b := false) (z := a + 1) (v := 0) (n := 0) (c := 0) (ord_f h8 hv c_121) (mEq_u (mEq_u mEq_0 (by decide)) (by decide)) up2_s (fun z => by cases z))
      · refine pw_iconst (v := 1) dX8_passesOrder_113 (by decide) ?_
        refine pw_goto (tgt := 118) dX8_passesOrder_114 (by decide) ?_
        refine pe_callVi dX8_passesOrder_118 oX_X8_passesNumber lk_RX8_189 (sp_pn1 (a := a + 1) h ((up2_nj (by decide)).trans ((up2_nj (by decide)).trans hl)) hl6 up2_s (by omega)) (mo_k h) rfl rfl (Nat.le_of_ble_eq_true rfl) (by decide) ?_
        simp only [rq]
        refine pw_ifB_ne (tgt := 126) dX8_passesOrder_121 (by decide) (fun c_121 => ?_) (fun c_121 => ?_)
        · rw [if_pos c_121]
          refine pw_aload_n dX8_passesOrder_126 rfl rfl ?_
          refine pw_aload_n dX8_passesOrder_127 rfl rfl ?_
          refine pw_getI dX8_passesOrder_128 fd_RX8_183 (by decide) (mo_k h) rfl ?_
          rw [up2_s]
          refine pw_putI dX8_passesOrder_131 fd_RX8_192 (by decide) rfl ⟨rfl, rfl, rfl⟩ (mo_k h) ?_
          refine pw_aload_n dX8_passesOrder_134 rfl rfl ?_
          refine pw_getI dX8_passesOrder_135 fd_RX8_186 (by decide) (mo_k h) rfl ?_
          rw [up2_nj (by decide), up2_nj (by decide), up2_nj (by decide), up2_nj (by decide), up2_s]
          refine pw_bipush (v := 104) dX8_passesOrder_138 (by decide) ?_
          refine pw_icmp_eq (tgt := 152) dX8_passesOrder_140 (by decide) (fun c_140 => absurd (c_110.symm.trans c_140) (by decide)) (fun c_140 => ?_)
          refine pw_aload_n dX8_passesOrder_143 rfl rfl ?_
          refine pw_getI dX8_passesOrder_144 fd_RX8_186 (by decide) (mo_k h) rfl ?_
          rw [up2_nj (by decide), up2_nj (by decide), up2_nj (by decide), up2_nj (by decide), up2_s]
          refine pw_bipush (v := 108) dX8_passesOrder_147 (by decide) ?_
          refine pw_icmp_ne (tgt := 179) dX8_passesOrder_149 (by decide) (fun c_149 => ?_) (fun c_149 => absurd (c_110.symm.trans c_149) (by decide))
          refine pw_iconst (v := 1) dX8_passesOrder_179 (by decide) ?_
          exact pw_zret dX8_passesOrder_180 rfl (by first | rfl | decide) (po_ret (b := true) (z := a + 2) (v := (I (m + 7)) a) (n := (I (m + 7)) (a + 1) - 48) (c := 0) (ord_rs h8 (Or.inr c_110) c_121) (mEq_u (mEq_u (mEq_u (mEq_u (mEq_u mEq_0 (by decide)) (by decide)) (by decide)) (by decide)) (by decide)) (by rw [up2_nj (by decide), up2_nj (by decide), up2_s]) (fun _ => ⟨by rw [up2_nj (by decide), up2_nj (by decide), up2_nj (by decide), up2_nj (by decide), up2_s], up2_s, fun z => absurd z (by rw [up2_nj (by decide), up2_nj (by decide), up2_nj (by decide), up2_nj (by decide), up2_s, c_110]; decide)⟩))
        · rw [if_neg (fun z => by rw [z] at c_121; cases c_121)]
          refine pw_iconst (v := 0) dX8_passesOrder_124 (by decide) ?_
          exact pw_zret dX8_passesOrder_125 rfl (by first | rfl | decide) (po_ret (b := false) (z := a + 1) (v := 0) (n := 0) (c := 0) (ord_f h8 hv c_121) (mEq_u (mEq_u mEq_0 (by decide)) (by decide)) up2_s (fun z => by cases z))
  refine pw_aload_n dX8_passesOrder_0 rfl rfl ?_
  refine pw_aload_n dX8_passesOrder_1 rfl rfl ?_
  refine pw_getI dX8_passesOrder_2 fd_RX8_177 (by decide) (mo_k h) rfl ?_
  rw [ha]
  refine pw_aload_n dX8_passesOrder_5 rfl rfl ?_
  refine pw_getI dX8_passesOrder_6 fd_RX8_174 (by decide) (mo_k h) rfl ?_
  rw [hl]
  refine pw_icmp_ge (tgt := 24) dX8_passesOrder_9 (by decide) (fun c_9 => ?_) (fun c_9 => ?_)
  · have h8 : ¬ a < l := fun z => nI_ge z (by omega) c_9
    refine pw_iconst (v := 0) dX8_passesOrder_24 (by decide) ?_
    refine pw_putI dX8_passesOrder_25 fd_RX8_186 (by decide) rfl ⟨rfl, rfl, rfl⟩ (mo_k h) ?_
    refine pw_aload_n dX8_passesOrder_28 rfl rfl ?_
    refine pw_getI dX8_passesOrder_29 fd_RX8_186 (by decide) (mo_k h) rfl ?_
    rw [up2_s]
    refine pw_bipush (v := 104) dX8_passesOrder_32 (by decide) ?_
    refine pw_icmp_eq (tgt := 84) dX8_passesOrder_34 (by decide) (fun c_34 => absurd c_34 (by decide)) (fun c_34 => ?_)
    refine pw_aload_n dX8_passesOrder_37 rfl rfl ?_
    refine pw_getI dX8_passesOrder_38 fd_RX8_186 (by decide) (mo_k h) rfl ?_
    rw [up2_s]
    refine pw_bipush (v := 108) dX8_passesOrder_41 (by decide) ?_
    refine pw_icmp_eq (tgt := 84) dX8_passesOrder_43 (by decide) (fun c_43 => absurd c_43 (by decide)) (fun c_43 => ?_)
    refine pw_aload_n dX8_passesOrder_46 rfl rfl ?_
    refine pw_getI dX8_passesOrder_47 fd_RX8_186 (by decide) (mo_k h) rfl ?_
    rw [up2_s]
    refine pw_bipush (v := 98) dX8_passesOrder_50 (by decide) ?_
    refine pw_icmp_eq (tgt := 84) dX8_passesOrder_52 (by decide) (fun c_52 => absurd c_52 (by decide)) (fun c_52 => ?_)
    refine pw_aload_n dX8_passesOrder_55 rfl rfl ?_
    refine pw_getI dX8_passesOrder_56 fd_RX8_186 (by decide) (mo_k h) rfl ?_
    rw [up2_s]
    refine pw_bipush (v := 114) dX8_passesOrder_59 (by decide) ?_
    refine pw_icmp_eq (tgt := 84) dX8_passesOrder_61 (by decide) (fun c_61 => absurd c_61 (by decide)) (fun c_61 => ?_)
    refine pw_aload_n dX8_passesOrder_64 rfl rfl ?_
    refine pw_getI dX8_passesOrder_65 fd_RX8_186 (by decide) (mo_k h) rfl ?_
    rw [up2_s]
    refine pw_bipush (v := 115) dX8_passesOrder_68 (by decide) ?_
    refine pw_icmp_eq (tgt := 84) dX8_passesOrder_70 (by decide) (fun c_70 => absurd c_70 (by decide)) (fun c_70 => ?_)
    refine pw_aload_n dX8_passesOrder_73 rfl rfl ?_
    refine pw_getI dX8_passesOrder_74 fd_RX8_186 (by decide) (mo_k h) rfl ?_
    rw [up2_s]
    refine pw_bipush (v := 112) dX8_passesOrder_77 (by decide) ?_
    refine pw_icmp_eq (tgt := 84) dX8_passesOrder_79 (by decide) (fun c_79 => absurd c_79 (by decide)) (fun c_79 => ?_)
    refine pw_iconst (v := 0) dX8_passesOrder_82 (by decide) ?_
    exact pw_zret dX8_passesOrder_83 rfl (by first | rfl | decide) (po_ret (b := false) (z := a) (v := 0) (n := 0) (c := 0) (po_no (v := 0) (by rw [if_neg h8]) (by decide) (by decide) (by decide) (by decide) (by decide) (by decide)) (mEq_u mEq_0 (by decide)) ((up2_nj (by decide)).trans ha) (fun z => by cases z))
  · have h8 : a < l := Nat.not_le.mp fun z => c_9 (nI_le z (by omega))
    refine pw_aload_n dX8_passesOrder_12 rfl rfl ?_
    refine pw_getR (x := (m + 7)) dX8_passesOrder_13 fd_RX8_29 (by decide) (mo_k h) rfl (mo_r7 h) ?_
    refine pw_aload_n dX8_passesOrder_16 rfl rfl ?_
    refine pw_getI dX8_passesOrder_17 fd_RX8_177 (by decide) (mo_k h) rfl ?_
    rw [ha]
    refine pw_ialdN (j := a) dX8_passesOrder_20 (mo_k7 h) (by omega) (by decide) ?_
    refine pw_goto (tgt := 25) dX8_passesOrder_21 (by decide) ?_
    refine pw_putI dX8_passesOrder_25 fd_RX8_186 (by decide) rfl ⟨rfl, rfl, rfl⟩ (mo_k h) ?_
    refine pw_aload_n dX8_passesOrder_28 rfl rfl ?_
    refine pw_getI dX8_passesOrder_29 fd_RX8_186 (by decide) (mo_k h) rfl ?_
    rw [up2_s]
    refine pw_bipush (v := 104) dX8_passesOrder_32 (by decide) ?_
    refine pw_icmp_eq (tgt := 84) dX8_passesOrder_34 (by decide) (fun c_34 => ?_) (fun c_34 => ?_)
    · exact K84 h8 (Or.inl c_34)
    · refine pw_aload_n dX8_passesOrder_37 rfl rfl ?_
      refine pw_getI dX8_passesOrder_38 fd_RX8_186 (by decide) (mo_k h) rfl ?_
      rw [up2_s]
      refine pw_bipush (v := 108) dX8_passesOrder_41 (by decide) ?_
      refine pw_icmp_eq (tgt := 84) dX8_passesOrder_43 (by decide) (fun c_43 => ?_) (fun c_43 => ?_)
      · exact K84 h8 (Or.inr (Or.inl c_43))
      · refine pw_aload_n dX8_passesOrder_46 rfl rfl ?_
        refine pw_getI dX8_passesOrder_47 fd_RX8_186 (by decide) (mo_k h) rfl ?_
        rw [up2_s]
        refine pw_bipush (v := 98) dX8_passesOrder_50 (by decide) ?_
        refine pw_icmp_eq (tgt := 84) dX8_passesOrder_52 (by decide) (fun c_52 => ?_) (fun c_52 => ?_)
        · exact K84 h8 (Or.inr (Or.inr (Or.inl c_52)))
        · refine pw_aload_n dX8_passesOrder_55 rfl rfl ?_
          refine pw_getI dX8_passesOrder_56 fd_RX8_186 (by decide) (mo_k h) rfl ?_
          rw [up2_s]
          refine pw_bipush (v := 114) dX8_passesOrder_59 (by decide) ?_
          refine pw_icmp_eq (tgt := 84) dX8_passesOrder_61 (by decide) (fun c_61 => ?_) (fun c_61 => ?_)
          · exact K84 h8 (Or.inr (Or.inr (Or.inr (Or.inl c_61))))
          · refine pw_aload_n dX8_passesOrder_64 rfl rfl ?_
            refine pw_getI dX8_passesOrder_65 fd_RX8_186 (by decide) (mo_k h) rfl ?_
            rw [up2_s]
            refine pw_bipush (v := 115) dX8_passesOrder_68 (by decide) ?_
            refine pw_icmp_eq (tgt := 84) dX8_passesOrder_70 (by decide) (fun c_70 => ?_) (fun c_70 => ?_)
            · exact K84 h8 (Or.inr (Or.inr (Or.inr (Or.inr (Or.inl c_70)))))
            · refine pw_aload_n dX8_passesOrder_73 rfl rfl ?_
              refine pw_getI dX8_passesOrder_74 fd_RX8_186 (by decide) (mo_k h) rfl ?_
              rw [up2_s]
              refine pw_bipush (v := 112) dX8_passesOrder_77 (by decide) ?_
              refine pw_icmp_eq (tgt := 84) dX8_passesOrder_79 (by decide) (fun c_79 => ?_) (fun c_79 => ?_)
              · exact K84 h8 (Or.inr (Or.inr (Or.inr (Or.inr (Or.inr c_79)))))
              · refine pw_iconst (v := 0) dX8_passesOrder_82 (by decide) ?_
                exact pw_zret dX8_passesOrder_83 rfl (by first | rfl | decide) (po_ret (b := false) (z := a) (v := 0) (n := 0) (c := 0) (po_no (v := ((I (m + 7)) a)) (by rw [if_pos h8]) c_34 c_43 c_52 c_61 c_70 c_79) (mEq_u mEq_0 (by decide)) ((up2_nj (by decide)).trans ha) (fun z => by cases z))
