set_option maxRecDepth 4000 in
theorem sp_newAsset {σ : pT} {I : pI} {F : pF} {p nA : Nat} {r w : Int32} (h : isPl σ p) (hA : I p 4 = nI nA) (hA8 : nA ≤ 8)  : PE yX5_newAsset cX5_newAsset mX5_newAsset [.ref p, .int r, .int w] σ I F (some (.int (newAssetR I F p nA r w).1)) (newAssetR I F p nA r w).2.1 (newAssetR I F p nA r w).2.2 := by
  refine PE.of oP_X5_newAsset (catOK rfl) (Nat.le_of_ble_eq_true rfl) ?_
  show PW _ _ _ 0 [.ref p, .int r, .int w] [] _ _ _ _
  refine pw_iload_n dX5_newAsset_0 rfl rfl ?_
  refine pw_iconst (v := 1) dX5_newAsset_1 (by decide) ?_
  refine pw_bipush (v := 100) dX5_newAsset_2 (by decide) ?_
  refine pe_callSNi dX5_newAsset_4 oX_X7_within nk_RX5_59 sp_within rfl rfl (Nat.le_of_ble_eq_true rfl) (by decide) ?_
  refine pw_ifB_eq (tgt := 21) dX5_newAsset_7 (by decide) (fun c_7 => ?_) (fun c_7 => ?_)
  · refine pw_bipush (v := (-2)) dX5_newAsset_21 (by decide) ?_
    exact pw_iret dX5_newAsset_23 rfl (rL (by rw [newAssetR, if_neg (fun z => of_decide_eq_false c_7 z.1)]))
  · refine pw_iload_n dX5_newAsset_10 rfl rfl ?_
    refine pw_iconst (v := 1) dX5_newAsset_11 (by decide) ?_
    refine pw_sipush (v := 200) dX5_newAsset_12 (by decide) ?_
    refine pe_callSNi dX5_newAsset_15 oX_X7_within nk_RX5_59 sp_within rfl rfl (Nat.le_of_ble_eq_true rfl) (by decide) ?_
    refine pw_ifB_ne (tgt := 24) dX5_newAsset_18 (by decide) (fun c_18 => ?_) (fun c_18 => ?_)
    · refine pw_aload_n dX5_newAsset_24 rfl rfl ?_
      refine pw_getI dX5_newAsset_25 fd_RX5_33 (by decide) (pl_k h) rfl ?_
      rw [hA]
      refine pw_aload_n dX5_newAsset_28 rfl rfl ?_
      refine pw_getR (x := (p + 1)) dX5_newAsset_29 fd_RX5_11 (by decide) (pl_k h) rfl (pl_rA h) ?_
      refine pw_alenR dX5_newAsset_32 (pl_kA h) (by decide) ?_
      refine pw_icmp_lt (tgt := 39) dX5_newAsset_33 (by decide) (fun c_33 => ?_) (fun c_33 => ?_)
      · have hlt : nA < 8 := (nI_ltI (b := 8) (by omega) (by decide)).mp c_33
        refine pw_aload_n dX5_newAsset_39 rfl rfl ?_
        refine pw_getR (x := (p + 1)) dX5_newAsset_40 fd_RX5_11 (by decide) (pl_k h) rfl (pl_rA h) ?_
        refine pw_aload_n dX5_newAsset_43 rfl rfl ?_
        refine pw_getI dX5_newAsset_44 fd_RX5_33 (by decide) (pl_k h) rfl ?_
        rw [hA]
        refine pw_aaldN (j := nA) (x := (p + 5 + nA)) dX5_newAsset_47 (pl_kA h) (by omega) (by decide) (by decide) (pl_eA h (by omega)) ?_
        refine pw_iload_n dX5_newAsset_48 rfl rfl ?_
        refine pw_iload_n dX5_newAsset_49 rfl rfl ?_
        refine pe_callVv dX5_newAsset_50 oX_X0_setUp lk_RX5_63 (sp_A_setUp (pl_oA h (by omega))) (pl_oA h (by omega)) rfl rfl (Nat.le_of_ble_eq_true rfl) (by decide) ?_
        refine pw_aload_n dX5_newAsset_53 rfl rfl ?_
        refine pw_dup dX5_newAsset_54 rfl ?_
        refine pw_getI dX5_newAsset_55 fd_RX5_33 (by decide) (pl_k h) rfl ?_
        rw [up2_ni (by omega), up2_ni (by omega), up2_ni (by omega), hA]
        refine pw_iconst (v := 1) dX5_newAsset_58 (by decide) ?_
        refine pw_iadd dX5_newAsset_59 ?_
        rw [nI_1]
        refine pw_putI dX5_newAsset_60 fd_RX5_33 (by decide) rfl ⟨rfl, rfl, rfl⟩ (pl_k h) ?_
        refine pw_aload_n dX5_newAsset_63 rfl rfl ?_
        refine pw_getI dX5_newAsset_64 fd_RX5_33 (by decide) (pl_k h) rfl ?_
        rw [up2_s]
        refine pw_iconst (v := 1) dX5_newAsset_67 (by decide) ?_
        refine pw_isub dX5_newAsset_68 ?_
        rw [nI_pred]
        exact pw_iret dX5_newAsset_69 rfl (rL (by rw [newAssetR, if_pos ⟨of_decide_eq_true c_7, of_decide_eq_true c_18⟩, if_pos hlt]))
      · have hge : ¬ nA < 8 := fun z => c_33 (nI_lt (b := 8) z (by decide))
        refine pw_bipush (v := (-3)) dX5_newAsset_36 (by decide) ?_
        exact pw_iret dX5_newAsset_38 rfl (rL (by rw [newAssetR, if_pos ⟨of_decide_eq_true c_7, of_decide_eq_true c_18⟩, if_neg hge]))
    · refine pw_bipush (v := (-2)) dX5_newAsset_21 (by decide) ?_
      exact pw_iret dX5_newAsset_23 rfl (rL (by rw [newAssetR, if_neg (fun z => of_decide_eq_false c_18 z.2)]))

set_option maxRecDepth 4000 in
theorem sp_newCrew {σ : pT} {I : pI} {F : pF} {p nC : Nat} {r w : Int32} (h : isPl σ p) (hC : I p 5 = nI nC) (hC5 : nC ≤ 5)  : PE yX5_newCrew cX5_newCrew mX5_newCrew [.ref p, .int r, .int w] σ I F (some (.int (newCrewR I F p nC r w).1)) (newCrewR I F p nC r w).2.1 (newCrewR I F p nC r w).2.2 := by
  refine PE.of oP_X5_newCrew (catOK rfl) (Nat.le_of_ble_eq_true rfl) ?_
  show PW _ _ _ 0 [.ref p, .int r, .int w] [] _ _ _ _
  refine pw_iload_n dX5_newCrew_0 rfl rfl ?_
  refine pw_iconst (v := 1) dX5_newCrew_1 (by decide) ?_
  refine pw_bipush (v := 6) dX5_newCrew_2 (by decide) ?_
  refine pe_callSNi dX5_newCrew_4 oX_X7_within nk_RX5_59 sp_within rfl rfl (Nat.le_of_ble_eq_true rfl) (by decide) ?_
  refine pw_ifB_eq (tgt := 20) dX5_newCrew_7 (by decide) (fun c_7 => ?_) (fun c_7 => ?_)
  · refine pw_bipush (v := (-2)) dX5_newCrew_20 (by decide) ?_
    exact pw_iret dX5_newCrew_22 rfl (rL (by rw [newCrewR, if_neg (fun z => of_decide_eq_false c_7 z.1)]))
  · refine pw_iload_n dX5_newCrew_10 rfl rfl ?_
    refine pw_iconst (v := 0) dX5_newCrew_11 (by decide) ?_
    refine pw_bipush (v := 15) dX5_newCrew_12 (by decide) ?_
    refine pe_callSNi dX5_newCrew_14 oX_X7_within nk_RX5_59 sp_within rfl rfl (Nat.le_of_ble_eq_true rfl) (by decide) ?_
    refine pw_ifB_ne (tgt := 23) dX5_newCrew_17 (by decide) (fun c_17 => ?_) (fun c_17 => ?_)
    · refine pw_aload_n dX5_newCrew_23 rfl rfl ?_
      refine pw_getI dX5_newCrew_24 fd_RX5_37 (by decide) (pl_k h) rfl ?_
      rw [hC]
      refine pw_aload_n dX5_newCrew_27 rfl rfl ?_
      refine pw_getR (x := (p + 2)) dX5_newCrew_28 fd_RX5_19 (by decide) (pl_k h) rfl (pl_rC h) ?_
      refine pw_alenR dX5_newCrew_31 (pl_kC h) (by decide) ?_
      refine pw_icmp_lt (tgt := 38) dX5_newCrew_32 (by decide) (fun c_32 => ?_) (fun c_32 => ?_)
      · have hlt : nC < 5 := (nI_ltI (b := 5) (by omega) (by decide)).mp c_32
        refine pw_aload_n dX5_newCrew_38 rfl rfl ?_
        refine pw_getR (x := (p + 2)) dX5_newCrew_39 fd_RX5_19 (by decide) (pl_k h) rfl (pl_rC h) ?_
        refine pw_aload_n dX5_newCrew_42 rfl rfl ?_
        refine pw_getI dX5_newCrew_43 fd_RX5_37 (by decide) (pl_k h) rfl ?_
        rw [hC]
        refine pw_aaldN (j := nC) (x := (p + 13 + nC)) dX5_newCrew_46 (pl_kC h) (by omega) (by decide) (by decide) (pl_eC h (by omega)) ?_
        refine pw_iload_n dX5_newCrew_47 rfl rfl ?_
        refine pw_iload_n dX5_newCrew_48 rfl rfl ?_
        refine pe_callVv dX5_newCrew_49 oX_X1_setUp lk_RX5_87 (sp_C_setUp (pl_oC h (by omega))) (pl_oC h (by omega)) rfl rfl (Nat.le_of_ble_eq_true rfl) (by decide) ?_
        refine pw_aload_n dX5_newCrew_52 rfl rfl ?_
        refine pw_dup dX5_newCrew_53 rfl ?_
        refine pw_getI dX5_newCrew_54 fd_RX5_37 (by decide) (pl_k h) rfl ?_
        rw [up2_ni (by omega), up2_ni (by omega), hC]
        refine pw_iconst (v := 1) dX5_newCrew_57 (by decide) ?_
        refine pw_iadd dX5_newCrew_58 ?_
        rw [nI_1]
        refine pw_putI dX5_newCrew_59 fd_RX5_37 (by decide) rfl ⟨rfl, rfl, rfl⟩ (pl_k h) ?_
        refine pw_aload_n dX5_newCrew_62 rfl rfl ?_
        refine pw_getI dX5_newCrew_63 fd_RX5_37 (by decide) (pl_k h) rfl ?_
        rw [up2_s]
        refine pw_iconst (v := 1) dX5_newCrew_66 (by decide) ?_
        refine pw_isub dX5_newCrew_67 ?_
        rw [nI_pred]
        exact pw_iret dX5_newCrew_68 rfl (rL (by rw [newCrewR, if_pos ⟨of_decide_eq_true c_7, of_decide_eq_true c_17⟩, if_pos hlt]))
      · have hge : ¬ nC < 5 := fun z => c_32 (nI_lt (b := 5) z (by decide))
        refine pw_bipush (v := (-3)) dX5_newCrew_35 (by decide) ?_
        exact pw_iret dX5_newCrew_37 rfl (rL (by rw [newCrewR, if_pos ⟨of_decide_eq_true c_7, of_decide_eq_true c_17⟩, if_neg hge]))
    · refine pw_bipush (v := (-2)) dX5_newCrew_20 (by decide) ?_
      exact pw_iret dX5_newCrew_22 rfl (rL (by rw [newCrewR, if_neg (fun z => of_decide_eq_false c_17 z.2)]))

set_option maxRecDepth 4000 in
theorem sp_setLink {σ : pT} {I : pI} {F : pF} {p nA : Nat} {a o z : Int32} (h : isPl σ p) (hA : I p 4 = nI nA) (hA8 : nA ≤ 8)  : PE yX5_setLink cX5_setLink mX5_setLink [.ref p, .int a, .int o, .int z] σ I F (some (.int (setLinkR I F p a o z).1)) (setLinkR I F p a o z).2.1 (setLinkR I F p a o z).2.2 := by
  refine PE.of oP_X5_setLink (catOK rfl) (Nat.le_of_ble_eq_true rfl) ?_
  show PW _ _ _ 0 [.ref p, .int a, .int o, .int z] [] _ _ _ _
  refine pw_aload_n dX5_setLink_0 rfl rfl ?_
  refine pw_iload_n dX5_setLink_1 rfl rfl ?_
  refine pe_callVi dX5_setLink_2 oX_X5_hasAsset lk_RX5_67 (sp_hasAsset h) (pl_k h) rfl rfl (Nat.le_of_ble_eq_true rfl) (by decide) ?_
  refine pw_ifB_eq (tgt := 16) dX5_setLink_5 (by decide) (fun c_5 => ?_) (fun c_5 => ?_)
  · refine pw_iconst (v := (-1)) dX5_setLink_16 (by decide) ?_
    exact pw_iret dX5_setLink_17 rfl (rL (by rw [setLinkR, if_neg (fun z9 => of_decide_eq_false c_5 z9.1)]))
  · obtain ⟨i, hi, rfl⟩ := has_nat c_5 hA (by omega)
    refine pw_aload_n dX5_setLink_8 rfl rfl ?_
    refine pw_iload_n dX5_setLink_9 rfl rfl ?_
    refine pe_callVi dX5_setLink_10 oX_X5_hasAsset lk_RX5_67 (sp_hasAsset h) (pl_k h) rfl rfl (Nat.le_of_ble_eq_true rfl) (by decide) ?_
    refine pw_ifB_ne (tgt := 18) dX5_setLink_13 (by decide) (fun c_13 => ?_) (fun c_13 => ?_)
    · obtain ⟨j, hj, rfl⟩ := has_nat c_13 hA (by omega)
      refine pw_iload_n dX5_setLink_18 rfl rfl ?_
      refine pw_iload_n dX5_setLink_19 rfl rfl ?_
      refine pw_icmp_ne (tgt := 26) dX5_setLink_20 (by decide) (fun c_20 => ?_) (fun c_20 => ?_)
      · refine pw_aload_n dX5_setLink_26 rfl rfl ?_
        refine pw_getR (x := (p + 1)) dX5_setLink_27 fd_RX5_11 (by decide) (pl_k h) rfl (pl_rA h) ?_
        refine pw_iload_n dX5_setLink_30 rfl rfl ?_
        refine pw_aaldN (j := i) (x := (p + 5 + i)) dX5_setLink_31 (pl_kA h) (by omega) (by decide) (by decide) (pl_eA h (by omega)) ?_
        refine pw_iload_n dX5_setLink_32 rfl rfl ?_
        refine pe_callVi dX5_setLink_33 oX_X0_isLinkedTo lk_RX5_71 (sp_isLinkedTo (pl_oA h (by omega))) (pl_oA h (by omega)) rfl rfl (Nat.le_of_ble_eq_true rfl) (by decide) ?_
        refine pw_iload_n dX5_setLink_36 rfl rfl ?_
        refine pw_icmp_ne (tgt := 43) dX5_setLink_37 (by decide) (fun c_37 => ?_) (fun c_37 => ?_)
        · refine pw_aload_n dX5_setLink_43 rfl rfl ?_
          refine pw_getR (x := (p + 1)) dX5_setLink_44 fd_RX5_11 (by decide) (pl_k h) rfl (pl_rA h) ?_
          refine pw_iload_n dX5_setLink_47 rfl rfl ?_
          refine pw_aaldN (j := i) (x := (p + 5 + i)) dX5_setLink_48 (pl_kA h) (by omega) (by decide) (by decide) (pl_eA h (by omega)) ?_
          refine pw_dup dX5_setLink_49 rfl ?_
          refine pw_getI dX5_setLink_50 fd_RX5_74 (by decide) (pl_oA h (by omega)) rfl ?_
          refine pw_iconst (v := 1) dX5_setLink_53 (by decide) ?_
          refine pw_iload_n dX5_setLink_54 rfl rfl ?_
          refine pw_ishl dX5_setLink_55 ?_
          refine pw_ixor dX5_setLink_56 ?_
          refine pw_putI dX5_setLink_57 fd_RX5_74 (by decide) rfl ⟨rfl, rfl, rfl⟩ (pl_oA h (by omega)) ?_
          refine pw_aload_n dX5_setLink_60 rfl rfl ?_
          refine pw_getR (x := (p + 1)) dX5_setLink_61 fd_RX5_11 (by decide) (pl_k h) rfl (pl_rA h) ?_
          refine pw_iload_n dX5_setLink_64 rfl rfl ?_
          refine pw_aaldN (j := j) (x := (p + 5 + j)) dX5_setLink_65 (pl_kA h) (by omega) (by decide) (by decide) (pl_eA h (by omega)) ?_
          refine pw_dup dX5_setLink_66 rfl ?_
          refine pw_getI dX5_setLink_67 fd_RX5_74 (by decide) (pl_oA h (by omega)) rfl ?_
          refine pw_iconst (v := 1) dX5_setLink_70 (by decide) ?_
          refine pw_iload_n dX5_setLink_71 rfl rfl ?_
          refine pw_ishl dX5_setLink_72 ?_
          refine pw_ixor dX5_setLink_73 ?_
          refine pw_putI dX5_setLink_74 fd_RX5_74 (by decide) rfl ⟨rfl, rfl, rfl⟩ (pl_oA h (by omega)) ?_
          refine pw_aload_n dX5_setLink_77 rfl rfl ?_
          refine pw_getR (x := (p + 1)) dX5_setLink_78 fd_RX5_11 (by decide) (pl_k h) rfl (pl_rA h) ?_
          refine pw_iload_n dX5_setLink_81 rfl rfl ?_
          refine pw_aaldN (j := i) (x := (p + 5 + i)) dX5_setLink_82 (pl_kA h) (by omega) (by decide) (by decide) (pl_eA h (by omega)) ?_
          refine pw_getI dX5_setLink_83 fd_RX5_74 (by decide) (pl_oA h (by omega)) rfl ?_
          refine pe_callSi dX5_setLink_86 oX_J6_bitCount_0f7a4 lk_RX5_77 sp_bitCount rfl rfl (Nat.le_of_ble_eq_true rfl) (by decide) ?_
          exact pw_iret dX5_setLink_89 rfl (rL (by rw [setLinkR, if_pos ⟨of_decide_eq_true c_5, of_decide_eq_true c_13⟩, if_neg c_20, nI_clamp (show i < 2 ^ 31 by omega), nI_clamp (show j < 2 ^ 31 by omega), if_neg]; exact c_37))
        · refine pw_bipush (v := (-5)) dX5_setLink_40 (by decide) ?_
          exact pw_iret dX5_setLink_42 rfl (rL (by rw [setLinkR, if_pos ⟨of_decide_eq_true c_5, of_decide_eq_true c_13⟩, if_neg c_20, nI_clamp (show i < 2 ^ 31 by omega), if_pos]; exact c_37))
      · refine pw_bipush (v := (-2)) dX5_setLink_23 (by decide) ?_
        exact pw_iret dX5_setLink_25 rfl (rL (by rw [setLinkR, if_pos ⟨of_decide_eq_true c_5, of_decide_eq_true c_13⟩, if_pos c_20]))
    · refine pw_iconst (v := (-1)) dX5_setLink_16 (by decide) ?_
      exact pw_iret dX5_setLink_17 rfl (rL (by rw [setLinkR, if_neg (fun z9 => of_decide_eq_false c_13 z9.2)]))

set_option maxRecDepth 4000 in
theorem sp_setBar {σ : pT} {I : pI} {F : pF} {p : Nat} {a o z : Int32} (h : isPl σ p)  : PE yX5_setBar cX5_setBar mX5_setBar [.ref p, .int a, .int o, .int z] σ I F (some (.int (setBarR I F p a o z).1)) (setBarR I F p a o z).2.1 (setBarR I F p a o z).2.2 := by
  refine PE.of oP_X5_setBar (catOK rfl) (Nat.le_of_ble_eq_true rfl) ?_
  show PW _ _ _ 0 [.ref p, .int a, .int o, .int z] [] _ _ _ _
  refine pw_iload_n dX5_setBar_0 rfl rfl ?_
  refine pw_iconst (v := 0) dX5_setBar_1 (by decide) ?_
  refine pw_aload_n dX5_setBar_2 rfl rfl ?_
  refine pw_getR (x := (p + 4)) dX5_setBar_3 fd_RX5_29 (by decide) (pl_k h) rfl (pl_rB h) ?_
  refine pw_alenI dX5_setBar_6 (pl_kB h) ?_
  refine pw_iconst (v := 1) dX5_setBar_7 (by decide) ?_
  refine pw_isub dX5_setBar_8 ?_
  rw [show (Int32.ofNat 5 - 1 : Int32) = 4 by decide]
  refine pe_callSNi dX5_setBar_9 oX_X7_within nk_RX5_59 sp_within rfl rfl (Nat.le_of_ble_eq_true rfl) (by decide) ?_
  refine pw_ifB_eq (tgt := 30) dX5_setBar_12 (by decide) (fun c_12 => ?_) (fun c_12 => ?_)
  · refine pw_bipush (v := (-2)) dX5_setBar_30 (by decide) ?_
    exact pw_iret dX5_setBar_32 rfl (rL (by rw [setBarR, if_neg (fun z9 => of_decide_eq_false c_12 z9.1)]))
  · obtain ⟨i, hi0, hi, rfl⟩ := win_nat (lo := 0) (hi := 4) c_12 (by decide) (by decide)
    refine pw_iload_n dX5_setBar_15 rfl rfl ?_
    refine pw_iconst (v := 0) dX5_setBar_16 (by decide) ?_
    refine pw_aload_n dX5_setBar_17 rfl rfl ?_
    refine pw_getR (x := (p + 4)) dX5_setBar_18 fd_RX5_29 (by decide) (pl_k h) rfl (pl_rB h) ?_
    refine pw_alenI dX5_setBar_21 (pl_kB h) ?_
    refine pw_iconst (v := 1) dX5_setBar_22 (by decide) ?_
    refine pw_isub dX5_setBar_23 ?_
    rw [show (Int32.ofNat 5 - 1 : Int32) = 4 by decide]
    refine pe_callSNi dX5_setBar_24 oX_X7_within nk_RX5_59 sp_within rfl rfl (Nat.le_of_ble_eq_true rfl) (by decide) ?_
    refine pw_ifB_ne (tgt := 33) dX5_setBar_27 (by decide) (fun c_27 => ?_) (fun c_27 => ?_)
    · obtain ⟨j, hj0, hj, rfl⟩ := win_nat (lo := 0) (hi := 4) c_27 (by decide) (by decide)
      refine pw_aload_n dX5_setBar_33 rfl rfl ?_
      refine pw_iload_n dX5_setBar_34 rfl rfl ?_
      refine pw_iload_n dX5_setBar_35 rfl rfl ?_
      refine pe_callVi dX5_setBar_36 oX_X5_doBar lk_RX5_83 (sp_doBar h (by omega)) (pl_k h) rfl rfl (Nat.le_of_ble_eq_true rfl) (by decide) ?_
      refine pw_iload_n dX5_setBar_39 rfl rfl ?_
      refine pw_icmp_ne (tgt := 46) dX5_setBar_40 (by decide) (fun c_40 => ?_) (fun c_40 => ?_)
      · refine pw_aload_n dX5_setBar_46 rfl rfl ?_
        refine pw_getR (x := (p + 4)) dX5_setBar_47 fd_RX5_29 (by decide) (pl_k h) rfl (pl_rB h) ?_
        refine pw_iload_n dX5_setBar_50 rfl rfl ?_
        refine pw_dup2 dX5_setBar_51 rfl rfl ?_
        refine pw_ialdN (j := i) dX5_setBar_52 (pl_kB h) (by omega) (by decide) ?_
        refine pw_iconst (v := 1) dX5_setBar_53 (by decide) ?_
        refine pw_iload_n dX5_setBar_54 rfl rfl ?_
        refine pw_ishl dX5_setBar_55 ?_
        refine pw_ixor dX5_setBar_56 ?_
        refine pw_iastN (j := i) dX5_setBar_57 (pl_kB h) (by omega) (by decide) ?_
        refine pw_iload_n dX5_setBar_58 rfl rfl ?_
        refine pw_iload_n dX5_setBar_59 rfl rfl ?_
        refine pw_icmp_eq (tgt := 75) dX5_setBar_60 (by decide) (fun c_60 => ?_) (fun c_60 => ?_)
        · refine pw_aload_n dX5_setBar_75 rfl rfl ?_
          refine pw_getR (x := (p + 4)) dX5_setBar_76 fd_RX5_29 (by decide) (pl_k h) rfl (pl_rB h) ?_
          refine pw_iload_n dX5_setBar_79 rfl rfl ?_
          refine pw_ialdN (j := i) dX5_setBar_80 (pl_kB h) (by omega) (by decide) ?_
          refine pe_callSi dX5_setBar_81 oX_J6_bitCount_0f7a4 lk_RX5_77 sp_bitCount rfl rfl (Nat.le_of_ble_eq_true rfl) (by decide) ?_
          exact pw_iret dX5_setBar_84 rfl (rL (by rw [setBarR, if_pos ⟨of_decide_eq_true c_12, of_decide_eq_true c_27⟩, nI_clamp (show i < 2 ^ 31 by omega), nI_clamp (show j < 2 ^ 31 by omega), if_neg c_40, barI2, if_pos c_60]; rfl))
        · refine pw_aload_n dX5_setBar_63 rfl rfl ?_
          refine pw_getR (x := (p + 4)) dX5_setBar_64 fd_RX5_29 (by decide) (pl_k h) rfl (pl_rB h) ?_
          refine pw_iload_n dX5_setBar_67 rfl rfl ?_
          refine pw_dup2 dX5_setBar_68 rfl rfl ?_
          refine pw_ialdN (j := j) dX5_setBar_69 (pl_kB h) (by omega) (by decide) ?_
          refine pw_iconst (v := 1) dX5_setBar_70 (by decide) ?_
          refine pw_iload_n dX5_setBar_71 rfl rfl ?_
          refine pw_ishl dX5_setBar_72 ?_
          refine pw_ixor dX5_setBar_73 ?_
          refine pw_iastN (j := j) dX5_setBar_74 (pl_kB h) (by omega) (by decide) ?_
          refine pw_aload_n dX5_setBar_75 rfl rfl ?_
          refine pw_getR (x := (p + 4)) dX5_setBar_76 fd_RX5_29 (by decide) (pl_k h) rfl (pl_rB h) ?_
          refine pw_iload_n dX5_setBar_79 rfl rfl ?_
          refine pw_ialdN (j := i) dX5_setBar_80 (pl_kB h) (by omega) (by decide) ?_
          refine pe_callSi dX5_setBar_81 oX_J6_bitCount_0f7a4 lk_RX5_77 sp_bitCount rfl rfl (Nat.le_of_ble_eq_true rfl) (by decide) ?_
          exact pw_iret dX5_setBar_84 rfl (rL (by rw [setBarR, if_pos ⟨of_decide_eq_true c_12, of_decide_eq_true c_27⟩, nI_clamp (show i < 2 ^ 31 by omega), nI_clamp (show j < 2 ^ 31 by omega), if_neg c_40, barI2, if_neg c_60]; rfl))
      · refine pw_bipush (v := (-5)) dX5_setBar_43 (by decide) ?_
        exact pw_iret dX5_setBar_45 rfl (rL (by rw [setBarR, if_pos ⟨of_decide_eq_true c_12, of_decide_eq_true c_27⟩, nI_clamp (show i < 2 ^ 31 by omega), if_pos c_40]))
    · refine pw_bipush (v := (-2)) dX5_setBar_30 (by decide) ?_
      exact pw_iret dX5_setBar_32 rfl (rL (by rw [setBarR, if_neg (fun z9 => of_decide_eq_false c_27 z9.2)]))

theorem taskI_fr {I : pI} {q i j : Nat} {a b c d e f : Int32} (h : i ≠ q) : taskI I q a b c d e f i j = I i j := by
  unfold taskI
  rw [up2_ni h, up2_ni h, up2_ni h, up2_ni h, up2_ni h, up2_ni h, up2_ni h, up2_ni h, up2_ni h, up2_ni h, up2_ni h, up2_ni h]
set_option maxRecDepth 4000 in
theorem sp_newTask {σ : pT} {I : pI} {F : pF} {p nA n : Nat} {a b c d e f : Int32} (h : isPl σ p) (hn : I p 6 = nI n) (hn4 : n ≤ 24) (hA : I p 4 = nI nA) (hA8 : nA ≤ 8)  : PE yX5_newTask cX5_newTask mX5_newTask [.ref p, .int a, .int b, .int c, .int d, .int e, .int f] σ I F (some (.int (newTaskR I F p n a b c d e f).1)) (newTaskR I F p n a b c d e f).2.1 (newTaskR I F p n a b c d e f).2.2 := by
  refine PE.of oP_X5_newTask (catOK rfl) (Nat.le_of_ble_eq_true rfl) ?_
  show PW _ _ _ 0 [.ref p, .int a, .int b, .int c, .int d, .int e, .int f] [] _ _ _ _
  refine pw_aload_n dX5_newTask_0 rfl rfl ?_
  refine pw_iload_n dX5_newTask_1 rfl rfl ?_
  refine pe_callVi dX5_newTask_2 oX_X5_hasAsset lk_RX5_67 (sp_hasAsset h) (pl_k h) rfl rfl (Nat.le_of_ble_eq_true rfl) (by decide) ?_
  refine pw_ifB_ne (tgt := 10) dX5_newTask_5 (by decide) (fun c_5 => ?_) (fun c_5 => ?_)
  · refine pw_iload_n dX5_newTask_10 rfl rfl ?_
    refine pw_iconst (v := 0) dX5_newTask_11 (by decide) ?_
    refine pw_iconst (v := 3) dX5_newTask_12 (by decide) ?_
    refine pe_callSNi dX5_newTask_13 oX_X7_within nk_RX5_59 sp_within rfl rfl (Nat.le_of_ble_eq_true rfl) (by decide) ?_
    refine pw_ifB_eq (tgt := 65) dX5_newTask_16 (by decide) (fun c_16 => ?_) (fun c_16 => ?_)
    · refine pw_bipush (v := (-2)) dX5_newTask_65 (by decide) ?_
      exact pw_iret dX5_newTask_67 rfl (rL (by rw [newTaskR, if_pos (of_decide_eq_true c_5), if_neg (fun z9 => of_decide_eq_false c_16 z9.1)]))
    · refine pw_iload_n dX5_newTask_19 rfl rfl ?_
      refine pw_iconst (v := 1) dX5_newTask_20 (by decide) ?_
      refine pw_bipush (v := 6) dX5_newTask_21 (by decide) ?_
      refine pe_callSNi dX5_newTask_23 oX_X7_within nk_RX5_59 sp_within rfl rfl (Nat.le_of_ble_eq_true rfl) (by decide) ?_
      refine pw_ifB_eq (tgt := 65) dX5_newTask_26 (by decide) (fun c_26 => ?_) (fun c_26 => ?_)
      · refine pw_bipush (v := (-2)) dX5_newTask_65 (by decide) ?_
        exact pw_iret dX5_newTask_67 rfl (rL (by rw [newTaskR, if_pos (of_decide_eq_true c_5), if_neg (fun z9 => of_decide_eq_false c_26 z9.2.1)]))
      · refine pw_iload dX5_newTask_29 rfl ?_
        refine pw_iconst (v := 0) dX5_newTask_31 (by decide) ?_
        refine pw_iconst (v := 4) dX5_newTask_32 (by decide) ?_
        refine pe_callSNi dX5_newTask_33 oX_X7_within nk_RX5_59 sp_within rfl rfl (Nat.le_of_ble_eq_true rfl) (by decide) ?_
        refine pw_ifB_eq (tgt := 65) dX5_newTask_36 (by decide) (fun c_36 => ?_) (fun c_36 => ?_)
        · refine pw_bipush (v := (-2)) dX5_newTask_65 (by decide) ?_
          exact pw_iret dX5_newTask_67 rfl (rL (by rw [newTaskR, if_pos (of_decide_eq_true c_5), if_neg (fun z9 => of_decide_eq_false c_36 z9.2.2.1)]))
        · refine pw_iload dX5_newTask_39 rfl ?_
          refine pw_iconst (v := 1) dX5_newTask_41 (by decide) ?_
          refine pw_bipush (v := 48) dX5_newTask_42 (by decide) ?_
          refine pe_callSNi dX5_newTask_44 oX_X7_within nk_RX5_59 sp_within rfl rfl (Nat.le_of_ble_eq_true rfl) (by decide) ?_
          refine pw_ifB_eq (tgt := 65) dX5_newTask_47 (by decide) (fun c_47 => ?_) (fun c_47 => ?_)
          · refine pw_bipush (v := (-2)) dX5_newTask_65 (by decide) ?_
            exact pw_iret dX5_newTask_67 rfl (rL (by rw [newTaskR, if_pos (of_decide_eq_true c_5), if_neg (fun z9 => of_decide_eq_false c_47 z9.2.2.2.1)]))
          · refine pw_iload dX5_newTask_50 rfl ?_
            refine pw_aload_n dX5_newTask_52 rfl rfl ?_
            refine pw_getI dX5_newTask_53 fd_RX5_43 (by decide) (pl_k h) rfl ?_
            refine pw_sipush (v := 2000) dX5_newTask_56 (by decide) ?_
            refine pe_callSNi dX5_newTask_59 oX_X7_within nk_RX5_59 sp_within rfl rfl (Nat.le_of_ble_eq_true rfl) (by decide) ?_
            refine pw_ifB_ne (tgt := 68) dX5_newTask_62 (by decide) (fun c_62 => ?_) (fun c_62 => ?_)
            · refine pw_aload_n dX5_newTask_68 rfl rfl ?_
              refine pw_getI dX5_newTask_69 fd_RX5_40 (by decide) (pl_k h) rfl ?_
              rw [hn]
              refine pw_aload_n dX5_newTask_72 rfl rfl ?_
              refine pw_getR (x := (p + 3)) dX5_newTask_73 fd_RX5_25 (by decide) (pl_k h) rfl (pl_rT h) ?_
              refine pw_alenR dX5_newTask_76 (pl_kT h) (by decide) ?_
              refine pw_icmp_lt (tgt := 83) dX5_newTask_77 (by decide) (fun c_77 => ?_) (fun c_77 => ?_)
              · have hlt : n < 24 := (nI_ltI (b := 24) (by omega) (by decide)).mp c_77
                refine pw_aload_n dX5_newTask_83 rfl rfl ?_
                refine pw_getR (x := (p + 3)) dX5_newTask_84 fd_RX5_25 (by decide) (pl_k h) rfl (pl_rT h) ?_
                refine pw_aload_n dX5_newTask_87 rfl rfl ?_
                refine pw_getI dX5_newTask_88 fd_RX5_40 (by decide) (pl_k h) rfl ?_
                rw [hn]
                refine pw_aaldN (j := n) (x := (p + 18 + n)) dX5_newTask_91 (pl_kT h) (by omega) (by decide) (by decide) (pl_eT h (by omega)) ?_
                refine pw_iload_n dX5_newTask_92 rfl rfl ?_
                refine pw_iload_n dX5_newTask_93 rfl rfl ?_
                refine pw_iload_n dX5_newTask_94 rfl rfl ?_
                refine pw_iload dX5_newTask_95 rfl ?_
                refine pw_iload dX5_newTask_97 rfl ?_
                refine pw_iload dX5_newTask_99 rfl ?_
                refine pe_callVv dX5_newTask_101 oX_X6_setUp lk_RX5_88 (sp_T_setUp (pl_oT h (by omega))) (pl_oT h (by omega)) rfl rfl (Nat.le_of_ble_eq_true rfl) (by decide) ?_
                refine pw_aload_n dX5_newTask_104 rfl rfl ?_
                refine pw_dup dX5_newTask_105 rfl ?_
                refine pw_getI dX5_newTask_106 fd_RX5_40 (by decide) (pl_k h) rfl ?_
                rw [show up2 (up2 (up2 (up2 (up2 (up2 (up2 (up2 (up2 (up2 (up2 (up2 I (p + 18 + n) 0 a) (p + 18 + n) 1 b) (p + 18 + n) 2 c) (p + 18 + n) 3 d) (p + 18 + n) 4 e) (p + 18 + n) 5 f) (p + 18 + n) 6 (f + 2 * e + 6)) (p + 18 + n) 7 0) (p + 18 + n) 8 (-5)) (p + 18 + n) 9 0) (p + 18 + n) 10 0) (p + 18 + n) 11 0 p 6 = nI n from (taskI_fr (by omega)).trans hn]
                refine pw_iconst (v := 1) dX5_newTask_109 (by decide) ?_
                refine pw_iadd dX5_newTask_110 ?_
                rw [nI_1]
                refine pw_putI dX5_newTask_111 fd_RX5_40 (by decide) rfl ⟨rfl, rfl, rfl⟩ (pl_k h) ?_
                refine pw_aload_n dX5_newTask_114 rfl rfl ?_
                refine pw_getI dX5_newTask_115 fd_RX5_40 (by decide) (pl_k h) rfl ?_
                rw [up2_s]
                refine pw_iconst (v := 1) dX5_newTask_118 (by decide) ?_
                refine pw_isub dX5_newTask_119 ?_
                rw [nI_pred]
                exact pw_iret dX5_newTask_120 rfl (rL (by rw [newTaskR, if_pos (of_decide_eq_true c_5), if_pos ⟨of_decide_eq_true c_16, of_decide_eq_true c_26, of_decide_eq_true c_36, of_decide_eq_true c_47, of_decide_eq_true c_62⟩, if_pos hlt]; rfl))
              · have hge : ¬ n < 24 := fun z => c_77 (nI_lt (b := 24) z (by decide))
                refine pw_bipush (v := (-3)) dX5_newTask_80 (by decide) ?_
                exact pw_iret dX5_newTask_82 rfl (rL (by rw [newTaskR, if_pos (of_decide_eq_true c_5), if_pos ⟨of_decide_eq_true c_16, of_decide_eq_true c_26, of_decide_eq_true c_36, of_decide_eq_true c_47, of_decide_eq_true c_62⟩, if_neg hge]))
            · refine pw_bipush (v := (-2)) dX5_newTask_65 (by decide) ?_
              exact pw_iret dX5_newTask_67 rfl (rL (by rw [newTaskR, if_pos (of_decide_eq_true c_5), if_neg (fun z9 => of_decide_eq_false c_62 z9.2.2.2.2)]))
  · refine pw_iconst (v := (-1)) dX5_newTask_8 (by decide) ?_
    exact pw_iret dX5_newTask_9 rfl (rL (by rw [newTaskR, if_neg (of_decide_eq_false c_5)]))

set_option maxRecDepth 4000 in
theorem sp_startAsset {σ : pT} {I : pI} {F : pF} {p nA n : Nat} {a : Int32} (h : isPl σ p) (hn : I p 6 = nI n) (hn4 : n ≤ 24) (hA : I p 4 = nI nA) (hA8 : nA ≤ 8)  : PE yX5_startAsset cX5_startAsset mX5_startAsset [.ref p, .int a] σ I F (some (.int (startR I F p nA n a).1)) (startR I F p nA n a).2.1 (startR I F p nA n a).2.2 := by
  refine PE.of oP_X5_startAsset (catOK rfl) (Nat.le_of_ble_eq_true rfl) ?_
  show PW _ _ _ 0 [.ref p, .int a] [] _ _ _ _
  refine pw_aload_n dX5_startAsset_0 rfl rfl ?_
  refine pw_iload_n dX5_startAsset_1 rfl rfl ?_
  refine pe_callVi dX5_startAsset_2 oX_X5_hasAsset lk_RX5_67 (sp_hasAsset h) (pl_k h) rfl rfl (Nat.le_of_ble_eq_true rfl) (by decide) ?_
  refine pw_ifB_ne (tgt := 10) dX5_startAsset_5 (by decide) (fun c_5 => ?_) (fun c_5 => ?_)
  · obtain ⟨i, hi, rfl⟩ := has_nat c_5 hA (by omega)
    refine pw_aload_n dX5_startAsset_10 rfl rfl ?_
    refine pw_iload_n dX5_startAsset_11 rfl rfl ?_
    refine pe_callVi dX5_startAsset_12 oX_X5_tagsHanging lk_RX5_91 (sp_tagsHanging h hn hn4) (pl_k h) rfl rfl (Nat.le_of_ble_eq_true rfl) (by decide) ?_
    refine pw_if_le (tgt := 21) dX5_startAsset_15 (by decide) (fun c_15 => ?_) (fun c_15 => ?_)
    · refine pw_aload_n dX5_startAsset_21 rfl rfl ?_
      refine pw_getR (x := (p + 1)) dX5_startAsset_22 fd_RX5_11 (by decide) (pl_k h) rfl (pl_rA h) ?_
      refine pw_iload_n dX5_startAsset_25 rfl rfl ?_
      refine pw_aaldN (j := i) (x := (p + 5 + i)) dX5_startAsset_26 (pl_kA h) (by omega) (by decide) (by decide) (pl_eA h (by omega)) ?_
      refine pw_getI dX5_startAsset_27 fd_RX5_94 (by decide) (pl_oA h (by omega)) rfl ?_
      refine pw_if_eq (tgt := 36) dX5_startAsset_30 (by decide) (fun c_30 => ?_) (fun c_30 => ?_)
      · refine pw_aload_n dX5_startAsset_36 rfl rfl ?_
        refine pw_getR (x := (p + 1)) dX5_startAsset_37 fd_RX5_11 (by decide) (pl_k h) rfl (pl_rA h) ?_
        refine pw_iload_n dX5_startAsset_40 rfl rfl ?_
        refine pw_aaldN (j := i) (x := (p + 5 + i)) dX5_startAsset_41 (pl_kA h) (by omega) (by decide) (by decide) (pl_eA h (by omega)) ?_
        refine pw_iconst (v := 1) dX5_startAsset_42 (by decide) ?_
        refine pw_putI dX5_startAsset_43 fd_RX5_94 (by decide) rfl ⟨by decide, by decide, rfl⟩ (pl_oA h (by omega)) ?_
        refine pw_aload_n dX5_startAsset_46 rfl rfl ?_
        refine pe_callVi dX5_startAsset_47 oX_X5_assetsRunning lk_RX5_98 (sp_assetsRunning h ((up2_ni (by omega)).trans hA) hA8) (pl_k h) rfl rfl (Nat.le_of_ble_eq_true rfl) (by decide) ?_
        exact pw_iret dX5_startAsset_50 rfl (rL (by rw [startR, if_pos (of_decide_eq_true c_5), if_pos c_15, nI_clamp (show i < 2 ^ 31 by omega), if_pos c_30]; rfl))
      · refine pw_bipush (v := (-5)) dX5_startAsset_33 (by decide) ?_
        exact pw_iret dX5_startAsset_35 rfl (rL (by rw [startR, if_pos (of_decide_eq_true c_5), if_pos c_15, nI_clamp (show i < 2 ^ 31 by omega), if_neg c_30]))
    · refine pw_bipush (v := (-4)) dX5_startAsset_18 (by decide) ?_
      exact pw_iret dX5_startAsset_20 rfl (rL (by rw [startR, if_pos (of_decide_eq_true c_5), if_neg c_15]))
  · refine pw_iconst (v := (-1)) dX5_startAsset_8 (by decide) ?_
    exact pw_iret dX5_startAsset_9 rfl (rL (by rw [startR, if_neg (of_decide_eq_false c_5)]))

set_option maxRecDepth 4000 in
theorem sp_stopAsset {σ : pT} {I : pI} {F : pF} {p nA : Nat} {a : Int32} (h : isPl σ p) (hA : I p 4 = nI nA) (hA8 : nA ≤ 8)  : PE yX5_stopAsset cX5_stopAsset mX5_stopAsset [.ref p, .int a] σ I F (some (.int (stopR I F p nA a).1)) (stopR I F p nA a).2.1 (stopR I F p nA a).2.2 := by
  refine PE.of oP_X5_stopAsset (catOK rfl) (Nat.le_of_ble_eq_true rfl) ?_
  show PW _ _ _ 0 [.ref p, .int a] [] _ _ _ _
  refine pw_aload_n dX5_stopAsset_0 rfl rfl ?_
  refine pw_iload_n dX5_stopAsset_1 rfl rfl ?_
  refine pe_callVi dX5_stopAsset_2 oX_X5_hasAsset lk_RX5_67 (sp_hasAsset h) (pl_k h) rfl rfl (Nat.le_of_ble_eq_true rfl) (by decide) ?_
  refine pw_ifB_ne (tgt := 10) dX5_stopAsset_5 (by decide) (fun c_5 => ?_) (fun c_5 => ?_)
  · obtain ⟨i, hi, rfl⟩ := has_nat c_5 hA (by omega)
    refine pw_aload_n dX5_stopAsset_10 rfl rfl ?_
    refine pw_getR (x := (p + 1)) dX5_stopAsset_11 fd_RX5_11 (by decide) (pl_k h) rfl (pl_rA h) ?_
    refine pw_iload_n dX5_stopAsset_14 rfl rfl ?_
    refine pw_aaldN (j := i) (x := (p + 5 + i)) dX5_stopAsset_15 (pl_kA h) (by omega) (by decide) (by decide) (pl_eA h (by omega)) ?_
    refine pw_getI dX5_stopAsset_16 fd_RX5_94 (by decide) (pl_oA h (by omega)) rfl ?_
    refine pw_if_ne (tgt := 25) dX5_stopAsset_19 (by decide) (fun c_19 => ?_) (fun c_19 => ?_)
    · refine pw_aload_n dX5_stopAsset_25 rfl rfl ?_
      refine pw_getR (x := (p + 1)) dX5_stopAsset_26 fd_RX5_11 (by decide) (pl_k h) rfl (pl_rA h) ?_
      refine pw_iload_n dX5_stopAsset_29 rfl rfl ?_
      refine pw_aaldN (j := i) (x := (p + 5 + i)) dX5_stopAsset_30 (pl_kA h) (by omega) (by decide) (by decide) (pl_eA h (by omega)) ?_
      refine pw_iconst (v := 0) dX5_stopAsset_31 (by decide) ?_
      refine pw_putI dX5_stopAsset_32 fd_RX5_94 (by decide) rfl ⟨by decide, by decide, rfl⟩ (pl_oA h (by omega)) ?_
      refine pw_aload_n dX5_stopAsset_35 rfl rfl ?_
      refine pe_callVi dX5_stopAsset_36 oX_X5_assetsRunning lk_RX5_98 (sp_assetsRunning h ((up2_ni (by omega)).trans hA) hA8) (pl_k h) rfl rfl (Nat.le_of_ble_eq_true rfl) (by decide) ?_
      exact pw_iret dX5_stopAsset_39 rfl (rL (by rw [stopR, if_pos (of_decide_eq_true c_5), nI_clamp (show i < 2 ^ 31 by omega), if_neg c_19]; rfl))
    · refine pw_bipush (v := (-5)) dX5_stopAsset_22 (by decide) ?_
      exact pw_iret dX5_stopAsset_24 rfl (rL (by rw [stopR, if_pos (of_decide_eq_true c_5), nI_clamp (show i < 2 ^ 31 by omega), if_pos c_19]))
  · refine pw_iconst (v := (-1)) dX5_stopAsset_8 (by decide) ?_
    exact pw_iret dX5_stopAsset_9 rfl (rL (by rw [stopR, if_neg (of_decide_eq_false c_5)]))

set_option maxRecDepth 4000 in
theorem sp_hangTag {σ : pT} {I : pI} {F : pF} {p nA nC n : Nat} {a c : Int32} (h : isPl σ p) (hn : I p 6 = nI n) (hn4 : n ≤ 24) (hA : I p 4 = nI nA) (hA8 : nA ≤ 8) (hC : I p 5 = nI nC) (hC5 : nC ≤ 5) (hW : ∀ t, t < n → ∃ a, a < nA ∧ I (p + 18 + t) 0 = nI a)  : PE yX5_hangTag cX5_hangTag mX5_hangTag [.ref p, .int a, .int c] σ I F (some (.int (hangR I F p n a c).1)) (hangR I F p n a c).2.1 (hangR I F p n a c).2.2 := by
  refine PE.of oP_X5_hangTag (catOK rfl) (Nat.le_of_ble_eq_true rfl) ?_
  show PW _ _ _ 0 [.ref p, .int a, .int c, pJ] [] _ _ _ _
  refine pw_aload_n dX5_hangTag_0 rfl rfl ?_
  refine pw_iload_n dX5_hangTag_1 rfl rfl ?_
  refine pe_callVi dX5_hangTag_2 oX_X5_hasTask lk_RX5_102 (sp_hasTask h) (pl_k h) rfl rfl (Nat.le_of_ble_eq_true rfl) (by decide) ?_
  refine pw_ifB_eq (tgt := 16) dX5_hangTag_5 (by decide) (fun c_5 => ?_) (fun c_5 => ?_)
  · refine pw_iconst (v := (-1)) dX5_hangTag_16 (by decide) ?_
    exact pw_iret dX5_hangTag_17 rfl (rL (by rw [hangR, if_neg (fun z9 => of_decide_eq_false c_5 z9.1)]))
  · obtain ⟨t, ht, rfl⟩ := has_nat c_5 hn (by omega)
    obtain ⟨at_, haA, hat⟩ := hW t ht
    refine pw_aload_n dX5_hangTag_8 rfl rfl ?_
    refine pw_iload_n dX5_hangTag_9 rfl rfl ?_
    refine pe_callVi dX5_hangTag_10 oX_X5_hasCrew lk_RX5_105 (sp_hasCrew h) (pl_k h) rfl rfl (Nat.le_of_ble_eq_true rfl) (by decide) ?_
    refine pw_ifB_ne (tgt := 18) dX5_hangTag_13 (by decide) (fun c_13 => ?_) (fun c_13 => ?_)
    · obtain ⟨d, hd, rfl⟩ := has_nat c_13 hC (by omega)
      refine pw_aload_n dX5_hangTag_18 rfl rfl ?_
      refine pw_getR (x := (p + 3)) dX5_hangTag_19 fd_RX5_25 (by decide) (pl_k h) rfl (pl_rT h) ?_
      refine pw_iload_n dX5_hangTag_22 rfl rfl ?_
      refine pw_aaldN (j := t) (x := (p + 18 + t)) dX5_hangTag_23 (pl_kT h) (by omega) (by decide) (by decide) (pl_eT h (by omega)) ?_
      refine pw_astore_n dX5_hangTag_24 rfl (by decide) rfl ?_
      refine pw_aload_n dX5_hangTag_25 rfl rfl ?_
      refine pw_getI dX5_hangTag_26 fd_RX5_108 (by decide) (pl_oT h (by omega)) rfl ?_
      refine pw_if_ne (tgt := 52) dX5_hangTag_29 (by decide) (fun c_29 => ?_) (fun c_29 => ?_)
      · refine pw_bipush (v := (-4)) dX5_hangTag_52 (by decide) ?_
        exact pw_iret dX5_hangTag_54 rfl (rL (by rw [hangR, if_pos ⟨of_decide_eq_true c_5, of_decide_eq_true c_13⟩, nI_clamp (show t < 2 ^ 31 by omega), nI_clamp (show d < 2 ^ 31 by omega), if_neg]; exact fun z => c_29 z.1))
      · refine pw_aload_n dX5_hangTag_32 rfl rfl ?_
        refine pw_aload_n dX5_hangTag_33 rfl rfl ?_
        refine pw_getI dX5_hangTag_34 fd_RX5_111 (by decide) (pl_oT h (by omega)) rfl ?_
        rw [hat]
        refine pe_callVi dX5_hangTag_37 oX_X5_isRunning lk_RX5_114 (sp_isRunning h hA hA8 haA) (pl_k h) rfl rfl (Nat.le_of_ble_eq_true rfl) (by decide) ?_
        refine pw_ifB_ne (tgt := 52) dX5_hangTag_40 (by decide) (fun c_40 => ?_) (fun c_40 => ?_)
        · refine pw_bipush (v := (-4)) dX5_hangTag_52 (by decide) ?_
          exact pw_iret dX5_hangTag_54 rfl (rL (by rw [hangR, if_pos ⟨of_decide_eq_true c_5, of_decide_eq_true c_13⟩, nI_clamp (show t < 2 ^ 31 by omega), nI_clamp (show d < 2 ^ 31 by omega), if_neg]; exact fun z => (of_decide_eq_true c_40) (by rw [← nI_clamp (show at_ < 2 ^ 31 by omega), ← hat]; exact z.2.1)))
        · refine pw_aload_n dX5_hangTag_43 rfl rfl ?_
          refine pw_iload_n dX5_hangTag_44 rfl rfl ?_
          refine pw_aload_n dX5_hangTag_45 rfl rfl ?_
          refine pe_callVi dX5_hangTag_46 oX_X5_canServe lk_RX5_117 (sp_canServe (nC := nC) h hn hn4 (by omega) ht) (pl_k h) rfl rfl (Nat.le_of_ble_eq_true rfl) (by decide) ?_
          refine pw_ifB_ne (tgt := 55) dX5_hangTag_49 (by decide) (fun c_49 => ?_) (fun c_49 => ?_)
          · refine pw_aload_n dX5_hangTag_55 rfl rfl ?_
            refine pw_aload_n dX5_hangTag_56 rfl rfl ?_
            refine pw_aload_n dX5_hangTag_57 rfl rfl ?_
            refine pw_getI dX5_hangTag_58 fd_RX5_111 (by decide) (pl_oT h (by omega)) rfl ?_
            refine pe_callVi dX5_hangTag_61 oX_X5_tagsHanging lk_RX5_91 (sp_tagsHanging h hn hn4) (pl_k h) rfl rfl (Nat.le_of_ble_eq_true rfl) (by decide) ?_
            refine pw_putI dX5_hangTag_64 fd_RX5_121 (by decide) rfl ⟨rfl, rfl, rfl⟩ (pl_oT h (by omega)) ?_
            refine pw_aload_n dX5_hangTag_67 rfl rfl ?_
            refine pw_iconst (v := 1) dX5_hangTag_68 (by decide) ?_
            refine pw_putI dX5_hangTag_69 fd_RX5_108 (by decide) rfl ⟨rfl, rfl, rfl⟩ (pl_oT h (by omega)) ?_
            refine pw_aload_n dX5_hangTag_72 rfl rfl ?_
            refine pw_iload_n dX5_hangTag_73 rfl rfl ?_
            refine pw_putI dX5_hangTag_74 fd_RX5_124 (by decide) rfl ⟨rfl, rfl, rfl⟩ (pl_oT h (by omega)) ?_
            refine pw_aload_n dX5_hangTag_77 rfl rfl ?_
            refine pw_getI dX5_hangTag_78 fd_RX5_121 (by decide) (pl_oT h (by omega)) rfl ?_
            rw [up2_nj (by decide), up2_nj (by decide), up2_s]
            refine pw_iconst (v := 1) dX5_hangTag_81 (by decide) ?_
            refine pw_iadd dX5_hangTag_82 ?_
            rw [nI_1]
            exact pw_iret dX5_hangTag_83 rfl (rL (by rw [hangR, if_pos ⟨of_decide_eq_true c_5, of_decide_eq_true c_13⟩, nI_clamp (show t < 2 ^ 31 by omega), nI_clamp (show d < 2 ^ 31 by omega), if_pos]; rfl; exact ⟨c_29, by rw [hat, nI_clamp (show at_ < 2 ^ 31 by omega)]; exact Classical.not_not.mp (of_decide_eq_false c_40), c_49⟩))
          · refine pw_bipush (v := (-4)) dX5_hangTag_52 (by decide) ?_
            exact pw_iret dX5_hangTag_54 rfl (rL (by rw [hangR, if_pos ⟨of_decide_eq_true c_5, of_decide_eq_true c_13⟩, nI_clamp (show t < 2 ^ 31 by omega), nI_clamp (show d < 2 ^ 31 by omega), if_neg]; exact fun z => by rw [z.2.2] at c_49; cases c_49))
    · refine pw_iconst (v := (-1)) dX5_hangTag_16 (by decide) ?_
      exact pw_iret dX5_hangTag_17 rfl (rL (by rw [hangR, if_neg (fun z9 => of_decide_eq_false c_13 z9.2)]))

set_option maxRecDepth 4000 in
theorem sp_beginTask {σ : pT} {I : pI} {F : pF} {p nA n : Nat} {a : Int32} (h : isPl σ p) (hn : I p 6 = nI n) (hn4 : n ≤ 24) (hA : I p 4 = nI nA) (hA8 : nA ≤ 8) (hW : ∀ t, t < n → ∃ a, a < nA ∧ I (p + 18 + t) 0 = nI a) (hKd : ∀ t, t < n → ∃ k, k < 5 ∧ I (p + 18 + t) 3 = nI k)  : PE yX5_beginTask cX5_beginTask mX5_beginTask [.ref p, .int a] σ I F (some (.int (beginR I F p n a).1)) (beginR I F p n a).2.1 (beginR I F p n a).2.2 := by
  refine PE.of oP_X5_beginTask (catOK rfl) (Nat.le_of_ble_eq_true rfl) ?_
  show PW _ _ _ 0 [.ref p, .int a, pJ] [] _ _ _ _
  refine pw_aload_n dX5_beginTask_0 rfl rfl ?_
  refine pw_iload_n dX5_beginTask_1 rfl rfl ?_
  refine pe_callVi dX5_beginTask_2 oX_X5_hasTask lk_RX5_102 (sp_hasTask h) (pl_k h) rfl rfl (Nat.le_of_ble_eq_true rfl) (by decide) ?_
  refine pw_ifB_ne (tgt := 10) dX5_beginTask_5 (by decide) (fun c_5 => ?_) (fun c_5 => ?_)
  · obtain ⟨t, ht, rfl⟩ := has_nat c_5 hn (by omega)
    obtain ⟨at_, haA, hat⟩ := hW t ht
    obtain ⟨kt, hk5, hkd⟩ := hKd t ht
    refine pw_aload_n dX5_beginTask_10 rfl rfl ?_
    refine pw_iload_n dX5_beginTask_11 rfl rfl ?_
    refine pe_callVi dX5_beginTask_12 oX_X5_reasonAgainst lk_RX5_127 (sp_reasonAgainst h hn hn4 hA hA8 hkd hk5 hat haA ht) (pl_k h) rfl rfl (Nat.le_of_ble_eq_true rfl) (by decide) ?_
    refine pw_if_eq (tgt := 21) dX5_beginTask_15 (by decide) (fun c_15 => ?_) (fun c_15 => ?_)
    · refine pw_aload_n dX5_beginTask_21 rfl rfl ?_
      refine pw_getR (x := (p + 3)) dX5_beginTask_22 fd_RX5_25 (by decide) (pl_k h) rfl (pl_rT h) ?_
      refine pw_iload_n dX5_beginTask_25 rfl rfl ?_
      refine pw_aaldN (j := t) (x := (p + 18 + t)) dX5_beginTask_26 (pl_kT h) (by omega) (by decide) (by decide) (pl_eT h (by omega)) ?_
      refine pw_astore_n dX5_beginTask_27 rfl (by decide) rfl ?_
      refine pw_aload_n dX5_beginTask_28 rfl rfl ?_
      refine pw_iconst (v := 2) dX5_beginTask_29 (by decide) ?_
      refine pw_putI dX5_beginTask_30 fd_RX5_108 (by decide) rfl ⟨rfl, rfl, rfl⟩ (pl_oT h (by omega)) ?_
      refine pw_aload_n dX5_beginTask_33 rfl rfl ?_
      refine pw_aload_n dX5_beginTask_34 rfl rfl ?_
      refine pw_getI dX5_beginTask_35 fd_RX5_130 (by decide) (pl_oT h (by omega)) rfl ?_
      rw [up2_nj (by decide)]
      refine pw_putI dX5_beginTask_38 fd_RX5_133 (by decide) rfl ⟨rfl, rfl, rfl⟩ (pl_oT h (by omega)) ?_
      refine pw_aload_n dX5_beginTask_41 rfl rfl ?_
      refine pw_getI dX5_beginTask_42 fd_RX5_43 (by decide) (pl_k h) rfl ?_
      rw [up2_ni (by omega), up2_ni (by omega)]
      refine pw_aload_n dX5_beginTask_45 rfl rfl ?_
      refine pw_getI dX5_beginTask_46 fd_RX5_130 (by decide) (pl_oT h (by omega)) rfl ?_
      rw [up2_nj (by decide), up2_nj (by decide)]
      refine pw_iadd dX5_beginTask_49 ?_
      exact pw_iret dX5_beginTask_50 rfl (rL (by rw [beginR, if_pos (of_decide_eq_true c_5), nI_clamp (show t < 2 ^ 31 by omega), hkd, hat, nI_clamp (show kt < 2 ^ 31 by omega), nI_clamp (show at_ < 2 ^ 31 by omega), if_pos c_15]))
    · refine pw_bipush (v := (-4)) dX5_beginTask_18 (by decide) ?_
      exact pw_iret dX5_beginTask_20 rfl (rL (by rw [beginR, if_pos (of_decide_eq_true c_5), nI_clamp (show t < 2 ^ 31 by omega), hkd, hat, nI_clamp (show kt < 2 ^ 31 by omega), nI_clamp (show at_ < 2 ^ 31 by omega), if_neg c_15]))
  · refine pw_iconst (v := (-1)) dX5_beginTask_8 (by decide) ?_
    exact pw_iret dX5_beginTask_9 rfl (rL (by rw [beginR, if_neg (of_decide_eq_false c_5)]))

set_option maxRecDepth 4000 in
theorem sp_cancelTask {σ : pT} {I : pI} {F : pF} {p n : Nat} {a : Int32} (h : isPl σ p) (hn : I p 6 = nI n) (hn4 : n ≤ 24)  : PE yX5_cancelTask cX5_cancelTask mX5_cancelTask [.ref p, .int a] σ I F (some (.int (cancelR I F p a).1)) (cancelR I F p a).2.1 (cancelR I F p a).2.2 := by
  refine PE.of oP_X5_cancelTask (catOK rfl) (Nat.le_of_ble_eq_true rfl) ?_
  show PW _ _ _ 0 [.ref p, .int a] [] _ _ _ _
  refine pw_aload_n dX5_cancelTask_0 rfl rfl ?_
  refine pw_iload_n dX5_cancelTask_1 rfl rfl ?_
  refine pe_callVi dX5_cancelTask_2 oX_X5_hasTask lk_RX5_102 (sp_hasTask h) (pl_k h) rfl rfl (Nat.le_of_ble_eq_true rfl) (by decide) ?_
  refine pw_ifB_ne (tgt := 10) dX5_cancelTask_5 (by decide) (fun c_5 => ?_) (fun c_5 => ?_)
  · obtain ⟨t, ht, rfl⟩ := has_nat c_5 hn (by omega)
    refine pw_aload_n dX5_cancelTask_10 rfl rfl ?_
    refine pw_getR (x := (p + 3)) dX5_cancelTask_11 fd_RX5_25 (by decide) (pl_k h) rfl (pl_rT h) ?_
    refine pw_iload_n dX5_cancelTask_14 rfl rfl ?_
    refine pw_aaldN (j := t) (x := (p + 18 + t)) dX5_cancelTask_15 (pl_kT h) (by omega) (by decide) (by decide) (pl_eT h (by omega)) ?_
    refine pw_getI dX5_cancelTask_16 fd_RX5_108 (by decide) (pl_oT h (by omega)) rfl ?_
    refine pw_if_eq (tgt := 25) dX5_cancelTask_19 (by decide) (fun c_19 => ?_) (fun c_19 => ?_)
    · refine pw_aload_n dX5_cancelTask_25 rfl rfl ?_
      refine pw_getR (x := (p + 3)) dX5_cancelTask_26 fd_RX5_25 (by decide) (pl_k h) rfl (pl_rT h) ?_
      refine pw_iload_n dX5_cancelTask_29 rfl rfl ?_
      refine pw_aaldN (j := t) (x := (p + 18 + t)) dX5_cancelTask_30 (pl_kT h) (by omega) (by decide) (by decide) (pl_eT h (by omega)) ?_
      refine pw_bipush (v := 6) dX5_cancelTask_31 (by decide) ?_
      refine pw_putI dX5_cancelTask_33 fd_RX5_108 (by decide) rfl ⟨rfl, rfl, rfl⟩ (pl_oT h (by omega)) ?_
      refine pw_aload_n dX5_cancelTask_36 rfl rfl ?_
      refine pw_getR (x := (p + 3)) dX5_cancelTask_37 fd_RX5_25 (by decide) (pl_k h) rfl (pl_rT h) ?_
      refine pw_iload_n dX5_cancelTask_40 rfl rfl ?_
      refine pw_aaldN (j := t) (x := (p + 18 + t)) dX5_cancelTask_41 (pl_kT h) (by omega) (by decide) (by decide) (pl_eT h (by omega)) ?_
      refine pw_getI dX5_cancelTask_42 fd_RX5_140 (by decide) (pl_oT h (by omega)) rfl ?_
      rw [up2_nj (by decide)]
      exact pw_iret dX5_cancelTask_45 rfl (rL (by rw [cancelR, if_pos (of_decide_eq_true c_5), nI_clamp (show t < 2 ^ 31 by omega), if_pos c_19]))
    · refine pw_bipush (v := (-4)) dX5_cancelTask_22 (by decide) ?_
      exact pw_iret dX5_cancelTask_24 rfl (rL (by rw [cancelR, if_pos (of_decide_eq_true c_5), nI_clamp (show t < 2 ^ 31 by omega), if_neg c_19]))
  · refine pw_iconst (v := (-1)) dX5_cancelTask_8 (by decide) ?_
    exact pw_iret dX5_cancelTask_9 rfl (rL (by rw [cancelR, if_neg (of_decide_eq_false c_5)]))

set_option maxRecDepth 4000 in
theorem sp_liftTag {σ : pT} {I : pI} {F : pF} {p nA nC n : Nat} {a c : Int32} (h : isPl σ p) (hn : I p 6 = nI n) (hn4 : n ≤ 24) (hC : I p 5 = nI nC) (hC5 : nC ≤ 5)  : PE yX5_liftTag cX5_liftTag mX5_liftTag [.ref p, .int a, .int c] σ I F (some (.int (liftR I F p n a c).1)) (liftR I F p n a c).2.1 (liftR I F p n a c).2.2 := by
  refine PE.of oP_X5_liftTag (catOK rfl) (Nat.le_of_ble_eq_true rfl) ?_
  show PW _ _ _ 0 [.ref p, .int a, .int c, pJ] [] _ _ _ _
  refine pw_aload_n dX5_liftTag_0 rfl rfl ?_
  refine pw_iload_n dX5_liftTag_1 rfl rfl ?_
  refine pe_callVi dX5_liftTag_2 oX_X5_hasTask lk_RX5_102 (sp_hasTask h) (pl_k h) rfl rfl (Nat.le_of_ble_eq_true rfl) (by decide) ?_
  refine pw_ifB_eq (tgt := 16) dX5_liftTag_5 (by decide) (fun c_5 => ?_) (fun c_5 => ?_)
  · refine pw_iconst (v := (-1)) dX5_liftTag_16 (by decide) ?_
    exact pw_iret dX5_liftTag_17 rfl (rL (by rw [liftR, if_neg (fun z9 => of_decide_eq_false c_5 z9.1)]))
  · obtain ⟨t, ht, rfl⟩ := has_nat c_5 hn (by omega)
    refine pw_aload_n dX5_liftTag_8 rfl rfl ?_
    refine pw_iload_n dX5_liftTag_9 rfl rfl ?_
    refine pe_callVi dX5_liftTag_10 oX_X5_hasCrew lk_RX5_105 (sp_hasCrew h) (pl_k h) rfl rfl (Nat.le_of_ble_eq_true rfl) (by decide) ?_
    refine pw_ifB_ne (tgt := 18) dX5_liftTag_13 (by decide) (fun c_13 => ?_) (fun c_13 => ?_)
    · obtain ⟨d, hd, rfl⟩ := has_nat c_13 hC (by omega)
      refine pw_aload_n dX5_liftTag_18 rfl rfl ?_
      refine pw_getR (x := (p + 3)) dX5_liftTag_19 fd_RX5_25 (by decide) (pl_k h) rfl (pl_rT h) ?_
      refine pw_iload_n dX5_liftTag_22 rfl rfl ?_
      refine pw_aaldN (j := t) (x := (p + 18 + t)) dX5_liftTag_23 (pl_kT h) (by omega) (by decide) (by decide) (pl_eT h (by omega)) ?_
      refine pw_astore_n dX5_liftTag_24 rfl (by decide) rfl ?_
      refine pw_aload_n dX5_liftTag_25 rfl rfl ?_
      refine pw_getI dX5_liftTag_26 fd_RX5_108 (by decide) (pl_oT h (by omega)) rfl ?_
      refine pw_iconst (v := 1) dX5_liftTag_29 (by decide) ?_
      refine pw_icmp_eq (tgt := 44) dX5_liftTag_30 (by decide) (fun c_30 => ?_) (fun c_30 => ?_)
      · refine pw_aload_n dX5_liftTag_44 rfl rfl ?_
        refine pw_getI dX5_liftTag_45 fd_RX5_124 (by decide) (pl_oT h (by omega)) rfl ?_
        refine pw_iload_n dX5_liftTag_48 rfl rfl ?_
        refine pw_icmp_ne (tgt := 65) dX5_liftTag_49 (by decide) (fun c_49 => ?_) (fun c_49 => ?_)
        · refine pw_bipush (v := (-4)) dX5_liftTag_65 (by decide) ?_
          exact pw_iret dX5_liftTag_67 rfl (rL (by rw [liftR, if_pos ⟨of_decide_eq_true c_5, of_decide_eq_true c_13⟩, nI_clamp (show t < 2 ^ 31 by omega), if_neg]; exact fun z => c_49 z.2.1))
        · refine pw_aload_n dX5_liftTag_52 rfl rfl ?_
          refine pw_aload_n dX5_liftTag_53 rfl rfl ?_
          refine pw_getI dX5_liftTag_54 fd_RX5_111 (by decide) (pl_oT h (by omega)) rfl ?_
          refine pw_iconst (v := 0) dX5_liftTag_57 (by decide) ?_
          refine pe_callVi dX5_liftTag_58 oX_X5_taskOfTag lk_RX5_136 (sp_taskOfTag h hn hn4) (pl_k h) rfl rfl (Nat.le_of_ble_eq_true rfl) (by decide) ?_
          refine pw_iload_n dX5_liftTag_61 rfl rfl ?_
          refine pw_icmp_eq (tgt := 68) dX5_liftTag_62 (by decide) (fun c_62 => ?_) (fun c_62 => ?_)
          · refine pw_aload_n dX5_liftTag_68 rfl rfl ?_
            refine pw_getI dX5_liftTag_69 fd_RX5_108 (by decide) (pl_oT h (by omega)) rfl ?_
            refine pw_iconst (v := 3) dX5_liftTag_72 (by decide) ?_
            refine pw_icmp_ne (tgt := 84) dX5_liftTag_73 (by decide) (fun c_73 => ?_) (fun c_73 => ?_)
            · refine pw_aload_n dX5_liftTag_84 rfl rfl ?_
              refine pw_iconst (v := 0) dX5_liftTag_85 (by decide) ?_
              refine pw_putI dX5_liftTag_86 fd_RX5_108 (by decide) rfl ⟨rfl, rfl, rfl⟩ (pl_oT h (by omega)) ?_
              refine pw_aload_n dX5_liftTag_89 rfl rfl ?_
              refine pw_bipush (v := (-5)) dX5_liftTag_90 (by decide) ?_
              refine pw_putI dX5_liftTag_92 fd_RX5_124 (by decide) rfl ⟨rfl, rfl, rfl⟩ (pl_oT h (by omega)) ?_
              refine pw_aload_n dX5_liftTag_95 rfl rfl ?_
              refine pw_aload_n dX5_liftTag_96 rfl rfl ?_
              refine pw_getI dX5_liftTag_97 fd_RX5_111 (by decide) (pl_oT h (by omega)) rfl ?_
              first | rw [up2_nj (by decide), up2_nj (by decide)] | rw [up2_nj (by decide)]
              refine pe_callVi dX5_liftTag_100 oX_X5_tagsHanging lk_RX5_91 (sp_tagsHanging h (by first | exact (up2_ni (by omega)).trans ((up2_ni (by omega)).trans hn) | exact (up2_ni (by omega)).trans hn) hn4) (pl_k h) rfl rfl (Nat.le_of_ble_eq_true rfl) (by decide) ?_
              exact pw_iret dX5_liftTag_103 rfl (rL (by rw [liftR, if_pos ⟨of_decide_eq_true c_5, of_decide_eq_true c_13⟩, nI_clamp (show t < 2 ^ 31 by omega), if_pos ⟨(Or.inl c_30), c_49, c_62⟩, liftI, if_neg c_73]))
            · refine pw_aload_n dX5_liftTag_76 rfl rfl ?_
              refine pw_iconst (v := 4) dX5_liftTag_77 (by decide) ?_
              refine pw_putI dX5_liftTag_78 fd_RX5_108 (by decide) rfl ⟨rfl, rfl, rfl⟩ (pl_oT h (by omega)) ?_
              refine pw_goto (tgt := 95) dX5_liftTag_81 (by decide) ?_
              refine pw_aload_n dX5_liftTag_95 rfl rfl ?_
              refine pw_aload_n dX5_liftTag_96 rfl rfl ?_
              refine pw_getI dX5_liftTag_97 fd_RX5_111 (by decide) (pl_oT h (by omega)) rfl ?_
              first | rw [up2_nj (by decide), up2_nj (by decide)] | rw [up2_nj (by decide)]
              refine pe_callVi dX5_liftTag_100 oX_X5_tagsHanging lk_RX5_91 (sp_tagsHanging h (by first | exact (up2_ni (by omega)).trans ((up2_ni (by omega)).trans hn) | exact (up2_ni (by omega)).trans hn) hn4) (pl_k h) rfl rfl (Nat.le_of_ble_eq_true rfl) (by decide) ?_
              exact pw_iret dX5_liftTag_103 rfl (rL (by rw [liftR, if_pos ⟨of_decide_eq_true c_5, of_decide_eq_true c_13⟩, nI_clamp (show t < 2 ^ 31 by omega), if_pos ⟨(Or.inl c_30), c_49, c_62⟩, liftI, if_pos c_73]))
          · refine pw_bipush (v := (-4)) dX5_liftTag_65 (by decide) ?_
            exact pw_iret dX5_liftTag_67 rfl (rL (by rw [liftR, if_pos ⟨of_decide_eq_true c_5, of_decide_eq_true c_13⟩, nI_clamp (show t < 2 ^ 31 by omega), if_neg]; exact fun z => c_62 z.2.2))
      · refine pw_aload_n dX5_liftTag_33 rfl rfl ?_
        refine pw_getI dX5_liftTag_34 fd_RX5_108 (by decide) (pl_oT h (by omega)) rfl ?_
        refine pw_iconst (v := 3) dX5_liftTag_37 (by decide) ?_
        refine pw_icmp_eq (tgt := 44) dX5_liftTag_38 (by decide) (fun c_38 => ?_) (fun c_38 => ?_)
        · refine pw_aload_n dX5_liftTag_44 rfl rfl ?_
          refine pw_getI dX5_liftTag_45 fd_RX5_124 (by decide) (pl_oT h (by omega)) rfl ?_
          refine pw_iload_n dX5_liftTag_48 rfl rfl ?_
          refine pw_icmp_ne (tgt := 65) dX5_liftTag_49 (by decide) (fun c_49 => ?_) (fun c_49 => ?_)
          · refine pw_bipush (v := (-4)) dX5_liftTag_65 (by decide) ?_
            exact pw_iret dX5_liftTag_67 rfl (rL (by rw [liftR, if_pos ⟨of_decide_eq_true c_5, of_decide_eq_true c_13⟩, nI_clamp (show t < 2 ^ 31 by omega), if_neg]; exact fun z => c_49 z.2.1))
          · refine pw_aload_n dX5_liftTag_52 rfl rfl ?_
            refine pw_aload_n dX5_liftTag_53 rfl rfl ?_
            refine pw_getI dX5_liftTag_54 fd_RX5_111 (by decide) (pl_oT h (by omega)) rfl ?_
            refine pw_iconst (v := 0) dX5_liftTag_57 (by decide) ?_
            refine pe_callVi dX5_liftTag_58 oX_X5_taskOfTag lk_RX5_136 (sp_taskOfTag h hn hn4) (pl_k h) rfl rfl (Nat.le_of_ble_eq_true rfl) (by decide) ?_
            refine pw_iload_n dX5_liftTag_61 rfl rfl ?_
            refine pw_icmp_eq (tgt := 68) dX5_liftTag_62 (by decide) (fun c_62 => ?_) (fun c_62 => ?_)
            · refine pw_aload_n dX5_liftTag_68 rfl rfl ?_
              refine pw_getI dX5_liftTag_69 fd_RX5_108 (by decide) (pl_oT h (by omega)) rfl ?_
              refine pw_iconst (v := 3) dX5_liftTag_72 (by decide) ?_
              refine pw_icmp_ne (tgt := 84) dX5_liftTag_73 (by decide) (fun c_73 => ?_) (fun c_73 => ?_)
              · refine pw_aload_n dX5_liftTag_84 rfl rfl ?_
                refine pw_iconst (v := 0) dX5_liftTag_85 (by decide) ?_
                refine pw_putI dX5_liftTag_86 fd_RX5_108 (by decide) rfl ⟨rfl, rfl, rfl⟩ (pl_oT h (by omega)) ?_
                refine pw_aload_n dX5_liftTag_89 rfl rfl ?_
                refine pw_bipush (v := (-5)) dX5_liftTag_90 (by decide) ?_
                refine pw_putI dX5_liftTag_92 fd_RX5_124 (by decide) rfl ⟨rfl, rfl, rfl⟩ (pl_oT h (by omega)) ?_
                refine pw_aload_n dX5_liftTag_95 rfl rfl ?_
                refine pw_aload_n dX5_liftTag_96 rfl rfl ?_
                refine pw_getI dX5_liftTag_97 fd_RX5_111 (by decide) (pl_oT h (by omega)) rfl ?_
                first | rw [up2_nj (by decide), up2_nj (by decide)] | rw [up2_nj (by decide)]
                refine pe_callVi dX5_liftTag_100 oX_X5_tagsHanging lk_RX5_91 (sp_tagsHanging h (by first | exact (up2_ni (by omega)).trans ((up2_ni (by omega)).trans hn) | exact (up2_ni (by omega)).trans hn) hn4) (pl_k h) rfl rfl (Nat.le_of_ble_eq_true rfl) (by decide) ?_
                exact pw_iret dX5_liftTag_103 rfl (rL (by rw [liftR, if_pos ⟨of_decide_eq_true c_5, of_decide_eq_true c_13⟩, nI_clamp (show t < 2 ^ 31 by omega), if_pos ⟨(Or.inr c_38), c_49, c_62⟩, liftI, if_neg c_73]))
              · refine pw_aload_n dX5_liftTag_76 rfl rfl ?_
                refine pw_iconst (v := 4) dX5_liftTag_77 (by decide) ?_
                refine pw_putI dX5_liftTag_78 fd_RX5_108 (by decide) rfl ⟨rfl, rfl, rfl⟩ (pl_oT h (by omega)) ?_
                refine pw_goto (tgt := 95) dX5_liftTag_81 (by decide) ?_
                refine pw_aload_n dX5_liftTag_95 rfl rfl ?_
                refine pw_aload_n dX5_liftTag_96 rfl rfl ?_
                refine pw_getI dX5_liftTag_97 fd_RX5_111 (by decide) (pl_oT h (by omega)) rfl ?_
                first | rw [up2_nj (by decide), up2_nj (by decide)] | rw [up2_nj (by decide)]
                refine pe_callVi dX5_liftTag_100 oX_X5_tagsHanging lk_RX5_91 (sp_tagsHanging h (by first | exact (up2_ni (by omega)).trans ((up2_ni (by omega)).trans hn) | exact (up2_ni (by omega)).trans hn) hn4) (pl_k h) rfl rfl (Nat.le_of_ble_eq_true rfl) (by decide) ?_
                exact pw_iret dX5_liftTag_103 rfl (rL (by rw [liftR, if_pos ⟨of_decide_eq_true c_5, of_decide_eq_true c_13⟩, nI_clamp (show t < 2 ^ 31 by omega), if_pos ⟨(Or.inr c_38), c_49, c_62⟩, liftI, if_pos c_73]))
            · refine pw_bipush (v := (-4)) dX5_liftTag_65 (by decide) ?_
              exact pw_iret dX5_liftTag_67 rfl (rL (by rw [liftR, if_pos ⟨of_decide_eq_true c_5, of_decide_eq_true c_13⟩, nI_clamp (show t < 2 ^ 31 by omega), if_neg]; exact fun z => c_62 z.2.2))
        · refine pw_bipush (v := (-4)) dX5_liftTag_41 (by decide) ?_
          exact pw_iret dX5_liftTag_43 rfl (rL (by rw [liftR, if_pos ⟨of_decide_eq_true c_5, of_decide_eq_true c_13⟩, nI_clamp (show t < 2 ^ 31 by omega), if_neg]; exact fun z => z.1.elim c_30 c_38))
    · refine pw_iconst (v := (-1)) dX5_liftTag_16 (by decide) ?_
      exact pw_iret dX5_liftTag_17 rfl (rL (by rw [liftR, if_neg (fun z9 => of_decide_eq_false c_13 z9.2)]))

