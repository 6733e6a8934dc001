set_option maxRecDepth 4000 in
theorem sp_passesHour {σ : pT} {I : pI} {F : pF} {m nA n : Nat} (h : isMo σ m) (hA : I (m + 1) 1 = nI nA) (hA8 : nA ≤ 8) (hn : I (m + 1) 3 = nI n) (hn4 : n ≤ 24) (hW : ∀ t, t < n → ∃ a, a < nA ∧ I (m + 1) (251 + 10 * t + 0) = nI a)  : PE yX8_passesHour cX8_passesHour mX8_passesHour [.ref m] σ I F (some (.int (nI (mWkN m n I (mRunN I m nA F)).2.2))) (mSlN m n (up2 (mWkN m n I (mRunN I m nA F)).1 (m + 1) 0 ((mWkN m n I (mRunN I m nA F)).1 (m + 1) 0 + 1))) (mWkN m n I (mRunN I m nA F)).2.1 := by
  refine PE.of oP_X8_passesHour (catOK rfl) (Nat.le_of_ble_eq_true rfl) ?_
  show PW _ _ _ 0 [.ref m, pJ, pJ, pJ] [] _ _ _ _
  have L142 : ∀ k, k ≤ n → ∀ w : Value, PW cX8_passesHour mX8_passesHour (fM (qE (some (.int (nI (mWkN m n I (mRunN I m nA F)).2.2))) σ (mSlN m n (up2 (mWkN m n I (mRunN I m nA F)).1 (m + 1) 0 ((mWkN m n I (mRunN I m nA F)).1 (m + 1) 0 + 1))) (mWkN m n I (mRunN I m nA F)).2.1)) 142 [.ref m, .int (nI (mWkN m n I (mRunN I m nA F)).2.2), .int (nI k), w] [] σ (mSlN m k (up2 (mWkN m n I (mRunN I m nA F)).1 (m + 1) 0 ((mWkN m n I (mRunN I m nA F)).1 (m + 1) 0 + 1))) (mWkN m n I (mRunN I m nA F)).2.1 (0, 0) := by
    refine dn (fun k => ∀ w : Value, PW cX8_passesHour mX8_passesHour (fM (qE (some (.int (nI (mWkN m n I (mRunN I m nA F)).2.2))) σ (mSlN m n (up2 (mWkN m n I (mRunN I m nA F)).1 (m + 1) 0 ((mWkN m n I (mRunN I m nA F)).1 (m + 1) 0 + 1))) (mWkN m n I (mRunN I m nA F)).2.1)) 142 [.ref m, .int (nI (mWkN m n I (mRunN I m nA F)).2.2), .int (nI k), w] [] σ (mSlN m k (up2 (mWkN m n I (mRunN I m nA F)).1 (m + 1) 0 ((mWkN m n I (mRunN I m nA F)).1 (m + 1) 0 + 1))) (mWkN m n I (mRunN I m nA F)).2.1 (0, 0)) n ?_ ?_
    · intro w
      refine pw_iload_n dX8_passesHour_142 rfl rfl ?_
      refine pw_aload_n dX8_passesHour_143 rfl rfl ?_
      refine pw_getR (x := (m + 1)) dX8_passesHour_144 fd_RX8_7 (by decide) (mo_k h) rfl (mo_r1 h) ?_
      refine pw_iconst (v := 3) dX8_passesHour_147 (by decide) ?_
      refine pw_ialdN (j := 3) dX8_passesHour_148 (mo_k1 h) (by omega) (by decide) ?_
      refine pw_icmp_ge (tgt := 184) dX8_passesHour_149 (by decide) (fun c_149 => ?_) (fun c_149 => absurd (k_ge ((mSlN_fr (by omega) n).trans ((up2_nj (by decide)).trans ((mWkN_fr (by omega) n).trans hn)))) c_149)
      refine pw_iload_n dX8_passesHour_184 rfl rfl ?_
      exact pw_iret dX8_passesHour_185 rfl ⟨rfl, rfl, rfl, rfl⟩
    · intro k hk ih
      intro w
      have hn1 : mSlN m k (up2 (mWkN m n I (mRunN I m nA F)).1 (m + 1) 0 ((mWkN m n I (mRunN I m nA F)).1 (m + 1) 0 + 1)) (m + 1) 3 = nI n := (mSlN_fr (by omega) k).trans ((up2_nj (by decide)).trans ((mWkN_fr (by omega) n).trans hn))
      rw [show mSlN m (k + 1) (up2 (mWkN m n I (mRunN I m nA F)).1 (m + 1) 0 ((mWkN m n I (mRunN I m nA F)).1 (m + 1) 0 + 1)) = mSl1 m k (mSlN m k (up2 (mWkN m n I (mRunN I m nA F)).1 (m + 1) 0 ((mWkN m n I (mRunN I m nA F)).1 (m + 1) 0 + 1))) from rfl] at ih
      revert ih hn1
      generalize mSlN m k (up2 (mWkN m n I (mRunN I m nA F)).1 (m + 1) 0 ((mWkN m n I (mRunN I m nA F)).1 (m + 1) 0 + 1)) = I1
      intro ih hn1
      refine pw_iload_n dX8_passesHour_142 rfl rfl ?_
      refine pw_aload_n dX8_passesHour_143 rfl rfl ?_
      refine pw_getR (x := (m + 1)) dX8_passesHour_144 fd_RX8_7 (by decide) (mo_k h) rfl (mo_r1 h) ?_
      refine pw_iconst (v := 3) dX8_passesHour_147 (by decide) ?_
      refine pw_ialdN (j := 3) dX8_passesHour_148 (mo_k1 h) (by omega) (by decide) ?_
      refine pw_icmp_ge (tgt := 184) dX8_passesHour_149 (by decide) (fun c_149 => absurd c_149 (k_lt hn1 hk (by omega))) (fun c_149 => ?_)
      refine pw_aload_n dX8_passesHour_152 rfl rfl ?_
      refine pw_iload_n dX8_passesHour_153 rfl rfl ?_
      refine pe_callVi dX8_passesHour_154 oX_X8_stateOf lk_RX8_87 (sp_stateOf (a := k) h (by omega)) (mo_k h) rfl rfl (Nat.le_of_ble_eq_true rfl) (by decide) ?_
      refine pw_iconst (v := 0) dX8_passesHour_157 (by decide) ?_
      refine pw_iconst (v := 1) dX8_passesHour_158 (by decide) ?_
      refine pe_callSi dX8_passesHour_159 oX_X8_isIn lk_RX8_32 sp_isIn rfl rfl (Nat.le_of_ble_eq_true rfl) (by decide) ?_
      refine pw_ifB_eq (tgt := 178) dX8_passesHour_162 (by decide) (fun c_162 => ?_) (fun c_162 => ?_)
      · refine pw_iinc (v := nI (k + 1)) dX8_passesHour_178 rfl (nI_add _ _) rfl ?_
        refine pw_goto (tgt := 142) dX8_passesHour_181 (by decide) ?_
        rw [mSl1, if_neg (fun z => of_decide_eq_false c_162 z.1)] at ih
        exact ih _
      · refine pw_aload_n dX8_passesHour_165 rfl rfl ?_
        refine pw_iload_n dX8_passesHour_166 rfl rfl ?_
        refine pe_callVi dX8_passesHour_167 oX_X8_isTooLate lk_RX8_100 (sp_isTooLate (t := k) h (by omega)) (mo_k h) rfl rfl (Nat.le_of_ble_eq_true rfl) (by decide) ?_
        refine pw_ifB_eq (tgt := 178) dX8_passesHour_170 (by decide) (fun c_170 => ?_) (fun c_170 => ?_)
        · refine pw_iinc (v := nI (k + 1)) dX8_passesHour_178 rfl (nI_add _ _) rfl ?_
          refine pw_goto (tgt := 142) dX8_passesHour_181 (by decide) ?_
          rw [mSl1, if_neg (fun z => of_decide_eq_false c_170 z.2)] at ih
          exact ih _
        · refine pw_aload_n dX8_passesHour_173 rfl rfl ?_
          refine pw_iload_n dX8_passesHour_174 rfl rfl ?_
          refine pe_callVv dX8_passesHour_175 oX_X8_slips lk_RX8_162 (sp_m_slips (t := k) h (by omega)) (mo_k h) rfl rfl (Nat.le_of_ble_eq_true rfl) (by decide) ?_
          refine pw_iinc (v := nI (k + 1)) dX8_passesHour_178 rfl (nI_add _ _) rfl ?_
          refine pw_goto (tgt := 142) dX8_passesHour_181 (by decide) ?_
          rw [mSl1, if_pos ⟨of_decide_eq_true c_162, of_decide_eq_true c_170⟩] at ih
          exact ih _
  have L37 : ∀ k, k ≤ n → ∀ w : Value, PW cX8_passesHour mX8_passesHour (fM (qE (some (.int (nI (mWkN m n I (mRunN I m nA F)).2.2))) σ (mSlN m n (up2 (mWkN m n I (mRunN I m nA F)).1 (m + 1) 0 ((mWkN m n I (mRunN I m nA F)).1 (m + 1) 0 + 1))) (mWkN m n I (mRunN I m nA F)).2.1)) 37 [.ref m, .int (nI (mWkN m k I (mRunN I m nA F)).2.2), .int (nI k), w] [] σ (mWkN m k I (mRunN I m nA F)).1 (mWkN m k I (mRunN I m nA F)).2.1 (0, 0) := by
    refine dn (fun k => ∀ w : Value, PW cX8_passesHour mX8_passesHour (fM (qE (some (.int (nI (mWkN m n I (mRunN I m nA F)).2.2))) σ (mSlN m n (up2 (mWkN m n I (mRunN I m nA F)).1 (m + 1) 0 ((mWkN m n I (mRunN I m nA F)).1 (m + 1) 0 + 1))) (mWkN m n I (mRunN I m nA F)).2.1)) 37 [.ref m, .int (nI (mWkN m k I (mRunN I m nA F)).2.2), .int (nI k), w] [] σ (mWkN m k I (mRunN I m nA F)).1 (mWkN m k I (mRunN I m nA F)).2.1 (0, 0)) n ?_ ?_
    · intro w
      refine pw_iload_n dX8_passesHour_37 rfl rfl ?_
      refine pw_aload_n dX8_passesHour_38 rfl rfl ?_
      refine pw_getR (x := (m + 1)) dX8_passesHour_39 fd_RX8_7 (by decide) (mo_k h) rfl (mo_r1 h) ?_
      refine pw_iconst (v := 3) dX8_passesHour_42 (by decide) ?_
      refine pw_ialdN (j := 3) dX8_passesHour_43 (mo_k1 h) (by omega) (by decide) ?_
      refine pw_icmp_ge (tgt := 130) dX8_passesHour_44 (by decide) (fun c_44 => ?_) (fun c_44 => absurd (k_ge ((mWkN_fr (by omega) n).trans hn)) c_44)
      refine pw_aload_n dX8_passesHour_130 rfl rfl ?_
      refine pw_getR (x := (m + 1)) dX8_passesHour_131 fd_RX8_7 (by decide) (mo_k h) rfl (mo_r1 h) ?_
      refine pw_iconst (v := 0) dX8_passesHour_134 (by decide) ?_
      refine pw_dup2 dX8_passesHour_135 rfl rfl ?_
      refine pw_ialdN (j := 0) dX8_passesHour_136 (mo_k1 h) (by omega) (by decide) ?_
      refine pw_iconst (v := 1) dX8_passesHour_137 (by decide) ?_
      refine pw_iadd dX8_passesHour_138 ?_
      refine pw_iastN (j := 0) dX8_passesHour_139 (mo_k1 h) (by omega) (by decide) ?_
      refine pw_iconst (v := 0) dX8_passesHour_140 (by decide) ?_
      refine pw_istore_n dX8_passesHour_141 rfl (by decide) rfl ?_
      exact L142 0 (Nat.zero_le _) _
    · intro k hk ih
      intro w
      have hn1 : (mWkN m k I (mRunN I m nA F)).1 (m + 1) 3 = nI n := (mWkN_fr (by omega) k).trans hn
      obtain ⟨a1, ha1, hat0⟩ := hW k hk
      have hat1 : (mWkN m k I (mRunN I m nA F)).1 (m + 1) (251 + 10 * k + 0) = nI a1 := (mWkN_fr (by omega) k).trans hat0
      rw [show mWkN m (k + 1) I (mRunN I m nA F) = mWk1 m k (mWkN m k I (mRunN I m nA F)) from rfl] at ih
      revert ih hn1 hat1
      generalize mWkN m k I (mRunN I m nA F) = W
      obtain ⟨I1, F1, c1⟩ := W
      intro ih hn1 hat1
      dsimp only at ih hn1 hat1 ⊢
      refine pw_iload_n dX8_passesHour_37 rfl rfl ?_
      refine pw_aload_n dX8_passesHour_38 rfl rfl ?_
      refine pw_getR (x := (m + 1)) dX8_passesHour_39 fd_RX8_7 (by decide) (mo_k h) rfl (mo_r1 h) ?_
      refine pw_iconst (v := 3) dX8_passesHour_42 (by decide) ?_
      refine pw_ialdN (j := 3) dX8_passesHour_43 (mo_k1 h) (by omega) (by decide) ?_
      refine pw_icmp_ge (tgt := 130) dX8_passesHour_44 (by decide) (fun c_44 => absurd c_44 (k_lt hn1 hk (by omega))) (fun c_44 => ?_)
      refine pw_aload_n dX8_passesHour_47 rfl rfl ?_
      refine pw_iload_n dX8_passesHour_48 rfl rfl ?_
      refine pe_callVi dX8_passesHour_49 oX_X8_stateOf lk_RX8_87 (sp_stateOf (a := k) h (by omega)) (mo_k h) rfl rfl (Nat.le_of_ble_eq_true rfl) (by decide) ?_
      refine pw_iconst (v := 2) dX8_passesHour_52 (by decide) ?_
      refine pw_icmp_ne (tgt := 124) dX8_passesHour_53 (by decide) (fun c_53 => ?_) (fun c_53 => ?_)
      · refine pw_iinc (v := nI (k + 1)) dX8_passesHour_124 rfl (nI_add _ _) rfl ?_
        refine pw_goto (tgt := 37) dX8_passesHour_127 (by decide) ?_
        rw [mWk1_n c_53] at ih
        exact ih _
      · refine pw_aload_n dX8_passesHour_56 rfl rfl ?_
        refine pw_iload_n dX8_passesHour_57 rfl rfl ?_
        refine pw_bipush (v := 8) dX8_passesHour_58 (by decide) ?_
        refine pw_aload_n dX8_passesHour_60 rfl rfl ?_
        refine pw_iload_n dX8_passesHour_61 rfl rfl ?_
        refine pw_bipush (v := 8) dX8_passesHour_62 (by decide) ?_
        refine pe_callVi dX8_passesHour_64 oX_X8_ofTask lk_RX8_84 (sp_ofTask (a := k) (w := 8) h (by omega) (by omega)) (mo_k h) rfl rfl (Nat.le_of_ble_eq_true rfl) (by decide) ?_
        refine pw_iconst (v := 1) dX8_passesHour_67 (by decide) ?_
        refine pw_isub dX8_passesHour_68 ?_
        refine pe_callVv dX8_passesHour_69 oX_X8_setsTask lk_RX8_81 (sp_setsTask (a := k) (w := 8) h (by omega) (by omega)) (mo_k h) rfl rfl (Nat.le_of_ble_eq_true rfl) (by decide) ?_
        refine pw_aload_n dX8_passesHour_72 rfl rfl ?_
        refine pw_iload_n dX8_passesHour_73 rfl rfl ?_
        refine pw_bipush (v := 8) dX8_passesHour_74 (by decide) ?_
        refine pe_callVi dX8_passesHour_76 oX_X8_ofTask lk_RX8_84 (sp_ofTask (a := k) (w := 8) h (by omega) (by omega)) (mo_k h) rfl rfl (Nat.le_of_ble_eq_true rfl) (by decide) ?_
        refine pw_if_ne (tgt := 124) dX8_passesHour_79 (by decide) (fun c_79 => ?_) (fun c_79 => ?_)
        · rw [up2_s] at c_79
          refine pw_iinc (v := nI (k + 1)) dX8_passesHour_124 rfl (nI_add _ _) rfl ?_
          refine pw_goto (tgt := 37) dX8_passesHour_127 (by decide) ?_
          rw [mWk1_a c_53 c_79] at ih
          exact ih _
        · rw [up2_s] at c_79
          refine pw_aload_n dX8_passesHour_82 rfl rfl ?_
          refine pw_iload_n dX8_passesHour_83 rfl rfl ?_
          refine pw_iconst (v := 0) dX8_passesHour_84 (by decide) ?_
          refine pe_callVi dX8_passesHour_85 oX_X8_ofTask lk_RX8_84 (sp_ofTask (a := k) (w := 0) h (by omega) (by omega)) (mo_k h) rfl rfl (Nat.le_of_ble_eq_true rfl) (by decide) ?_
          rw [up2_nj (by omega), hat1]
          refine pw_istore_n dX8_passesHour_88 rfl (by decide) rfl ?_
          refine pw_aload_n dX8_passesHour_89 rfl rfl ?_
          refine pw_iload_n dX8_passesHour_90 rfl rfl ?_
          refine pw_bipush (v := 6) dX8_passesHour_91 (by decide) ?_
          refine pw_iconst (v := 3) dX8_passesHour_93 (by decide) ?_
          refine pe_callVv dX8_passesHour_94 oX_X8_setsTask lk_RX8_81 (sp_setsTask (a := k) (w := 6) h (by omega) (by omega)) (mo_k h) rfl rfl (Nat.le_of_ble_eq_true rfl) (by decide) ?_
          refine pw_aload_n dX8_passesHour_97 rfl rfl ?_
          refine pw_getR (x := (m + 2)) dX8_passesHour_98 fd_RX8_13 (by decide) (mo_k h) rfl (mo_r2 h) ?_
          refine pw_iload_n dX8_passesHour_101 rfl rfl ?_
          refine pw_aload_n dX8_passesHour_102 rfl rfl ?_
          refine pw_getR (x := (m + 2)) dX8_passesHour_103 fd_RX8_13 (by decide) (mo_k h) rfl (mo_r2 h) ?_
          refine pw_iload_n dX8_passesHour_106 rfl rfl ?_
          refine pw_faldN (j := a1) dX8_passesHour_107 (mo_k2 h) (by omega) (by decide) ?_
          refine pw_fconst1 dX8_passesHour_108 ?_
          refine pw_aload_n dX8_passesHour_109 rfl rfl ?_
          refine pw_getR (x := (m + 2)) dX8_passesHour_110 fd_RX8_13 (by decide) (mo_k h) rfl (mo_r2 h) ?_
          refine pw_iload_n dX8_passesHour_113 rfl rfl ?_
          refine pw_faldN (j := a1) dX8_passesHour_114 (mo_k2 h) (by omega) (by decide) ?_
          refine pw_fsub dX8_passesHour_115 ?_
          refine pw_ldcf dX8_passesHour_116 kc_RX8_161 ?_
          refine pw_fmul dX8_passesHour_118 ?_
          refine pw_fadd dX8_passesHour_119 ?_
          refine pw_fastN (j := a1) dX8_passesHour_120 (mo_k2 h) (by omega) (by decide) ?_
          refine pw_iinc (v := nI (c1 + 1)) dX8_passesHour_121 rfl (nI_add _ _) rfl ?_
          refine pw_iinc (v := nI (k + 1)) dX8_passesHour_124 rfl (nI_add _ _) rfl ?_
          refine pw_goto (tgt := 37) dX8_passesHour_127 (by decide) ?_
          rw [mWk1_b c_53 c_79 hat1 (by omega)] at ih
          exact ih _
  have L4 : ∀ k, k ≤ nA → ∀ w : Value, PW cX8_passesHour mX8_passesHour (fM (qE (some (.int (nI (mWkN m n I (mRunN I m nA F)).2.2))) σ (mSlN m n (up2 (mWkN m n I (mRunN I m nA F)).1 (m + 1) 0 ((mWkN m n I (mRunN I m nA F)).1 (m + 1) 0 + 1))) (mWkN m n I (mRunN I m nA F)).2.1)) 4 [.ref m, .int 0, .int (nI k), w] [] σ I (mRunN I m k F) (0, 0) := by
    refine dn (fun k => ∀ w : Value, PW cX8_passesHour mX8_passesHour (fM (qE (some (.int (nI (mWkN m n I (mRunN I m nA F)).2.2))) σ (mSlN m n (up2 (mWkN m n I (mRunN I m nA F)).1 (m + 1) 0 ((mWkN m n I (mRunN I m nA F)).1 (m + 1) 0 + 1))) (mWkN m n I (mRunN I m nA F)).2.1)) 4 [.ref m, .int 0, .int (nI k), w] [] σ I (mRunN I m k F) (0, 0)) nA ?_ ?_
    · intro w
      refine pw_iload_n dX8_passesHour_4 rfl rfl ?_
      refine pw_aload_n dX8_passesHour_5 rfl rfl ?_
      refine pw_getR (x := (m + 1)) dX8_passesHour_6 fd_RX8_7 (by decide) (mo_k h) rfl (mo_r1 h) ?_
      refine pw_iconst (v := 1) dX8_passesHour_9 (by decide) ?_
      refine pw_ialdN (j := 1) dX8_passesHour_10 (mo_k1 h) (by omega) (by decide) ?_
      refine pw_icmp_ge (tgt := 35) dX8_passesHour_11 (by decide) (fun c_11 => ?_) (fun c_11 => absurd (k_ge hA) c_11)
      refine pw_iconst (v := 0) dX8_passesHour_35 (by decide) ?_
      refine pw_istore_n dX8_passesHour_36 rfl (by decide) rfl ?_
      exact L37 0 (Nat.zero_le _) _
    · intro k hk ih
      intro w
      refine pw_iload_n dX8_passesHour_4 rfl rfl ?_
      refine pw_aload_n dX8_passesHour_5 rfl rfl ?_
      refine pw_getR (x := (m + 1)) dX8_passesHour_6 fd_RX8_7 (by decide) (mo_k h) rfl (mo_r1 h) ?_
      refine pw_iconst (v := 1) dX8_passesHour_9 (by decide) ?_
      refine pw_ialdN (j := 1) dX8_passesHour_10 (mo_k1 h) (by omega) (by decide) ?_
      refine pw_icmp_ge (tgt := 35) dX8_passesHour_11 (by decide) (fun c_11 => absurd c_11 (k_lt hA hk (by omega))) (fun c_11 => ?_)
      refine pw_aload_n dX8_passesHour_14 rfl rfl ?_
      refine pw_iload_n dX8_passesHour_15 rfl rfl ?_
      refine pw_iconst (v := 2) dX8_passesHour_16 (by decide) ?_
      refine pe_callVi dX8_passesHour_17 oX_X8_of lk_RX8_69 (sp_of (a := k) (w := 2) h (by omega) (by omega)) (mo_k h) rfl rfl (Nat.le_of_ble_eq_true rfl) (by decide) ?_
      refine pw_iconst (v := 1) dX8_passesHour_20 (by decide) ?_
      refine pw_icmp_ne (tgt := 29) dX8_passesHour_21 (by decide) (fun c_21 => ?_) (fun c_21 => ?_)
      · refine pw_iinc (v := nI (k + 1)) dX8_passesHour_29 rfl (nI_add _ _) rfl ?_
        refine pw_goto (tgt := 4) dX8_passesHour_32 (by decide) ?_
        rw [mRun_f c_21] at ih
        exact ih _
      · refine pw_aload_n dX8_passesHour_24 rfl rfl ?_
        refine pw_iload_n dX8_passesHour_25 rfl rfl ?_
        refine pe_callVv dX8_passesHour_26 oX_X8_runsHour lk_RX8_158 (sp_runsHour (a := k) h (by omega)) (mo_k h) rfl rfl (Nat.le_of_ble_eq_true rfl) (by decide) ?_
        refine pw_iinc (v := nI (k + 1)) dX8_passesHour_29 rfl (nI_add _ _) rfl ?_
        refine pw_goto (tgt := 4) dX8_passesHour_32 (by decide) ?_
        rw [mRun_t c_21] at ih
        exact ih _
  refine pw_iconst (v := 0) dX8_passesHour_0 (by decide) ?_
  refine pw_istore_n dX8_passesHour_1 rfl (by decide) rfl ?_
  refine pw_iconst (v := 0) dX8_passesHour_2 (by decide) ?_
  refine pw_istore_n dX8_passesHour_3 rfl (by decide) rfl ?_
  exact L4 0 (Nat.zero_le _) _

set_option maxRecDepth 4000 in
theorem sp_passes {σ : pT} {I : pI} {F : pF} {m nA n d : Nat} (h : isMo σ m) (hA : I (m + 1) 1 = nI nA) (hA8 : nA ≤ 8) (hn : I (m + 1) 3 = nI n) (hn4 : n ≤ 24) (hW : ∀ t, t < n → ∃ a, a < nA ∧ I (m + 1) (251 + 10 * t + 0) = nI a) (hd : d ≤ 48) : PE yX8_passes cX8_passes mX8_passes [.ref m, .int (nI d)] σ I F (some (.int (nI (mPsN m nA n d I F).2.2))) (mPsN m nA n d I F).1 (mPsN m nA n d I F).2.1 := by
  refine PE.of oP_X8_passes (catOK rfl) (Nat.le_of_ble_eq_true rfl) ?_
  show PW _ _ _ 0 [.ref m, .int (nI d), pJ, pJ] [] _ _ _ _
  have L4 : ∀ k, k ≤ d → PW cX8_passes mX8_passes (fM (qE (some (.int (nI (mPsN m nA n d I F).2.2))) σ (mPsN m nA n d I F).1 (mPsN m nA n d I F).2.1)) 4 [.ref m, .int (nI d), .int (nI (mPsN m nA n k I F).2.2), .int (nI k)] [] σ (mPsN m nA n k I F).1 (mPsN m nA n k I F).2.1 (0, 0) := by
    refine dn (fun k => PW cX8_passes mX8_passes (fM (qE (some (.int (nI (mPsN m nA n d I F).2.2))) σ (mPsN m nA n d I F).1 (mPsN m nA n d I F).2.1)) 4 [.ref m, .int (nI d), .int (nI (mPsN m nA n k I F).2.2), .int (nI k)] [] σ (mPsN m nA n k I F).1 (mPsN m nA n k I F).2.1 (0, 0)) d ?_ ?_
    · skip
      refine pw_iload_n dX8_passes_4 rfl rfl ?_
      refine pw_iload_n dX8_passes_5 rfl rfl ?_
      refine pw_icmp_ge (tgt := 22) dX8_passes_6 (by decide) (fun c_6 => ?_) (fun c_6 => absurd (k_ge rfl) c_6)
      refine pw_iload_n dX8_passes_22 rfl rfl ?_
      exact pw_iret dX8_passes_23 rfl ⟨rfl, rfl, rfl, rfl⟩
    · intro k hk ih
      have hn1 : (mPsN m nA n k I F).1 (m + 1) 3 = nI n := (mPsN_fr (by omega) k).trans hn
      have hA1 : (mPsN m nA n k I F).1 (m + 1) 1 = nI nA := (mPsN_fr (by omega) k).trans hA
      have hW1 : ∀ t, t < n → ∃ a, a < nA ∧ (mPsN m nA n k I F).1 (m + 1) (251 + 10 * t + 0) = nI a := fun t ht => by obtain ⟨a, h1, h2⟩ := hW t ht; exact ⟨a, h1, (mPsN_fr (by omega) k).trans h2⟩
      rw [show mPsN m nA n (k + 1) I F = mHr m nA n (mPsN m nA n k I F) from rfl] at ih
      revert ih hn1 hA1 hW1
      generalize mPsN m nA n k I F = W
      obtain ⟨I1, F1, c1⟩ := W
      intro ih hn1 hA1 hW1
      dsimp only at ih hn1 hA1 hW1 ⊢
      refine pw_iload_n dX8_passes_4 rfl rfl ?_
      refine pw_iload_n dX8_passes_5 rfl rfl ?_
      refine pw_icmp_ge (tgt := 22) dX8_passes_6 (by decide) (fun c_6 => absurd c_6 (k_lt rfl hk (by omega))) (fun c_6 => ?_)
      refine pw_iload_n dX8_passes_9 rfl rfl ?_
      refine pw_aload_n dX8_passes_10 rfl rfl ?_
      refine pe_callVi dX8_passes_11 oX_X8_passesHour lk_RX8_165 (sp_passesHour h hA1 hA8 hn1 hn4 hW1) (mo_k h) rfl rfl (Nat.le_of_ble_eq_true rfl) (by decide) ?_
      refine pw_iadd dX8_passes_14 ?_
      rw [show (nI c1 + nI ((mWkN m n I1 (mRunN I1 m nA F1)).2.2) : Int32) = nI (c1 + (mWkN m n I1 (mRunN I1 m nA F1)).2.2) from nI_add _ _]
      refine pw_istore_n dX8_passes_15 rfl (by decide) rfl ?_
      refine pw_iinc (v := nI (k + 1)) dX8_passes_16 rfl (nI_add _ _) rfl ?_
      refine pw_goto (tgt := 4) dX8_passes_19 (by decide) ?_
      exact ih
  refine pw_iconst (v := 0) dX8_passes_0 (by decide) ?_
  refine pw_istore_n dX8_passes_1 rfl (by decide) rfl ?_
  refine pw_iconst (v := 0) dX8_passes_2 (by decide) ?_
  refine pw_istore_n dX8_passes_3 rfl (by decide) rfl ?_
  exact L4 0 (Nat.zero_le _)

set_option maxRecDepth 4000 in
theorem sp_passError {σ : pT} {I : pI} {F : pF} {m : Nat} {x : Int32} (h : isMo σ m)  : PE yX8_passError cX8_passError mX8_passError [.ref m, .int x] σ I F (some (.int (mPassE (I (m + 1)) x))) I F := by
  refine PE.of oP_X8_passError (catOK rfl) (Nat.le_of_ble_eq_true rfl) ?_
  show PW _ _ _ 0 [.ref m, .int x] [] _ _ _ _
  refine pw_iload_n dX8_passError_0 rfl rfl ?_
  refine pw_iconst (v := 1) dX8_passError_1 (by decide) ?_
  refine pw_bipush (v := 48) dX8_passError_2 (by decide) ?_
  refine pe_callSi dX8_passError_4 oX_X8_isIn lk_RX8_32 sp_isIn rfl rfl (Nat.le_of_ble_eq_true rfl) (by decide) ?_
  refine pw_ifB_ne (tgt := 13) dX8_passError_7 (by decide) (fun c_7 => ?_) (fun c_7 => ?_)
  · refine pw_aload_n dX8_passError_13 rfl rfl ?_
    refine pw_getR (x := (m + 1)) dX8_passError_14 fd_RX8_7 (by decide) (mo_k h) rfl (mo_r1 h) ?_
    refine pw_iconst (v := 0) dX8_passError_17 (by decide) ?_
    refine pw_ialdN (j := 0) dX8_passError_18 (mo_k1 h) (by omega) (by decide) ?_
    refine pw_iload_n dX8_passError_19 rfl rfl ?_
    refine pw_iadd dX8_passError_20 ?_
    refine pw_sipush (v := 2000) dX8_passError_21 (by decide) ?_
    refine pw_icmp_le (tgt := 32) dX8_passError_24 (by decide) (fun c_24 => ?_) (fun c_24 => ?_)
    · refine pw_iconst (v := 0) dX8_passError_32 (by decide) ?_
      exact pw_iret dX8_passError_33 rfl ⟨by rw [mPassE, if_pos (of_decide_eq_true c_7), if_pos c_24], rfl, rfl, rfl⟩
    · refine pw_bipush (v := (-4)) dX8_passError_27 (by decide) ?_
      refine pw_goto (tgt := 33) dX8_passError_29 (by decide) ?_
      exact pw_iret dX8_passError_33 rfl ⟨by rw [mPassE, if_pos (of_decide_eq_true c_7), if_neg c_24], rfl, rfl, rfl⟩
  · refine pw_bipush (v := (-2)) dX8_passError_10 (by decide) ?_
    exact pw_iret dX8_passError_12 rfl ⟨by rw [mPassE, if_neg (of_decide_eq_false c_7)], rfl, rfl, rfl⟩

/-! the model's acts: an error and nothing else, or the state recorded and the act done -/
def mActQ (m s : Nat) (E : Int32) (R : pI → pF → Int32 × pI × pF) (I : pI) (F : pF) (v : Option Value) (I' : pI) (F' : pF) : Prop :=
  (¬ E = 0 ∧ v = some (.int E) ∧ I' = I ∧ F' = F) ∨ (E = 0 ∧ ∃ I1 F1, mRec m s I F I1 F1 ∧ v = some (.int (R I1 F1).1) ∧ I' = (R I1 F1).2.1 ∧ F' = (R I1 F1).2.2)
theorem mAct_err {m s : Nat} {E e : Int32} {R : pI → pF → Int32 × pI × pF} {I : pI} {F : pF} (h : E = e) (he : ¬ e = 0) : mActQ m s E R I F (some (.int e)) I F := Or.inl ⟨fun z => he (h.symm.trans z), by rw [h], rfl, rfl⟩
theorem mAct_ok {m s : Nat} {E v : Int32} {R : pI → pF → Int32 × pI × pF} {I I1 I' : pI} {F F1 F' : pF} (h : E = 0) (hq : mRec m s I F I1 F1) (e : R I1 F1 = (v, I', F')) : mActQ m s E R I F (some (.int v)) I' F' := Or.inr ⟨h, I1, F1, hq, by rw [e], by rw [e], by rw [e]⟩
theorem mRec_row {m s : Nat} {I I1 : pI} {F F1 : pF} (h : mRec m s I F I1 F1) : I1 (m + 1) = I (m + 1) := h.1 (m + 1) (by omega) (by omega)
def mAddE (N : Nat → Int32) (r w : Int32) : Int32 := if (1 ≤ r ∧ r ≤ 100) ∧ (1 ≤ w ∧ w ≤ 200) then (if N 1 = 8 then -3 else 0) else -2
def mAddR (I : pI) (F : pF) (m nA : Nat) (r w : Int32) : Int32 × pI × pF :=
  (nI nA, up2 (up2 (up2 (up2 (up2 (up2 I (m + 1) 1 (nI (nA + 1))) (m + 1) (4 + 5 * nA + 0) r) (m + 1) (4 + 5 * nA + 1) w) (m + 1) (4 + 5 * nA + 2) 0) (m + 1) (4 + 5 * nA + 3) 0) (m + 1) (4 + 5 * nA + 4) 0, up2 (up2 F (m + 2) nA 1065353216) (m + 3) nA 0)
def mLinkE (N : Nat → Int32) (a o z : Int32) : Int32 := if (0 ≤ a ∧ a < N 1) ∧ (0 ≤ o ∧ o < N 1) then (if a = o then -2 else if (N (4 + 5 * a.toNatClampNeg + 3) >>> (o &&& 31)) &&& 1 = (if z = 0 then 0 else 1) then -5 else 0) else -1
def mLinkI (I : pI) (m : Nat) (a o : Int32) : pI := up2 I (m + 1) (4 + 5 * a.toNatClampNeg + 3) (I (m + 1) (4 + 5 * a.toNatClampNeg + 3) ^^^ (1 <<< (o &&& 31)))
def mLinkR (I : pI) (F : pF) (m : Nat) (a o : Int32) : Int32 × pI × pF := (onesV (mLinkI (mLinkI I m a o) m o a (m + 1) (4 + 5 * a.toNatClampNeg + 3)), mLinkI (mLinkI I m a o) m o a, F)
def mBarE (N : Nat → Int32) (a o z : Int32) : Int32 := if (0 ≤ a ∧ a ≤ 4) ∧ (0 ≤ o ∧ o ≤ 4) then (if bI (mBarB N a.toNatClampNeg o) = z then -5 else 0) else -2
def mBarI (I : pI) (m : Nat) (a o : Int32) : pI := up2 I (m + 1) (246 + a.toNatClampNeg) (I (m + 1) (246 + a.toNatClampNeg) ^^^ (1 <<< (o &&& 31)))
def mBarR (I : pI) (F : pF) (m : Nat) (a o : Int32) : Int32 × pI × pF := (onesV ((if a = o then mBarI I m a o else mBarI (mBarI I m a o) m o a) (m + 1) (246 + a.toNatClampNeg)), (if a = o then mBarI I m a o else mBarI (mBarI I m a o) m o a), F)
def mCrewE (N : Nat → Int32) (r w : Int32) : Int32 := if (1 ≤ r ∧ r ≤ 6) ∧ (0 ≤ w ∧ w ≤ 15) then (if N 2 = 5 then -3 else 0) else -2
def mCrewR (I : pI) (F : pF) (m nC : Nat) (r w : Int32) : Int32 × pI × pF := (nI nC, up2 (up2 (up2 I (m + 1) (236 + 2 * nC) r) (m + 1) (236 + 2 * nC + 1) w) (m + 1) 2 (nI (nC + 1)), F)
def mTaskE (N : Nat → Int32) (a s c d e f : Int32) : Int32 := if 0 ≤ a ∧ a < N 1 then (if (0 ≤ s ∧ s ≤ 3) ∧ (1 ≤ c ∧ c ≤ 6) ∧ (0 ≤ d ∧ d ≤ 4) ∧ (1 ≤ e ∧ e ≤ 48) ∧ (N 0 ≤ f ∧ f ≤ 2000) then (if N 3 = 24 then -3 else 0) else -2) else -1
def mTaskI (I : pI) (m n : Nat) (a s c d e f : Int32) : pI := up2 (up2 (up2 (up2 (up2 (up2 (up2 (up2 (up2 (up2 (up2 I (m + 1) 3 (nI (n + 1))) (m + 1) (251 + 10 * n + 0) a) (m + 1) (251 + 10 * n + 1) s) (m + 1) (251 + 10 * n + 2) c) (m + 1) (251 + 10 * n + 3) d) (m + 1) (251 + 10 * n + 4) e) (m + 1) (251 + 10 * n + 5) f) (m + 1) (251 + 10 * n + 6) 0) (m + 1) (251 + 10 * n + 7) (-5)) (m + 1) (251 + 10 * n + 8) 0) (m + 1) (251 + 10 * n + 9) 0
def mTaskR (I : pI) (F : pF) (m n : Nat) (a s c d e f : Int32) : Int32 × pI × pF := (nI n, mTaskI I m n a s c d e f, F)
def mCanE (N : Nat → Int32) (a : Int32) : Int32 := if 0 ≤ a ∧ a < N 3 then (if N (251 + 10 * a.toNatClampNeg + 6) = 0 then 0 else -4) else -1
def mCanR (I : pI) (F : pF) (m : Nat) (a : Int32) : Int32 × pI × pF := (I (m + 1) (251 + 10 * a.toNatClampNeg + 9), up2 I (m + 1) (251 + 10 * a.toNatClampNeg + 6) 6, F)
theorem ge0_1 {c : Prop} [Decidable c] {x y : Int32} (h : (if c then x else y) = 0) (hy : ¬ y = 0) : c := by
  by_cases hc : c
  · exact hc
  · rw [if_neg hc] at h
    exact absurd h hy

set_option maxRecDepth 4000 in
theorem sp_m_run {σ : pT} {I : pI} {F : pF} {m nA nC n s : Nat} {a : Int32} (h : isMo σ m) (hs : I m 6 = nI s) (hs4 : s ≤ 4) (hA : I (m + 1) 1 = nI nA) (hA8 : nA ≤ 8)  : PR yX8_run cX8_run mX8_run [.ref m, .int a] σ I F (mActQ m s (mRunE (I (m + 1)) a) (fun I F => mGoesR I F m nA a 1) I F) := by
  refine PR.of oP_X8_run (catOK rfl) (Nat.le_of_ble_eq_true rfl) ?_
  show PW _ _ _ 0 [.ref m, .int a, pJ] [] _ _ _ _
  refine pw_aload_n dX8_run_0 rfl rfl ?_
  refine pw_iload_n dX8_run_1 rfl rfl ?_
  refine pe_callVi dX8_run_2 oX_X8_runError lk_RX8_110 (sp_runError h hA hA8) (mo_k h) rfl rfl (Nat.le_of_ble_eq_true rfl) (by decide) ?_
  refine pw_istore_n dX8_run_5 rfl (by decide) rfl ?_
  refine pw_iload_n dX8_run_6 rfl rfl ?_
  refine pw_if_eq (tgt := 12) dX8_run_7 (by decide) (fun c_7 => ?_) (fun c_7 => ?_)
  · obtain ⟨i, hi, rfl⟩ := has_nat (decide_eq_true (ge0_1 c_7 (by decide))) hA (by omega)
    refine pw_aload_n dX8_run_12 rfl rfl ?_
    refine pr_callV dX8_run_13 oX_X8_records lk_RX8_58 (sp_records h hs hs4) (mo_k h) rfl rfl (Nat.le_of_ble_eq_true rfl) (by decide) (fun v I1 F1 hq => ?_)
    obtain ⟨rfl, hq1⟩ := hq
    have e1 := mRec_row hq1
    refine pw_aload_n dX8_run_16 rfl rfl ?_
    refine pw_iload_n dX8_run_17 rfl rfl ?_
    refine pw_iconst (v := 1) dX8_run_18 (by decide) ?_
    refine pe_callVi dX8_run_19 oX_X8_goes lk_RX8_113 (sp_goes h (by rw [e1]; exact hA) hA8 hi) (mo_k h) rfl rfl (Nat.le_of_ble_eq_true rfl) (by decide) ?_
    exact pw_iret dX8_run_22 rfl ⟨rfl, Or.inr ⟨c_7, I1, F1, hq1, rfl, rfl, rfl⟩⟩
  · refine pw_iload_n dX8_run_10 rfl rfl ?_
    exact pw_iret dX8_run_11 rfl ⟨rfl, Or.inl ⟨c_7, rfl, rfl, rfl⟩⟩

set_option maxRecDepth 4000 in
theorem sp_m_stop {σ : pT} {I : pI} {F : pF} {m nA nC n s : Nat} {a : Int32} (h : isMo σ m) (hs : I m 6 = nI s) (hs4 : s ≤ 4) (hA : I (m + 1) 1 = nI nA) (hA8 : nA ≤ 8)  : PR yX8_stop cX8_stop mX8_stop [.ref m, .int a] σ I F (mActQ m s (mStopE (I (m + 1)) a) (fun I F => mGoesR I F m nA a 0) I F) := by
  refine PR.of oP_X8_stop (catOK rfl) (Nat.le_of_ble_eq_true rfl) ?_
  show PW _ _ _ 0 [.ref m, .int a, pJ] [] _ _ _ _
  refine pw_aload_n dX8_stop_0 rfl rfl ?_
  refine pw_iload_n dX8_stop_1 rfl rfl ?_
  refine pe_callVi dX8_stop_2 oX_X8_stopError lk_RX8_116 (sp_stopError h hA hA8) (mo_k h) rfl rfl (Nat.le_of_ble_eq_true rfl) (by decide) ?_
  refine pw_istore_n dX8_stop_5 rfl (by decide) rfl ?_
  refine pw_iload_n dX8_stop_6 rfl rfl ?_
  refine pw_if_eq (tgt := 12) dX8_stop_7 (by decide) (fun c_7 => ?_) (fun c_7 => ?_)
  · obtain ⟨i, hi, rfl⟩ := has_nat (decide_eq_true (ge0_1 c_7 (by decide))) hA (by omega)
    refine pw_aload_n dX8_stop_12 rfl rfl ?_
    refine pr_callV dX8_stop_13 oX_X8_records lk_RX8_58 (sp_records h hs hs4) (mo_k h) rfl rfl (Nat.le_of_ble_eq_true rfl) (by decide) (fun v I1 F1 hq => ?_)
    obtain ⟨rfl, hq1⟩ := hq
    have e1 := mRec_row hq1
    refine pw_aload_n dX8_stop_16 rfl rfl ?_
    refine pw_iload_n dX8_stop_17 rfl rfl ?_
    refine pw_iconst (v := 0) dX8_stop_18 (by decide) ?_
    refine pe_callVi dX8_stop_19 oX_X8_goes lk_RX8_113 (sp_goes h (by rw [e1]; exact hA) hA8 hi) (mo_k h) rfl rfl (Nat.le_of_ble_eq_true rfl) (by decide) ?_
    exact pw_iret dX8_stop_22 rfl ⟨rfl, Or.inr ⟨c_7, I1, F1, hq1, rfl, rfl, rfl⟩⟩
  · refine pw_iload_n dX8_stop_10 rfl rfl ?_
    exact pw_iret dX8_stop_11 rfl ⟨rfl, Or.inl ⟨c_7, rfl, rfl, rfl⟩⟩

set_option maxRecDepth 4000 in
theorem sp_m_hang {σ : pT} {I : pI} {F : pF} {m nA nC n s : Nat} {a b : Int32} (h : isMo σ m) (hs : I m 6 = nI s) (hs4 : s ≤ 4) (hA : I (m + 1) 1 = nI nA) (hA8 : nA ≤ 8) (hC : I (m + 1) 2 = nI nC) (hC5 : nC ≤ 5) (hn : I (m + 1) 3 = nI n) (hn4 : n ≤ 24) (hW : ∀ t, t < n → ∃ a, a < nA ∧ I (m + 1) (251 + 10 * t + 0) = nI a) (hG : ∀ a, a < nA → ∃ g, g ≤ 24 ∧ I (m + 1) (4 + 5 * a + 4) = nI g)  : PR yX8_hang cX8_hang mX8_hang [.ref m, .int a, .int b] σ I F (mActQ m s (mHangE (I (m + 1)) n a b) (fun I F => mHangR I F m a b) I F) := by
  refine PR.of oP_X8_hang (catOK rfl) (Nat.le_of_ble_eq_true rfl) ?_
  show PW _ _ _ 0 [.ref m, .int a, .int b, pJ] [] _ _ _ _
  refine pw_aload_n dX8_hang_0 rfl rfl ?_
  refine pw_iload_n dX8_hang_1 rfl rfl ?_
  refine pw_iload_n dX8_hang_2 rfl rfl ?_
  refine pe_callVi dX8_hang_3 oX_X8_hangError lk_RX8_128 (sp_hangError h hA hA8 hC hC5 hn hn4 hW) (mo_k h) rfl rfl (Nat.le_of_ble_eq_true rfl) (by decide) ?_
  refine pw_istore_n dX8_hang_6 rfl (by decide) rfl ?_
  refine pw_iload_n dX8_hang_7 rfl rfl ?_
  refine pw_if_eq (tgt := 13) dX8_hang_8 (by decide) (fun c_8 => ?_) (fun c_8 => ?_)
  · obtain ⟨i, hi, rfl⟩ := has_nat (decide_eq_true (ge0_1 c_8 (by decide)).1) hn (by omega)
    obtain ⟨at_, haA, hat⟩ := hW i hi
    obtain ⟨g, hg4, hg⟩ := hG at_ haA
    refine pw_aload_n dX8_hang_13 rfl rfl ?_
    refine pr_callV dX8_hang_14 oX_X8_records lk_RX8_58 (sp_records h hs hs4) (mo_k h) rfl rfl (Nat.le_of_ble_eq_true rfl) (by decide) (fun v I1 F1 hq => ?_)
    obtain ⟨rfl, hq1⟩ := hq
    have e1 := mRec_row hq1
    refine pw_aload_n dX8_hang_17 rfl rfl ?_
    refine pw_iload_n dX8_hang_18 rfl rfl ?_
    refine pw_iload_n dX8_hang_19 rfl rfl ?_
    refine pe_callVi dX8_hang_20 oX_X8_hangs lk_RX8_131 (sp_hangs (nA := nA) (n := n) (at_ := at_) (g := g) h (by omega) (by omega) (by rw [e1]; exact hat) (by rw [e1]; exact hg) hg4) (mo_k h) rfl rfl (Nat.le_of_ble_eq_true rfl) (by decide) ?_
    exact pw_iret dX8_hang_23 rfl ⟨rfl, Or.inr ⟨c_8, I1, F1, hq1, rfl, rfl, rfl⟩⟩
  · refine pw_iload_n dX8_hang_11 rfl rfl ?_
    exact pw_iret dX8_hang_12 rfl ⟨rfl, Or.inl ⟨c_8, rfl, rfl, rfl⟩⟩

set_option maxRecDepth 4000 in
theorem sp_m_begin {σ : pT} {I : pI} {F : pF} {m nA nC n s : Nat} {a : Int32} (h : isMo σ m) (hs : I m 6 = nI s) (hs4 : s ≤ 4) (hA : I (m + 1) 1 = nI nA) (hA8 : nA ≤ 8) (hn : I (m + 1) 3 = nI n) (hn4 : n ≤ 24) (hW : ∀ t, t < n → ∃ a, a < nA ∧ I (m + 1) (251 + 10 * t + 0) = nI a) (hKd : ∀ t, t < n → ∃ k, k < 5 ∧ I (m + 1) (251 + 10 * t + 3) = nI k)  : PR yX8_begin cX8_begin mX8_begin [.ref m, .int a] σ I F (mActQ m s (mBeginE (I (m + 1)) n a) (fun I F => mBeginR I F m a) I F) := by
  refine PR.of oP_X8_begin (catOK rfl) (Nat.le_of_ble_eq_true rfl) ?_
  show PW _ _ _ 0 [.ref m, .int a, pJ] [] _ _ _ _
  refine pw_aload_n dX8_begin_0 rfl rfl ?_
  refine pw_iload_n dX8_begin_1 rfl rfl ?_
  refine pe_callVi dX8_begin_2 oX_X8_beginError lk_RX8_137 (sp_beginError h hA hA8 hn hn4 hW hKd) (mo_k h) rfl rfl (Nat.le_of_ble_eq_true rfl) (by decide) ?_
  refine pw_istore_n dX8_begin_5 rfl (by decide) rfl ?_
  refine pw_iload_n dX8_begin_6 rfl rfl ?_
  refine pw_if_eq (tgt := 12) dX8_begin_7 (by decide) (fun c_7 => ?_) (fun c_7 => ?_)
  · obtain ⟨i, hi, rfl⟩ := has_nat (decide_eq_true (ge0_1 c_7 (by decide))) hn (by omega)
    obtain ⟨at_, haA, hat⟩ := hW i hi
    refine pw_aload_n dX8_begin_12 rfl rfl ?_
    refine pr_callV dX8_begin_13 oX_X8_records lk_RX8_58 (sp_records h hs hs4) (mo_k h) rfl rfl (Nat.le_of_ble_eq_true rfl) (by decide) (fun v I1 F1 hq => ?_)
    obtain ⟨rfl, hq1⟩ := hq
    have e1 := mRec_row hq1
    refine pw_aload_n dX8_begin_16 rfl rfl ?_
    refine pw_iload_n dX8_begin_17 rfl rfl ?_
    refine pe_callVi dX8_begin_18 oX_X8_begins lk_RX8_140 (sp_begins h (by omega)) (mo_k h) rfl rfl (Nat.le_of_ble_eq_true rfl) (by decide) ?_
    exact pw_iret dX8_begin_21 rfl ⟨rfl, Or.inr ⟨c_7, I1, F1, hq1, rfl, rfl, rfl⟩⟩
  · refine pw_iload_n dX8_begin_10 rfl rfl ?_
    exact pw_iret dX8_begin_11 rfl ⟨rfl, Or.inl ⟨c_7, rfl, rfl, rfl⟩⟩

set_option maxRecDepth 4000 in
theorem sp_m_lift {σ : pT} {I : pI} {F : pF} {m nA nC n s : Nat} {a b : Int32} (h : isMo σ m) (hs : I m 6 = nI s) (hs4 : s ≤ 4) (hA : I (m + 1) 1 = nI nA) (hA8 : nA ≤ 8) (hC : I (m + 1) 2 = nI nC) (hC5 : nC ≤ 5) (hn : I (m + 1) 3 = nI n) (hn4 : n ≤ 24) (hW : ∀ t, t < n → ∃ a, a < nA ∧ I (m + 1) (251 + 10 * t + 0) = nI a) (hG : ∀ a, a < nA → ∃ g, g ≤ 24 ∧ I (m + 1) (4 + 5 * a + 4) = nI g)  : PR yX8_lift cX8_lift mX8_lift [.ref m, .int a, .int b] σ I F (mActQ m s (mLiftE (I (m + 1)) a b) (fun I F => mLiftR I F m a) I F) := by
  refine PR.of oP_X8_lift (catOK rfl) (Nat.le_of_ble_eq_true rfl) ?_
  show PW _ _ _ 0 [.ref m, .int a, .int b, pJ] [] _ _ _ _
  refine pw_aload_n dX8_lift_0 rfl rfl ?_
  refine pw_iload_n dX8_lift_1 rfl rfl ?_
  refine pw_iload_n dX8_lift_2 rfl rfl ?_
  refine pe_callVi dX8_lift_3 oX_X8_liftError lk_RX8_146 (sp_liftError h hA hA8 hC hC5 hn hn4 hW hG) (mo_k h) rfl rfl (Nat.le_of_ble_eq_true rfl) (by decide) ?_
  refine pw_istore_n dX8_lift_6 rfl (by decide) rfl ?_
  refine pw_iload_n dX8_lift_7 rfl rfl ?_
  refine pw_if_eq (tgt := 13) dX8_lift_8 (by decide) (fun c_8 => ?_) (fun c_8 => ?_)
  · obtain ⟨i, hi, rfl⟩ := has_nat (decide_eq_true (ge0_1 c_8 (by decide)).1) hn (by omega)
    obtain ⟨at_, haA, hat⟩ := hW i hi
    refine pw_aload_n dX8_lift_13 rfl rfl ?_
    refine pr_callV dX8_lift_14 oX_X8_records lk_RX8_58 (sp_records h hs hs4) (mo_k h) rfl rfl (Nat.le_of_ble_eq_true rfl) (by decide) (fun v I1 F1 hq => ?_)
    obtain ⟨rfl, hq1⟩ := hq
    have e1 := mRec_row hq1
    refine pw_aload_n dX8_lift_17 rfl rfl ?_
    refine pw_iload_n dX8_lift_18 rfl rfl ?_
    refine pe_callVi dX8_lift_19 oX_X8_lifts lk_RX8_149 (sp_lifts (at_ := at_) h (by omega) (by omega) (by rw [e1]; exact hat)) (mo_k h) rfl rfl (Nat.le_of_ble_eq_true rfl) (by decide) ?_
    exact pw_iret dX8_lift_22 rfl ⟨rfl, Or.inr ⟨c_8, I1, F1, hq1, rfl, rfl, rfl⟩⟩
  · refine pw_iload_n dX8_lift_11 rfl rfl ?_
    exact pw_iret dX8_lift_12 rfl ⟨rfl, Or.inl ⟨c_8, rfl, rfl, rfl⟩⟩

set_option maxRecDepth 4000 in
theorem sp_m_pass {σ : pT} {I : pI} {F : pF} {m nA nC n s : Nat} {a : Int32} (h : isMo σ m) (hs : I m 6 = nI s) (hs4 : s ≤ 4) (hA : I (m + 1) 1 = nI nA) (hA8 : nA ≤ 8) (hn : I (m + 1) 3 = nI n) (hn4 : n ≤ 24) (hW : ∀ t, t < n → ∃ a, a < nA ∧ I (m + 1) (251 + 10 * t + 0) = nI a)  : PR yX8_pass cX8_pass mX8_pass [.ref m, .int a] σ I F (mActQ m s (mPassE (I (m + 1)) a) (fun I F => mPassR I F m nA n a) I F) := by
  refine PR.of oP_X8_pass (catOK rfl) (Nat.le_of_ble_eq_true rfl) ?_
  show PW _ _ _ 0 [.ref m, .int a, pJ] [] _ _ _ _
  refine pw_aload_n dX8_pass_0 rfl rfl ?_
  refine pw_iload_n dX8_pass_1 rfl rfl ?_
  refine pe_callVi dX8_pass_2 oX_X8_passError lk_RX8_168 (sp_passError h) (mo_k h) rfl rfl (Nat.le_of_ble_eq_true rfl) (by decide) ?_
  refine pw_istore_n dX8_pass_5 rfl (by decide) rfl ?_
  refine pw_iload_n dX8_pass_6 rfl rfl ?_
  refine pw_if_eq (tgt := 12) dX8_pass_7 (by decide) (fun c_7 => ?_) (fun c_7 => ?_)
  · obtain ⟨i, hi1, hi, rfl⟩ := win_nat (lo := 1) (hi := 48) (decide_eq_true (ge0_1 c_7 (by decide))) (by decide) (by decide)
    refine pw_aload_n dX8_pass_12 rfl rfl ?_
    refine pr_callV dX8_pass_13 oX_X8_records lk_RX8_58 (sp_records h hs hs4) (mo_k h) rfl rfl (Nat.le_of_ble_eq_true rfl) (by decide) (fun v I1 F1 hq => ?_)
    obtain ⟨rfl, hq1⟩ := hq
    have e1 := mRec_row hq1
    refine pw_aload_n dX8_pass_16 rfl rfl ?_
    refine pw_iload_n dX8_pass_17 rfl rfl ?_
    refine pe_callVi dX8_pass_18 oX_X8_passes lk_RX8_171 (sp_passes h (by rw [e1]; exact hA) hA8 (by rw [e1]; exact hn) hn4 (by rw [e1]; exact hW) hi) (mo_k h) rfl rfl (Nat.le_of_ble_eq_true rfl) (by decide) ?_
    exact pw_iret dX8_pass_21 rfl ⟨rfl, mAct_ok c_7 hq1 (by rw [mPassR, nI_clamp (show i < 2 ^ 31 by omega)])⟩
  · refine pw_iload_n dX8_pass_10 rfl rfl ?_
    exact pw_iret dX8_pass_11 rfl ⟨rfl, Or.inl ⟨c_7, rfl, rfl, rfl⟩⟩

set_option maxRecDepth 4000 in
theorem sp_m_addAsset {σ : pT} {I : pI} {F : pF} {m nA nC n s : Nat} {a b : Int32} (h : isMo σ m) (hs : I m 6 = nI s) (hs4 : s ≤ 4) (hA : I (m + 1) 1 = nI nA) (hA8 : nA ≤ 8)  : PR yX8_addAsset cX8_addAsset mX8_addAsset [.ref m, .int a, .int b] σ I F (mActQ m s (mAddE (I (m + 1)) a b) (fun I F => mAddR I F m nA a b) I F) := by
  refine PR.of oP_X8_addAsset (catOK rfl) (Nat.le_of_ble_eq_true rfl) ?_
  show PW _ _ _ 0 [.ref m, .int a, .int b, pJ] [] _ _ _ _
  refine pw_iload_n dX8_addAsset_0 rfl rfl ?_
  refine pw_iconst (v := 1) dX8_addAsset_1 (by decide) ?_
  refine pw_bipush (v := 100) dX8_addAsset_2 (by decide) ?_
  refine pe_callSi dX8_addAsset_4 oX_X8_isIn lk_RX8_32 sp_isIn rfl rfl (Nat.le_of_ble_eq_true rfl) (by decide) ?_
  refine pw_ifB_eq (tgt := 21) dX8_addAsset_7 (by decide) (fun c_7 => ?_) (fun c_7 => ?_)
  · refine pw_bipush (v := (-2)) dX8_addAsset_21 (by decide) ?_
    exact pw_iret dX8_addAsset_23 rfl ⟨rfl, mAct_err (by rw [mAddE, if_neg (fun z9 => of_decide_eq_false c_7 z9.1)]) (by decide)⟩
  · refine pw_iload_n dX8_addAsset_10 rfl rfl ?_
    refine pw_iconst (v := 1) dX8_addAsset_11 (by decide) ?_
    refine pw_sipush (v := 200) dX8_addAsset_12 (by decide) ?_
    refine pe_callSi dX8_addAsset_15 oX_X8_isIn lk_RX8_32 sp_isIn rfl rfl (Nat.le_of_ble_eq_true rfl) (by decide) ?_
    refine pw_ifB_ne (tgt := 24) dX8_addAsset_18 (by decide) (fun c_18 => ?_) (fun c_18 => ?_)
    · refine pw_aload_n dX8_addAsset_24 rfl rfl ?_
      refine pw_getR (x := (m + 1)) dX8_addAsset_25 fd_RX8_7 (by decide) (mo_k h) rfl (mo_r1 h) ?_
      refine pw_iconst (v := 1) dX8_addAsset_28 (by decide) ?_
      refine pw_ialdN (j := 1) dX8_addAsset_29 (mo_k1 h) (by omega) (by decide) ?_
      rw [hA]
      refine pw_bipush (v := 8) dX8_addAsset_30 (by decide) ?_
      refine pw_icmp_ne (tgt := 38) dX8_addAsset_32 (by decide) (fun c_32 => ?_) (fun c_32 => ?_)
      · have h8 : nA < 8 := by
          refine Nat.lt_of_le_of_ne hA8 (fun z => c_32 (by rw [z]; rfl))
        refine pw_aload_n dX8_addAsset_38 rfl rfl ?_
        refine pr_callV dX8_addAsset_39 oX_X8_records lk_RX8_58 (sp_records h hs hs4) (mo_k h) rfl rfl (Nat.le_of_ble_eq_true rfl) (by decide) (fun v I1 F1 hq => ?_)
        obtain ⟨rfl, hq1⟩ := hq
        have e1 := mRec_row hq1
        refine pw_aload_n dX8_addAsset_42 rfl rfl ?_
        refine pw_getR (x := (m + 1)) dX8_addAsset_43 fd_RX8_7 (by decide) (mo_k h) rfl (mo_r1 h) ?_
        refine pw_iconst (v := 1) dX8_addAsset_46 (by decide) ?_
        refine pw_ialdN (j := 1) dX8_addAsset_47 (mo_k1 h) (by omega) (by decide) ?_
        rw [e1, hA]
        refine pw_istore_n dX8_addAsset_48 rfl (by decide) rfl ?_
        refine pw_aload_n dX8_addAsset_49 rfl rfl ?_
        refine pw_getR (x := (m + 1)) dX8_addAsset_50 fd_RX8_7 (by decide) (mo_k h) rfl (mo_r1 h) ?_
        refine pw_iconst (v := 1) dX8_addAsset_53 (by decide) ?_
        refine pw_dup2 dX8_addAsset_54 rfl rfl ?_
        refine pw_ialdN (j := 1) dX8_addAsset_55 (mo_k1 h) (by omega) (by decide) ?_
        rw [e1, hA]
        refine pw_iconst (v := 1) dX8_addAsset_56 (by decide) ?_
        refine pw_iadd dX8_addAsset_57 ?_
        rw [show (nI nA + 1 : Int32) = nI (nA + 1) from nI_add _ _]
        refine pw_iastN (j := 1) dX8_addAsset_58 (mo_k1 h) (by omega) (by decide) ?_
        refine pw_aload_n dX8_addAsset_59 rfl rfl ?_
        refine pw_iload_n dX8_addAsset_60 rfl rfl ?_
        refine pw_iconst (v := 0) dX8_addAsset_61 (by decide) ?_
        refine pw_iload_n dX8_addAsset_62 rfl rfl ?_
        refine pe_callVv dX8_addAsset_63 oX_X8_sets lk_RX8_61 (sp_sets (a := nA) (w := 0) h (by omega) (by omega)) (mo_k h) rfl rfl (Nat.le_of_ble_eq_true rfl) (by decide) ?_
        refine pw_aload_n dX8_addAsset_66 rfl rfl ?_
        refine pw_iload_n dX8_addAsset_67 rfl rfl ?_
        refine pw_iconst (v := 1) dX8_addAsset_68 (by decide) ?_
        refine pw_iload_n dX8_addAsset_69 rfl rfl ?_
        refine pe_callVv dX8_addAsset_70 oX_X8_sets lk_RX8_61 (sp_sets (a := nA) (w := 1) h (by omega) (by omega)) (mo_k h) rfl rfl (Nat.le_of_ble_eq_true rfl) (by decide) ?_
        refine pw_aload_n dX8_addAsset_73 rfl rfl ?_
        refine pw_iload_n dX8_addAsset_74 rfl rfl ?_
        refine pw_iconst (v := 2) dX8_addAsset_75 (by decide) ?_
        refine pw_iconst (v := 0) dX8_addAsset_76 (by decide) ?_
        refine pe_callVv dX8_addAsset_77 oX_X8_sets lk_RX8_61 (sp_sets (a := nA) (w := 2) h (by omega) (by omega)) (mo_k h) rfl rfl (Nat.le_of_ble_eq_true rfl) (by decide) ?_
        refine pw_aload_n dX8_addAsset_80 rfl rfl ?_
        refine pw_iload_n dX8_addAsset_81 rfl rfl ?_
        refine pw_iconst (v := 3) dX8_addAsset_82 (by decide) ?_
        refine pw_iconst (v := 0) dX8_addAsset_83 (by decide) ?_
        refine pe_callVv dX8_addAsset_84 oX_X8_sets lk_RX8_61 (sp_sets (a := nA) (w := 3) h (by omega) (by omega)) (mo_k h) rfl rfl (Nat.le_of_ble_eq_true rfl) (by decide) ?_
        refine pw_aload_n dX8_addAsset_87 rfl rfl ?_
        refine pw_iload_n dX8_addAsset_88 rfl rfl ?_
        refine pw_iconst (v := 4) dX8_addAsset_89 (by decide) ?_
        refine pw_iconst (v := 0) dX8_addAsset_90 (by decide) ?_
        refine pe_callVv dX8_addAsset_91 oX_X8_sets lk_RX8_61 (sp_sets (a := nA) (w := 4) h (by omega) (by omega)) (mo_k h) rfl rfl (Nat.le_of_ble_eq_true rfl) (by decide) ?_
        refine pw_aload_n dX8_addAsset_94 rfl rfl ?_
        refine pw_getR (x := (m + 2)) dX8_addAsset_95 fd_RX8_13 (by decide) (mo_k h) rfl (mo_r2 h) ?_
        refine pw_iload_n dX8_addAsset_98 rfl rfl ?_
        refine pw_fconst1 dX8_addAsset_99 ?_
        refine pw_fastN (j := nA) dX8_addAsset_100 (mo_k2 h) (by omega) (by decide) ?_
        refine pw_aload_n dX8_addAsset_101 rfl rfl ?_
        refine pw_getR (x := (m + 3)) dX8_addAsset_102 fd_RX8_17 (by decide) (mo_k h) rfl (mo_r3 h) ?_
        refine pw_iload_n dX8_addAsset_105 rfl rfl ?_
        refine pw_fconst0 dX8_addAsset_106 ?_
        refine pw_fastN (j := nA) dX8_addAsset_107 (mo_k3 h) (by omega) (by decide) ?_
        refine pw_iload_n dX8_addAsset_108 rfl rfl ?_
        exact pw_iret dX8_addAsset_109 rfl ⟨rfl, mAct_ok (by rw [mAddE, if_pos ⟨of_decide_eq_true c_7, of_decide_eq_true c_18⟩, if_neg (fun z => c_32 (hA.symm.trans z))]) hq1 (by rfl)⟩
      · have h8 : nA = 8 := (nI_eq (b := 8) (by omega) (by decide)).mp c_32
        refine pw_bipush (v := (-3)) dX8_addAsset_35 (by decide) ?_
        exact pw_iret dX8_addAsset_37 rfl ⟨rfl, mAct_err (by rw [mAddE, if_pos ⟨of_decide_eq_true c_7, of_decide_eq_true c_18⟩, if_pos (hA.trans c_32)]) (by decide)⟩
    · refine pw_bipush (v := (-2)) dX8_addAsset_21 (by decide) ?_
      exact pw_iret dX8_addAsset_23 rfl ⟨rfl, mAct_err (by rw [mAddE, if_neg (fun z9 => of_decide_eq_false c_18 z9.2)]) (by decide)⟩

set_option maxRecDepth 4000 in
theorem sp_m_link {σ : pT} {I : pI} {F : pF} {m nA nC n s : Nat} {a b c : Int32} (h : isMo σ m) (hs : I m 6 = nI s) (hs4 : s ≤ 4) (hA : I (m + 1) 1 = nI nA) (hA8 : nA ≤ 8)  : PR yX8_link cX8_link mX8_link [.ref m, .int a, .int b, .int c] σ I F (mActQ m s (mLinkE (I (m + 1)) a b c) (fun I F => mLinkR I F m a b) I F) := by
  refine PR.of oP_X8_link (catOK rfl) (Nat.le_of_ble_eq_true rfl) ?_
  show PW _ _ _ 0 [.ref m, .int a, .int b, .int c] [] _ _ _ _
  refine pw_aload_n dX8_link_0 rfl rfl ?_
  refine pw_iload_n dX8_link_1 rfl rfl ?_
  refine pe_callVi dX8_link_2 oX_X8_isAsset lk_RX8_65 (sp_isAsset h hA hA8) (mo_k h) rfl rfl (Nat.le_of_ble_eq_true rfl) (by decide) ?_
  refine pw_ifB_eq (tgt := 16) dX8_link_5 (by decide) (fun c_5 => ?_) (fun c_5 => ?_)
  · refine pw_iconst (v := (-1)) dX8_link_16 (by decide) ?_
    exact pw_iret dX8_link_17 rfl ⟨rfl, mAct_err (by rw [mLinkE, if_neg (fun z9 => of_decide_eq_false c_5 z9.1)]) (by decide)⟩
  · obtain ⟨i, hi, rfl⟩ := has_nat c_5 hA (by omega)
    refine pw_aload_n dX8_link_8 rfl rfl ?_
    refine pw_iload_n dX8_link_9 rfl rfl ?_
    refine pe_callVi dX8_link_10 oX_X8_isAsset lk_RX8_65 (sp_isAsset h hA hA8) (mo_k h) rfl rfl (Nat.le_of_ble_eq_true rfl) (by decide) ?_
    refine pw_ifB_ne (tgt := 18) dX8_link_13 (by decide) (fun c_13 => ?_) (fun c_13 => ?_)
    · obtain ⟨j, hj, rfl⟩ := has_nat c_13 hA (by omega)
      refine pw_iload_n dX8_link_18 rfl rfl ?_
      refine pw_iload_n dX8_link_19 rfl rfl ?_
      refine pw_icmp_ne (tgt := 26) dX8_link_20 (by decide) (fun c_20 => ?_) (fun c_20 => ?_)
      · refine pw_aload_n dX8_link_26 rfl rfl ?_
        refine pw_iload_n dX8_link_27 rfl rfl ?_
        refine pw_iconst (v := 3) dX8_link_28 (by decide) ?_
        refine pe_callVi dX8_link_29 oX_X8_of lk_RX8_69 (sp_of (a := i) (w := 3) h (by omega) (by omega)) (mo_k h) rfl rfl (Nat.le_of_ble_eq_true rfl) (by decide) ?_
        refine pw_iload_n dX8_link_32 rfl rfl ?_
        refine pw_ishr dX8_link_33 ?_
        refine pw_iconst (v := 1) dX8_link_34 (by decide) ?_
        refine pw_iand dX8_link_35 ?_
        refine pw_iload_n dX8_link_36 rfl rfl ?_
        refine pw_if_eq (tgt := 44) dX8_link_37 (by decide) (fun c_37 => ?_) (fun c_37 => ?_)
        · refine pw_iconst (v := 0) dX8_link_44 (by decide) ?_
          refine pw_icmp_ne (tgt := 51) dX8_link_45 (by decide) (fun c_45 => ?_) (fun c_45 => ?_)
          · refine pw_aload_n dX8_link_51 rfl rfl ?_
            refine pr_callV dX8_link_52 oX_X8_records lk_RX8_58 (sp_records h hs hs4) (mo_k h) rfl rfl (Nat.le_of_ble_eq_true rfl) (by decide) (fun v I1 F1 hq => ?_)
            obtain ⟨rfl, hq1⟩ := hq
            have e1 := mRec_row hq1
            refine pw_aload_n dX8_link_55 rfl rfl ?_
            refine pw_iload_n dX8_link_56 rfl rfl ?_
            refine pw_iconst (v := 3) dX8_link_57 (by decide) ?_
            refine pw_aload_n dX8_link_58 rfl rfl ?_
            refine pw_iload_n dX8_link_59 rfl rfl ?_
            refine pw_iconst (v := 3) dX8_link_60 (by decide) ?_
            refine pe_callVi dX8_link_61 oX_X8_of lk_RX8_69 (sp_of (a := i) (w := 3) h (by omega) (by omega)) (mo_k h) rfl rfl (Nat.le_of_ble_eq_true rfl) (by decide) ?_
            refine pw_iconst (v := 1) dX8_link_64 (by decide) ?_
            refine pw_iload_n dX8_link_65 rfl rfl ?_
            refine pw_ishl dX8_link_66 ?_
            refine pw_ixor dX8_link_67 ?_
            refine pe_callVv dX8_link_68 oX_X8_sets lk_RX8_61 (sp_sets (a := i) (w := 3) h (by omega) (by omega)) (mo_k h) rfl rfl (Nat.le_of_ble_eq_true rfl) (by decide) ?_
            refine pw_aload_n dX8_link_71 rfl rfl ?_
            refine pw_iload_n dX8_link_72 rfl rfl ?_
            refine pw_iconst (v := 3) dX8_link_73 (by decide) ?_
            refine pw_aload_n dX8_link_74 rfl rfl ?_
            refine pw_iload_n dX8_link_75 rfl rfl ?_
            refine pw_iconst (v := 3) dX8_link_76 (by decide) ?_
            refine pe_callVi dX8_link_77 oX_X8_of lk_RX8_69 (sp_of (a := j) (w := 3) h (by omega) (by omega)) (mo_k h) rfl rfl (Nat.le_of_ble_eq_true rfl) (by decide) ?_
            refine pw_iconst (v := 1) dX8_link_80 (by decide) ?_
            refine pw_iload_n dX8_link_81 rfl rfl ?_
            refine pw_ishl dX8_link_82 ?_
            refine pw_ixor dX8_link_83 ?_
            refine pe_callVv dX8_link_84 oX_X8_sets lk_RX8_61 (sp_sets (a := j) (w := 3) h (by omega) (by omega)) (mo_k h) rfl rfl (Nat.le_of_ble_eq_true rfl) (by decide) ?_
            refine pw_aload_n dX8_link_87 rfl rfl ?_
            refine pw_iload_n dX8_link_88 rfl rfl ?_
            refine pw_iconst (v := 3) dX8_link_89 (by decide) ?_
            refine pe_callVi dX8_link_90 oX_X8_of lk_RX8_69 (sp_of (a := i) (w := 3) h (by omega) (by omega)) (mo_k h) rfl rfl (Nat.le_of_ble_eq_true rfl) (by decide) ?_
            refine pe_callSi dX8_link_93 oX_X8_ones lk_RX8_73 sp_ones rfl rfl (Nat.le_of_ble_eq_true rfl) (by decide) ?_
            exact pw_iret dX8_link_96 rfl ⟨rfl, mAct_ok (by rw [mLinkE, if_pos ⟨of_decide_eq_true c_5, of_decide_eq_true c_13⟩, if_neg c_20, nI_clamp (show i < 2 ^ 31 by omega), if_pos c_37, if_neg c_45]) hq1 (by rw [mLinkR, mLinkI, mLinkI, nI_clamp (show i < 2 ^ 31 by omega), nI_clamp (show j < 2 ^ 31 by omega)])⟩
          · refine pw_bipush (v := (-5)) dX8_link_48 (by decide) ?_
            exact pw_iret dX8_link_50 rfl ⟨rfl, mAct_err (by rw [mLinkE, if_pos ⟨of_decide_eq_true c_5, of_decide_eq_true c_13⟩, if_neg c_20, nI_clamp (show i < 2 ^ 31 by omega), if_pos c_37, if_pos c_45]) (by decide)⟩
        · refine pw_iconst (v := 1) dX8_link_40 (by decide) ?_
          refine pw_goto (tgt := 45) dX8_link_41 (by decide) ?_
          refine pw_icmp_ne (tgt := 51) dX8_link_45 (by decide) (fun c_45 => ?_) (fun c_45 => ?_)
          · refine pw_aload_n dX8_link_51 rfl rfl ?_
            refine pr_callV dX8_link_52 oX_X8_records lk_RX8_58 (sp_records h hs hs4) (mo_k h) rfl rfl (Nat.le_of_ble_eq_true rfl) (by decide) (fun v I1 F1 hq => ?_)
            obtain ⟨rfl, hq1⟩ := hq
            have e1 := mRec_row hq1
            refine pw_aload_n dX8_link_55 rfl rfl ?_
            refine pw_iload_n dX8_link_56 rfl rfl ?_
            refine pw_iconst (v := 3) dX8_link_57 (by decide) ?_
            refine pw_aload_n dX8_link_58 rfl rfl ?_
            refine pw_iload_n dX8_link_59 rfl rfl ?_
            refine pw_iconst (v := 3) dX8_link_60 (by decide) ?_
            refine pe_callVi dX8_link_61 oX_X8_of lk_RX8_69 (sp_of (a := i) (w := 3) h (by omega) (by omega)) (mo_k h) rfl rfl (Nat.le_of_ble_eq_true rfl) (by decide) ?_
            refine pw_iconst (v := 1) dX8_link_64 (by decide) ?_
            refine pw_iload_n dX8_link_65 rfl rfl ?_
            refine pw_ishl dX8_link_66 ?_
            refine pw_ixor dX8_link_67 ?_
            refine pe_callVv dX8_link_68 oX_X8_sets lk_RX8_61 (sp_sets (a := i) (w := 3) h (by omega) (by omega)) (mo_k h) rfl rfl (Nat.le_of_ble_eq_true rfl) (by decide) ?_
            refine pw_aload_n dX8_link_71 rfl rfl ?_
            refine pw_iload_n dX8_link_72 rfl rfl ?_
            refine pw_iconst (v := 3) dX8_link_73 (by decide) ?_
            refine pw_aload_n dX8_link_74 rfl rfl ?_
            refine pw_iload_n dX8_link_75 rfl rfl ?_
            refine pw_iconst (v := 3) dX8_link_76 (by decide) ?_
            refine pe_callVi dX8_link_77 oX_X8_of lk_RX8_69 (sp_of (a := j) (w := 3) h (by omega) (by omega)) (mo_k h) rfl rfl (Nat.le_of_ble_eq_true rfl) (by decide) ?_
            refine pw_iconst (v := 1) dX8_link_80 (by decide) ?_
            refine pw_iload_n dX8_link_81 rfl rfl ?_
            refine pw_ishl dX8_link_82 ?_
            refine pw_ixor dX8_link_83 ?_
            refine pe_callVv dX8_link_84 oX_X8_sets lk_RX8_61 (sp_sets (a := j) (w := 3) h (by omega) (by omega)) (mo_k h) rfl rfl (Nat.le_of_ble_eq_true rfl) (by decide) ?_
            refine pw_aload_n dX8_link_87 rfl rfl ?_
            refine pw_iload_n dX8_link_88 rfl rfl ?_
            refine pw_iconst (v := 3) dX8_link_89 (by decide) ?_
            refine pe_callVi dX8_link_90 oX_X8_of lk_RX8_69 (sp_of (a := i) (w := 3) h (by omega) (by omega)) (mo_k h) rfl rfl (Nat.le_of_ble_eq_true rfl) (by decide) ?_
            refine pe_callSi dX8_link_93 oX_X8_ones lk_RX8_73 sp_ones rfl rfl (Nat.le_of_ble_eq_true rfl) (by decide) ?_
            exact pw_iret dX8_link_96 rfl ⟨rfl, mAct_ok (by rw [mLinkE, if_pos ⟨of_decide_eq_true c_5, of_decide_eq_true c_13⟩, if_neg c_20, nI_clamp (show i < 2 ^ 31 by omega), if_neg c_37, if_neg c_45]) hq1 (by rw [mLinkR, mLinkI, mLinkI, nI_clamp (show i < 2 ^ 31 by omega), nI_clamp (show j < 2 ^ 31 by omega)])⟩
          · refine pw_bipush (v := (-5)) dX8_link_48 (by decide) ?_
            exact pw_iret dX8_link_50 rfl ⟨rfl, mAct_err (by rw [mLinkE, if_pos ⟨of_decide_eq_true c_5, of_decide_eq_true c_13⟩, if_neg c_20, nI_clamp (show i < 2 ^ 31 by omega), if_neg c_37, if_pos c_45]) (by decide)⟩
      · refine pw_bipush (v := (-2)) dX8_link_23 (by decide) ?_
        exact pw_iret dX8_link_25 rfl ⟨rfl, mAct_err (by rw [mLinkE, if_pos ⟨of_decide_eq_true c_5, of_decide_eq_true c_13⟩, if_pos c_20]) (by decide)⟩
    · refine pw_iconst (v := (-1)) dX8_link_16 (by decide) ?_
      exact pw_iret dX8_link_17 rfl ⟨rfl, mAct_err (by rw [mLinkE, if_neg (fun z9 => of_decide_eq_false c_13 z9.2)]) (by decide)⟩

set_option maxRecDepth 4000 in
theorem sp_m_bar {σ : pT} {I : pI} {F : pF} {m nA nC n s : Nat} {a b c : Int32} (h : isMo σ m) (hs : I m 6 = nI s) (hs4 : s ≤ 4)  : PR yX8_bar cX8_bar mX8_bar [.ref m, .int a, .int b, .int c] σ I F (mActQ m s (mBarE (I (m + 1)) a b c) (fun I F => mBarR I F m a b) I F) := by
  refine PR.of oP_X8_bar (catOK rfl) (Nat.le_of_ble_eq_true rfl) ?_
  show PW _ _ _ 0 [.ref m, .int a, .int b, .int c] [] _ _ _ _
  refine pw_iload_n dX8_bar_0 rfl rfl ?_
  refine pw_iconst (v := 0) dX8_bar_1 (by decide) ?_
  refine pw_iconst (v := 4) dX8_bar_2 (by decide) ?_
  refine pe_callSi dX8_bar_3 oX_X8_isIn lk_RX8_32 sp_isIn rfl rfl (Nat.le_of_ble_eq_true rfl) (by decide) ?_
  refine pw_ifB_eq (tgt := 18) dX8_bar_6 (by decide) (fun c_6 => ?_) (fun c_6 => ?_)
  · refine pw_bipush (v := (-2)) dX8_bar_18 (by decide) ?_
    exact pw_iret dX8_bar_20 rfl ⟨rfl, mAct_err (by rw [mBarE, if_neg (fun z9 => of_decide_eq_false c_6 z9.1)]) (by decide)⟩
  · obtain ⟨i, hi0, hi, rfl⟩ := win_nat (lo := 0) (hi := 4) c_6 (by decide) (by decide)
    refine pw_iload_n dX8_bar_9 rfl rfl ?_
    refine pw_iconst (v := 0) dX8_bar_10 (by decide) ?_
    refine pw_iconst (v := 4) dX8_bar_11 (by decide) ?_
    refine pe_callSi dX8_bar_12 oX_X8_isIn lk_RX8_32 sp_isIn rfl rfl (Nat.le_of_ble_eq_true rfl) (by decide) ?_
    refine pw_ifB_ne (tgt := 21) dX8_bar_15 (by decide) (fun c_15 => ?_) (fun c_15 => ?_)
    · obtain ⟨j, hj0, hj, rfl⟩ := win_nat (lo := 0) (hi := 4) c_15 (by decide) (by decide)
      refine pw_aload_n dX8_bar_21 rfl rfl ?_
      refine pw_iload_n dX8_bar_22 rfl rfl ?_
      refine pw_iload_n dX8_bar_23 rfl rfl ?_
      refine pe_callVi dX8_bar_24 oX_X8_bars lk_RX8_77 (sp_bars (k := i) h (by omega)) (mo_k h) rfl rfl (Nat.le_of_ble_eq_true rfl) (by decide) ?_
      refine pw_iload_n dX8_bar_27 rfl rfl ?_
      refine pw_icmp_ne (tgt := 34) dX8_bar_28 (by decide) (fun c_28 => ?_) (fun c_28 => ?_)
      · refine pw_aload_n dX8_bar_34 rfl rfl ?_
        refine pr_callV dX8_bar_35 oX_X8_records lk_RX8_58 (sp_records h hs hs4) (mo_k h) rfl rfl (Nat.le_of_ble_eq_true rfl) (by decide) (fun v I1 F1 hq => ?_)
        obtain ⟨rfl, hq1⟩ := hq
        have e1 := mRec_row hq1
        refine pw_aload_n dX8_bar_38 rfl rfl ?_
        refine pw_getR (x := (m + 1)) dX8_bar_39 fd_RX8_7 (by decide) (mo_k h) rfl (mo_r1 h) ?_
        refine pw_sipush (v := 246) dX8_bar_42 (by decide) ?_
        refine pw_iload_n dX8_bar_45 rfl rfl ?_
        refine pw_iadd dX8_bar_46 ?_
        rw [show (246 + nI i : Int32) = nI (246 + i) from nI_add _ _]
        refine pw_dup2 dX8_bar_47 rfl rfl ?_
        refine pw_ialdN (j := (246 + i)) dX8_bar_48 (mo_k1 h) (by omega) (by decide) ?_
        refine pw_iconst (v := 1) dX8_bar_49 (by decide) ?_
        refine pw_iload_n dX8_bar_50 rfl rfl ?_
        refine pw_ishl dX8_bar_51 ?_
        refine pw_ixor dX8_bar_52 ?_
        refine pw_iastN (j := (246 + i)) dX8_bar_53 (mo_k1 h) (by omega) (by decide) ?_
        refine pw_iload_n dX8_bar_54 rfl rfl ?_
        refine pw_iload_n dX8_bar_55 rfl rfl ?_
        refine pw_icmp_eq (tgt := 75) dX8_bar_56 (by decide) (fun c_56 => ?_) (fun c_56 => ?_)
        · refine pw_aload_n dX8_bar_75 rfl rfl ?_
          refine pw_getR (x := (m + 1)) dX8_bar_76 fd_RX8_7 (by decide) (mo_k h) rfl (mo_r1 h) ?_
          refine pw_sipush (v := 246) dX8_bar_79 (by decide) ?_
          refine pw_iload_n dX8_bar_82 rfl rfl ?_
          refine pw_iadd dX8_bar_83 ?_
          rw [show (246 + nI i : Int32) = nI (246 + i) from nI_add _ _]
          refine pw_ialdN (j := (246 + i)) dX8_bar_84 (mo_k1 h) (by omega) (by decide) ?_
          refine pe_callSi dX8_bar_85 oX_X8_ones lk_RX8_73 sp_ones rfl rfl (Nat.le_of_ble_eq_true rfl) (by decide) ?_
          exact pw_iret dX8_bar_88 rfl ⟨rfl, mAct_ok (by rw [mBarE, if_pos ⟨of_decide_eq_true c_6, of_decide_eq_true c_15⟩, nI_clamp (show i < 2 ^ 31 by omega), if_neg c_28]) hq1 (by rw [mBarR, if_pos c_56, mBarI, nI_clamp (show i < 2 ^ 31 by omega)])⟩
        · refine pw_aload_n dX8_bar_59 rfl rfl ?_
          refine pw_getR (x := (m + 1)) dX8_bar_60 fd_RX8_7 (by decide) (mo_k h) rfl (mo_r1 h) ?_
          refine pw_sipush (v := 246) dX8_bar_63 (by decide) ?_
          refine pw_iload_n dX8_bar_66 rfl rfl ?_
          refine pw_iadd dX8_bar_67 ?_
          rw [show (246 + nI j : Int32) = nI (246 + j) from nI_add _ _]
          refine pw_dup2 dX8_bar_68 rfl rfl ?_
          refine pw_ialdN (j := (246 + j)) dX8_bar_69 (mo_k1 h) (by omega) (by decide) ?_
          refine pw_iconst (v := 1) dX8_bar_70 (by decide) ?_
          refine pw_iload_n dX8_bar_71 rfl rfl ?_
          refine pw_ishl dX8_bar_72 ?_
          refine pw_ixor dX8_bar_73 ?_
          refine pw_iastN (j := (246 + j)) dX8_bar_74 (mo_k1 h) (by omega) (by decide) ?_
          refine pw_aload_n dX8_bar_75 rfl rfl ?_
          refine pw_getR (x := (m + 1)) dX8_bar_76 fd_RX8_7 (by decide) (mo_k h) rfl (mo_r1 h) ?_
          refine pw_sipush (v := 246) dX8_bar_79 (by decide) ?_
          refine pw_iload_n dX8_bar_82 rfl rfl ?_
          refine pw_iadd dX8_bar_83 ?_
          rw [show (246 + nI i : Int32) = nI (246 + i) from nI_add _ _]
          refine pw_ialdN (j := (246 + i)) dX8_bar_84 (mo_k1 h) (by omega) (by decide) ?_
          refine pe_callSi dX8_bar_85 oX_X8_ones lk_RX8_73 sp_ones rfl rfl (Nat.le_of_ble_eq_true rfl) (by decide) ?_
          exact pw_iret dX8_bar_88 rfl ⟨rfl, mAct_ok (by rw [mBarE, if_pos ⟨of_decide_eq_true c_6, of_decide_eq_true c_15⟩, nI_clamp (show i < 2 ^ 31 by omega), if_neg c_28]) hq1 (by rw [mBarR, if_neg c_56, mBarI, mBarI, nI_clamp (show i < 2 ^ 31 by omega), nI_clamp (show j < 2 ^ 31 by omega)])⟩
      · refine pw_bipush (v := (-5)) dX8_bar_31 (by decide) ?_
        exact pw_iret dX8_bar_33 rfl ⟨rfl, mAct_err (by rw [mBarE, if_pos ⟨of_decide_eq_true c_6, of_decide_eq_true c_15⟩, nI_clamp (show i < 2 ^ 31 by omega), if_pos c_28]) (by decide)⟩
    · refine pw_bipush (v := (-2)) dX8_bar_18 (by decide) ?_
      exact pw_iret dX8_bar_20 rfl ⟨rfl, mAct_err (by rw [mBarE, if_neg (fun z9 => of_decide_eq_false c_15 z9.2)]) (by decide)⟩

set_option maxRecDepth 4000 in
theorem sp_m_addCrew {σ : pT} {I : pI} {F : pF} {m nA nC n s : Nat} {a b : Int32} (h : isMo σ m) (hs : I m 6 = nI s) (hs4 : s ≤ 4) (hC : I (m + 1) 2 = nI nC) (hC5 : nC ≤ 5)  : PR yX8_addCrew cX8_addCrew mX8_addCrew [.ref m, .int a, .int b] σ I F (mActQ m s (mCrewE (I (m + 1)) a b) (fun I F => mCrewR I F m nC a b) I F) := by
  refine PR.of oP_X8_addCrew (catOK rfl) (Nat.le_of_ble_eq_true rfl) ?_
  show PW _ _ _ 0 [.ref m, .int a, .int b] [] _ _ _ _
  refine pw_iload_n dX8_addCrew_0 rfl rfl ?_
  refine pw_iconst (v := 1) dX8_addCrew_1 (by decide) ?_
  refine pw_bipush (v := 6) dX8_addCrew_2 (by decide) ?_
  refine pe_callSi dX8_addCrew_4 oX_X8_isIn lk_RX8_32 sp_isIn rfl rfl (Nat.le_of_ble_eq_true rfl) (by decide) ?_
  refine pw_ifB_eq (tgt := 20) dX8_addCrew_7 (by decide) (fun c_7 => ?_) (fun c_7 => ?_)
  · refine pw_bipush (v := (-2)) dX8_addCrew_20 (by decide) ?_
    exact pw_iret dX8_addCrew_22 rfl ⟨rfl, mAct_err (by rw [mCrewE, if_neg (fun z9 => of_decide_eq_false c_7 z9.1)]) (by decide)⟩
  · refine pw_iload_n dX8_addCrew_10 rfl rfl ?_
    refine pw_iconst (v := 0) dX8_addCrew_11 (by decide) ?_
    refine pw_bipush (v := 15) dX8_addCrew_12 (by decide) ?_
    refine pe_callSi dX8_addCrew_14 oX_X8_isIn lk_RX8_32 sp_isIn rfl rfl (Nat.le_of_ble_eq_true rfl) (by decide) ?_
    refine pw_ifB_ne (tgt := 23) dX8_addCrew_17 (by decide) (fun c_17 => ?_) (fun c_17 => ?_)
    · refine pw_aload_n dX8_addCrew_23 rfl rfl ?_
      refine pw_getR (x := (m + 1)) dX8_addCrew_24 fd_RX8_7 (by decide) (mo_k h) rfl (mo_r1 h) ?_
      refine pw_iconst (v := 2) dX8_addCrew_27 (by decide) ?_
      refine pw_ialdN (j := 2) dX8_addCrew_28 (mo_k1 h) (by omega) (by decide) ?_
      rw [hC]
      refine pw_iconst (v := 5) dX8_addCrew_29 (by decide) ?_
      refine pw_icmp_ne (tgt := 36) dX8_addCrew_30 (by decide) (fun c_30 => ?_) (fun c_30 => ?_)
      · have h8 : nC < 5 := by
          refine Nat.lt_of_le_of_ne hC5 (fun z => c_30 (by rw [z]; rfl))
        refine pw_aload_n dX8_addCrew_36 rfl rfl ?_
        refine pr_callV dX8_addCrew_37 oX_X8_records lk_RX8_58 (sp_records h hs hs4) (mo_k h) rfl rfl (Nat.le_of_ble_eq_true rfl) (by decide) (fun v I1 F1 hq => ?_)
        obtain ⟨rfl, hq1⟩ := hq
        have e1 := mRec_row hq1
        refine pw_aload_n dX8_addCrew_40 rfl rfl ?_
        refine pw_getR (x := (m + 1)) dX8_addCrew_41 fd_RX8_7 (by decide) (mo_k h) rfl (mo_r1 h) ?_
        refine pw_sipush (v := 236) dX8_addCrew_44 (by decide) ?_
        refine pw_iconst (v := 2) dX8_addCrew_47 (by decide) ?_
        refine pw_aload_n dX8_addCrew_48 rfl rfl ?_
        refine pw_getR (x := (m + 1)) dX8_addCrew_49 fd_RX8_7 (by decide) (mo_k h) rfl (mo_r1 h) ?_
        refine pw_iconst (v := 2) dX8_addCrew_52 (by decide) ?_
        refine pw_ialdN (j := 2) dX8_addCrew_53 (mo_k1 h) (by omega) (by decide) ?_
        rw [e1, hC]
        refine pw_imul dX8_addCrew_54 ?_
        rw [show (2 * nI nC : Int32) = nI (2 * nC) from pk_mul _ _]
        refine pw_iadd dX8_addCrew_55 ?_
        rw [show (236 + nI (2 * nC) : Int32) = nI (236 + (2 * nC)) from nI_add _ _]
        refine pw_iload_n dX8_addCrew_56 rfl rfl ?_
        refine pw_iastN (j := (236 + (2 * nC))) dX8_addCrew_57 (mo_k1 h) (by omega) (by decide) ?_
        refine pw_aload_n dX8_addCrew_58 rfl rfl ?_
        refine pw_getR (x := (m + 1)) dX8_addCrew_59 fd_RX8_7 (by decide) (mo_k h) rfl (mo_r1 h) ?_
        refine pw_sipush (v := 236) dX8_addCrew_62 (by decide) ?_
        refine pw_iconst (v := 2) dX8_addCrew_65 (by decide) ?_
        refine pw_aload_n dX8_addCrew_66 rfl rfl ?_
        refine pw_getR (x := (m + 1)) dX8_addCrew_67 fd_RX8_7 (by decide) (mo_k h) rfl (mo_r1 h) ?_
        refine pw_iconst (v := 2) dX8_addCrew_70 (by decide) ?_
        refine pw_ialdN (j := 2) dX8_addCrew_71 (mo_k1 h) (by omega) (by decide) ?_
        rw [up2_nj (by omega), e1, hC]
        refine pw_imul dX8_addCrew_72 ?_
        rw [show (2 * nI nC : Int32) = nI (2 * nC) from pk_mul _ _]
        refine pw_iadd dX8_addCrew_73 ?_
        rw [show (236 + nI (2 * nC) : Int32) = nI (236 + (2 * nC)) from nI_add _ _]
        refine pw_iconst (v := 1) dX8_addCrew_74 (by decide) ?_
        refine pw_iadd dX8_addCrew_75 ?_
        rw [show (nI (236 + (2 * nC)) + 1 : Int32) = nI ((236 + (2 * nC)) + 1) from nI_add _ _]
        refine pw_iload_n dX8_addCrew_76 rfl rfl ?_
        refine pw_iastN (j := ((236 + (2 * nC)) + 1)) dX8_addCrew_77 (mo_k1 h) (by omega) (by decide) ?_
        refine pw_aload_n dX8_addCrew_78 rfl rfl ?_
        refine pw_getR (x := (m + 1)) dX8_addCrew_79 fd_RX8_7 (by decide) (mo_k h) rfl (mo_r1 h) ?_
        refine pw_iconst (v := 2) dX8_addCrew_82 (by decide) ?_
        refine pw_dup2 dX8_addCrew_83 rfl rfl ?_
        refine pw_ialdN (j := 2) dX8_addCrew_84 (mo_k1 h) (by omega) (by decide) ?_
        rw [up2_nj (by omega), up2_nj (by omega), e1, hC]
        refine pw_iconst (v := 1) dX8_addCrew_85 (by decide) ?_
        refine pw_iadd dX8_addCrew_86 ?_
        rw [show (nI nC + 1 : Int32) = nI (nC + 1) from nI_add _ _]
        refine pw_iastN (j := 2) dX8_addCrew_87 (mo_k1 h) (by omega) (by decide) ?_
        refine pw_aload_n dX8_addCrew_88 rfl rfl ?_
        refine pw_getR (x := (m + 1)) dX8_addCrew_89 fd_RX8_7 (by decide) (mo_k h) rfl (mo_r1 h) ?_
        refine pw_iconst (v := 2) dX8_addCrew_92 (by decide) ?_
        refine pw_ialdN (j := 2) dX8_addCrew_93 (mo_k1 h) (by omega) (by decide) ?_
        rw [up2_s]
        refine pw_iconst (v := 1) dX8_addCrew_94 (by decide) ?_
        refine pw_isub dX8_addCrew_95 ?_
        rw [show (nI (nC + 1) - 1 : Int32) = nI ((nC + 1) - 1) from pk_sub (a := (nC + 1)) (b := 1) (by omega)]
        exact pw_iret dX8_addCrew_96 rfl ⟨rfl, mAct_ok (by rw [mCrewE, if_pos ⟨of_decide_eq_true c_7, of_decide_eq_true c_17⟩, if_neg (fun z => c_30 (hC.symm.trans z))]) hq1 (by rfl)⟩
      · have h8 : nC = 5 := (nI_eq (b := 5) (by omega) (by decide)).mp c_30
        refine pw_bipush (v := (-3)) dX8_addCrew_33 (by decide) ?_
        exact pw_iret dX8_addCrew_35 rfl ⟨rfl, mAct_err (by rw [mCrewE, if_pos ⟨of_decide_eq_true c_7, of_decide_eq_true c_17⟩, if_pos (hC.trans c_30)]) (by decide)⟩
    · refine pw_bipush (v := (-2)) dX8_addCrew_20 (by decide) ?_
      exact pw_iret dX8_addCrew_22 rfl ⟨rfl, mAct_err (by rw [mCrewE, if_neg (fun z9 => of_decide_eq_false c_17 z9.2)]) (by decide)⟩

set_option maxRecDepth 4000 in
theorem sp_m_addTask {σ : pT} {I : pI} {F : pF} {m nA nC n s : Nat} {a b c d e f : Int32} (h : isMo σ m) (hs : I m 6 = nI s) (hs4 : s ≤ 4) (hA : I (m + 1) 1 = nI nA) (hA8 : nA ≤ 8) (hn : I (m + 1) 3 = nI n) (hn4 : n ≤ 24)  : PR yX8_addTask cX8_addTask mX8_addTask [.ref m, .int a, .int b, .int c, .int d, .int e, .int f] σ I F (mActQ m s (mTaskE (I (m + 1)) a b c d e f) (fun I F => mTaskR I F m n a b c d e f) I F) := by
  refine PR.of oP_X8_addTask (catOK rfl) (Nat.le_of_ble_eq_true rfl) ?_
  show PW _ _ _ 0 [.ref m, .int a, .int b, .int c, .int d, .int e, .int f, pJ, pJ] [] _ _ _ _
  refine pw_aload_n dX8_addTask_0 rfl rfl ?_
  refine pw_iload_n dX8_addTask_1 rfl rfl ?_
  refine pe_callVi dX8_addTask_2 oX_X8_isAsset lk_RX8_65 (sp_isAsset h hA hA8) (mo_k h) rfl rfl (Nat.le_of_ble_eq_true rfl) (by decide) ?_
  refine pw_ifB_ne (tgt := 10) dX8_addTask_5 (by decide) (fun c_5 => ?_) (fun c_5 => ?_)
  · refine pw_iload_n dX8_addTask_10 rfl rfl ?_
    refine pw_iconst (v := 0) dX8_addTask_11 (by decide) ?_
    refine pw_iconst (v := 3) dX8_addTask_12 (by decide) ?_
    refine pe_callSi dX8_addTask_13 oX_X8_isIn lk_RX8_32 sp_isIn rfl rfl (Nat.le_of_ble_eq_true rfl) (by decide) ?_
    refine pw_ifB_eq (tgt := 43) dX8_addTask_16 (by decide) (fun c_16 => ?_) (fun c_16 => ?_)
    · refine pw_iconst (v := 0) dX8_addTask_43 (by decide) ?_
      refine pw_istore dX8_addTask_44 (by decide) rfl ?_
      refine pw_iload dX8_addTask_46 rfl ?_
      refine pw_if_eq (tgt := 79) dX8_addTask_48 (by decide) (fun c_48 => ?_) (fun c_48 => absurd rfl c_48)
      refine pw_bipush (v := (-2)) dX8_addTask_79 (by decide) ?_
      exact pw_iret dX8_addTask_81 rfl ⟨rfl, mAct_err (by rw [mTaskE, if_pos (of_decide_eq_true c_5), if_neg (fun z9 => of_decide_eq_false c_16 z9.1)]) (by decide)⟩
    · refine pw_iload_n dX8_addTask_19 rfl rfl ?_
      refine pw_iconst (v := 1) dX8_addTask_20 (by decide) ?_
      refine pw_bipush (v := 6) dX8_addTask_21 (by decide) ?_
      refine pe_callSi dX8_addTask_23 oX_X8_isIn lk_RX8_32 sp_isIn rfl rfl (Nat.le_of_ble_eq_true rfl) (by decide) ?_
      refine pw_ifB_eq (tgt := 43) dX8_addTask_26 (by decide) (fun c_26 => ?_) (fun c_26 => ?_)
      · refine pw_iconst (v := 0) dX8_addTask_43 (by decide) ?_
        refine pw_istore dX8_addTask_44 (by decide) rfl ?_
        refine pw_iload dX8_addTask_46 rfl ?_
        refine pw_if_eq (tgt := 79) dX8_addTask_48 (by decide) (fun c_48 => ?_) (fun c_48 => absurd rfl c_48)
        refine pw_bipush (v := (-2)) dX8_addTask_79 (by decide) ?_
        exact pw_iret dX8_addTask_81 rfl ⟨rfl, mAct_err (by rw [mTaskE, if_pos (of_decide_eq_true c_5), if_neg (fun z9 => of_decide_eq_false c_26 z9.2.1)]) (by decide)⟩
      · refine pw_iload dX8_addTask_29 rfl ?_
        refine pw_iconst (v := 0) dX8_addTask_31 (by decide) ?_
        refine pw_iconst (v := 4) dX8_addTask_32 (by decide) ?_
        refine pe_callSi dX8_addTask_33 oX_X8_isIn lk_RX8_32 sp_isIn rfl rfl (Nat.le_of_ble_eq_true rfl) (by decide) ?_
        refine pw_ifB_eq (tgt := 43) dX8_addTask_36 (by decide) (fun c_36 => ?_) (fun c_36 => ?_)
        · refine pw_iconst (v := 0) dX8_addTask_43 (by decide) ?_
          refine pw_istore dX8_addTask_44 (by decide) rfl ?_
          refine pw_iload dX8_addTask_46 rfl ?_
          refine pw_if_eq (tgt := 79) dX8_addTask_48 (by decide) (fun c_48 => ?_) (fun c_48 => absurd rfl c_48)
          refine pw_bipush (v := (-2)) dX8_addTask_79 (by decide) ?_
          exact pw_iret dX8_addTask_81 rfl ⟨rfl, mAct_err (by rw [mTaskE, if_pos (of_decide_eq_true c_5), if_neg (fun z9 => of_decide_eq_false c_36 z9.2.2.1)]) (by decide)⟩
        · refine pw_iconst (v := 1) dX8_addTask_39 (by decide) ?_
          refine pw_goto (tgt := 44) dX8_addTask_40 (by decide) ?_
          refine pw_istore dX8_addTask_44 (by decide) rfl ?_
          refine pw_iload dX8_addTask_46 rfl ?_
          refine pw_if_eq (tgt := 79) dX8_addTask_48 (by decide) (fun c_48 => absurd c_48 (by decide)) (fun c_48 => ?_)
          refine pw_iload dX8_addTask_51 rfl ?_
          refine pw_iconst (v := 1) dX8_addTask_53 (by decide) ?_
          refine pw_bipush (v := 48) dX8_addTask_54 (by decide) ?_
          refine pe_callSi dX8_addTask_56 oX_X8_isIn lk_RX8_32 sp_isIn rfl rfl (Nat.le_of_ble_eq_true rfl) (by decide) ?_
          refine pw_ifB_eq (tgt := 79) dX8_addTask_59 (by decide) (fun c_59 => ?_) (fun c_59 => ?_)
          · refine pw_bipush (v := (-2)) dX8_addTask_79 (by decide) ?_
            exact pw_iret dX8_addTask_81 rfl ⟨rfl, mAct_err (by rw [mTaskE, if_pos (of_decide_eq_true c_5), if_neg (fun z9 => of_decide_eq_false c_59 z9.2.2.2.1)]) (by decide)⟩
          · refine pw_iload dX8_addTask_62 rfl ?_
            refine pw_aload_n dX8_addTask_64 rfl rfl ?_
            refine pw_getR (x := (m + 1)) dX8_addTask_65 fd_RX8_7 (by decide) (mo_k h) rfl (mo_r1 h) ?_
            refine pw_iconst (v := 0) dX8_addTask_68 (by decide) ?_
            refine pw_ialdN (j := 0) dX8_addTask_69 (mo_k1 h) (by omega) (by decide) ?_
            refine pw_sipush (v := 2000) dX8_addTask_70 (by decide) ?_
            refine pe_callSi dX8_addTask_73 oX_X8_isIn lk_RX8_32 sp_isIn rfl rfl (Nat.le_of_ble_eq_true rfl) (by decide) ?_
            refine pw_ifB_ne (tgt := 82) dX8_addTask_76 (by decide) (fun c_76 => ?_) (fun c_76 => ?_)
            · refine pw_aload_n dX8_addTask_82 rfl rfl ?_
              refine pw_getR (x := (m + 1)) dX8_addTask_83 fd_RX8_7 (by decide) (mo_k h) rfl (mo_r1 h) ?_
              refine pw_iconst (v := 3) dX8_addTask_86 (by decide) ?_
              refine pw_ialdN (j := 3) dX8_addTask_87 (mo_k1 h) (by omega) (by decide) ?_
              rw [hn]
              refine pw_bipush (v := 24) dX8_addTask_88 (by decide) ?_
              refine pw_icmp_ne (tgt := 96) dX8_addTask_90 (by decide) (fun c_90 => ?_) (fun c_90 => ?_)
              · have h8 : n < 24 := by
                  refine Nat.lt_of_le_of_ne hn4 (fun z => c_90 (by rw [z]; rfl))
                refine pw_aload_n dX8_addTask_96 rfl rfl ?_
                refine pr_callV dX8_addTask_97 oX_X8_records lk_RX8_58 (sp_records h hs hs4) (mo_k h) rfl rfl (Nat.le_of_ble_eq_true rfl) (by decide) (fun v I1 F1 hq => ?_)
                obtain ⟨rfl, hq1⟩ := hq
                have e1 := mRec_row hq1
                refine pw_aload_n dX8_addTask_100 rfl rfl ?_
                refine pw_getR (x := (m + 1)) dX8_addTask_101 fd_RX8_7 (by decide) (mo_k h) rfl (mo_r1 h) ?_
                refine pw_iconst (v := 3) dX8_addTask_104 (by decide) ?_
                refine pw_ialdN (j := 3) dX8_addTask_105 (mo_k1 h) (by omega) (by decide) ?_
                rw [e1, hn]
                refine pw_istore dX8_addTask_106 (by decide) rfl ?_
                refine pw_aload_n dX8_addTask_108 rfl rfl ?_
                refine pw_getR (x := (m + 1)) dX8_addTask_109 fd_RX8_7 (by decide) (mo_k h) rfl (mo_r1 h) ?_
                refine pw_iconst (v := 3) dX8_addTask_112 (by decide) ?_
                refine pw_dup2 dX8_addTask_113 rfl rfl ?_
                refine pw_ialdN (j := 3) dX8_addTask_114 (mo_k1 h) (by omega) (by decide) ?_
                rw [e1, hn]
                refine pw_iconst (v := 1) dX8_addTask_115 (by decide) ?_
                refine pw_iadd dX8_addTask_116 ?_
                rw [show (nI n + 1 : Int32) = nI (n + 1) from nI_add _ _]
                refine pw_iastN (j := 3) dX8_addTask_117 (mo_k1 h) (by omega) (by decide) ?_
                refine pw_aload_n dX8_addTask_118 rfl rfl ?_
                refine pw_iload dX8_addTask_119 rfl ?_
                refine pw_iconst (v := 0) dX8_addTask_121 (by decide) ?_
                refine pw_iload_n dX8_addTask_122 rfl rfl ?_
                refine pe_callVv dX8_addTask_123 oX_X8_setsTask lk_RX8_81 (sp_setsTask (a := n) (w := 0) h (by omega) (by omega)) (mo_k h) rfl rfl (Nat.le_of_ble_eq_true rfl) (by decide) ?_
                refine pw_aload_n dX8_addTask_126 rfl rfl ?_
                refine pw_iload dX8_addTask_127 rfl ?_
                refine pw_iconst (v := 1) dX8_addTask_129 (by decide) ?_
                refine pw_iload_n dX8_addTask_130 rfl rfl ?_
                refine pe_callVv dX8_addTask_131 oX_X8_setsTask lk_RX8_81 (sp_setsTask (a := n) (w := 1) h (by omega) (by omega)) (mo_k h) rfl rfl (Nat.le_of_ble_eq_true rfl) (by decide) ?_
                refine pw_aload_n dX8_addTask_134 rfl rfl ?_
                refine pw_iload dX8_addTask_135 rfl ?_
                refine pw_iconst (v := 2) dX8_addTask_137 (by decide) ?_
                refine pw_iload_n dX8_addTask_138 rfl rfl ?_
                refine pe_callVv dX8_addTask_139 oX_X8_setsTask lk_RX8_81 (sp_setsTask (a := n) (w := 2) h (by omega) (by omega)) (mo_k h) rfl rfl (Nat.le_of_ble_eq_true rfl) (by decide) ?_
                refine pw_aload_n dX8_addTask_142 rfl rfl ?_
                refine pw_iload dX8_addTask_143 rfl ?_
                refine pw_iconst (v := 3) dX8_addTask_145 (by decide) ?_
                refine pw_iload dX8_addTask_146 rfl ?_
                refine pe_callVv dX8_addTask_148 oX_X8_setsTask lk_RX8_81 (sp_setsTask (a := n) (w := 3) h (by omega) (by omega)) (mo_k h) rfl rfl (Nat.le_of_ble_eq_true rfl) (by decide) ?_
                refine pw_aload_n dX8_addTask_151 rfl rfl ?_
                refine pw_iload dX8_addTask_152 rfl ?_
                refine pw_iconst (v := 4) dX8_addTask_154 (by decide) ?_
                refine pw_iload dX8_addTask_155 rfl ?_
                refine pe_callVv dX8_addTask_157 oX_X8_setsTask lk_RX8_81 (sp_setsTask (a := n) (w := 4) h (by omega) (by omega)) (mo_k h) rfl rfl (Nat.le_of_ble_eq_true rfl) (by decide) ?_
                refine pw_aload_n dX8_addTask_160 rfl rfl ?_
                refine pw_iload dX8_addTask_161 rfl ?_
                refine pw_iconst (v := 5) dX8_addTask_163 (by decide) ?_
                refine pw_iload dX8_addTask_164 rfl ?_
                refine pe_callVv dX8_addTask_166 oX_X8_setsTask lk_RX8_81 (sp_setsTask (a := n) (w := 5) h (by omega) (by omega)) (mo_k h) rfl rfl (Nat.le_of_ble_eq_true rfl) (by decide) ?_
                refine pw_aload_n dX8_addTask_169 rfl rfl ?_
                refine pw_iload dX8_addTask_170 rfl ?_
                refine pw_bipush (v := 6) dX8_addTask_172 (by decide) ?_
                refine pw_iconst (v := 0) dX8_addTask_174 (by decide) ?_
                refine pe_callVv dX8_addTask_175 oX_X8_setsTask lk_RX8_81 (sp_setsTask (a := n) (w := 6) h (by omega) (by omega)) (mo_k h) rfl rfl (Nat.le_of_ble_eq_true rfl) (by decide) ?_
                refine pw_aload_n dX8_addTask_178 rfl rfl ?_
                refine pw_iload dX8_addTask_179 rfl ?_
                refine pw_bipush (v := 7) dX8_addTask_181 (by decide) ?_
                refine pw_bipush (v := (-5)) dX8_addTask_183 (by decide) ?_
                refine pe_callVv dX8_addTask_185 oX_X8_setsTask lk_RX8_81 (sp_setsTask (a := n) (w := 7) h (by omega) (by omega)) (mo_k h) rfl rfl (Nat.le_of_ble_eq_true rfl) (by decide) ?_
                refine pw_aload_n dX8_addTask_188 rfl rfl ?_
                refine pw_iload dX8_addTask_189 rfl ?_
                refine pw_bipush (v := 8) dX8_addTask_191 (by decide) ?_
                refine pw_iconst (v := 0) dX8_addTask_193 (by decide) ?_
                refine pe_callVv dX8_addTask_194 oX_X8_setsTask lk_RX8_81 (sp_setsTask (a := n) (w := 8) h (by omega) (by omega)) (mo_k h) rfl rfl (Nat.le_of_ble_eq_true rfl) (by decide) ?_
                refine pw_aload_n dX8_addTask_197 rfl rfl ?_
                refine pw_iload dX8_addTask_198 rfl ?_
                refine pw_bipush (v := 9) dX8_addTask_200 (by decide) ?_
                refine pw_iconst (v := 0) dX8_addTask_202 (by decide) ?_
                refine pe_callVv dX8_addTask_203 oX_X8_setsTask lk_RX8_81 (sp_setsTask (a := n) (w := 9) h (by omega) (by omega)) (mo_k h) rfl rfl (Nat.le_of_ble_eq_true rfl) (by decide) ?_
                refine pw_iload dX8_addTask_206 rfl ?_
                exact pw_iret dX8_addTask_208 rfl ⟨rfl, mAct_ok (by rw [mTaskE, if_pos (of_decide_eq_true c_5), if_pos ⟨of_decide_eq_true c_16, of_decide_eq_true c_26, of_decide_eq_true c_36, of_decide_eq_true c_59, of_decide_eq_true c_76⟩, if_neg (fun z => c_90 (hn.symm.trans z))]) hq1 (by rfl)⟩
              · have h8 : n = 24 := (nI_eq (b := 24) (by omega) (by decide)).mp c_90
                refine pw_bipush (v := (-3)) dX8_addTask_93 (by decide) ?_
                exact pw_iret dX8_addTask_95 rfl ⟨rfl, mAct_err (by rw [mTaskE, if_pos (of_decide_eq_true c_5), if_pos ⟨of_decide_eq_true c_16, of_decide_eq_true c_26, of_decide_eq_true c_36, of_decide_eq_true c_59, of_decide_eq_true c_76⟩, if_pos (hn.trans c_90)]) (by decide)⟩
            · refine pw_bipush (v := (-2)) dX8_addTask_79 (by decide) ?_
              exact pw_iret dX8_addTask_81 rfl ⟨rfl, mAct_err (by rw [mTaskE, if_pos (of_decide_eq_true c_5), if_neg (fun z9 => of_decide_eq_false c_76 z9.2.2.2.2)]) (by decide)⟩
  · refine pw_iconst (v := (-1)) dX8_addTask_8 (by decide) ?_
    exact pw_iret dX8_addTask_9 rfl ⟨rfl, mAct_err (by rw [mTaskE, if_neg (of_decide_eq_false c_5)]) (by decide)⟩

set_option maxRecDepth 4000 in
theorem sp_m_cancel {σ : pT} {I : pI} {F : pF} {m nA nC n s : Nat} {a : Int32} (h : isMo σ m) (hs : I m 6 = nI s) (hs4 : s ≤ 4) (hn : I (m + 1) 3 = nI n) (hn4 : n ≤ 24)  : PR yX8_cancel cX8_cancel mX8_cancel [.ref m, .int a] σ I F (mActQ m s (mCanE (I (m + 1)) a) (fun I F => mCanR I F m a) I F) := by
  refine PR.of oP_X8_cancel (catOK rfl) (Nat.le_of_ble_eq_true rfl) ?_
  show PW _ _ _ 0 [.ref m, .int a] [] _ _ _ _
  refine pw_aload_n dX8_cancel_0 rfl rfl ?_
  refine pw_iload_n dX8_cancel_1 rfl rfl ?_
  refine pe_callVi dX8_cancel_2 oX_X8_isTask lk_RX8_119 (sp_isTask h hn hn4) (mo_k h) rfl rfl (Nat.le_of_ble_eq_true rfl) (by decide) ?_
  refine pw_ifB_ne (tgt := 10) dX8_cancel_5 (by decide) (fun c_5 => ?_) (fun c_5 => ?_)
  · obtain ⟨i, hi, rfl⟩ := has_nat c_5 hn (by omega)
    refine pw_aload_n dX8_cancel_10 rfl rfl ?_
    refine pw_iload_n dX8_cancel_11 rfl rfl ?_
    refine pe_callVi dX8_cancel_12 oX_X8_stateOf lk_RX8_87 (sp_stateOf (a := i) h (by omega)) (mo_k h) rfl rfl (Nat.le_of_ble_eq_true rfl) (by decide) ?_
    refine pw_if_eq (tgt := 21) dX8_cancel_15 (by decide) (fun c_15 => ?_) (fun c_15 => ?_)
    · skip
      refine pw_aload_n dX8_cancel_21 rfl rfl ?_
      refine pr_callV dX8_cancel_22 oX_X8_records lk_RX8_58 (sp_records h hs hs4) (mo_k h) rfl rfl (Nat.le_of_ble_eq_true rfl) (by decide) (fun v I1 F1 hq => ?_)
      obtain ⟨rfl, hq1⟩ := hq
      have e1 := mRec_row hq1
      refine pw_aload_n dX8_cancel_25 rfl rfl ?_
      refine pw_iload_n dX8_cancel_26 rfl rfl ?_
      refine pw_bipush (v := 6) dX8_cancel_27 (by decide) ?_
      refine pw_bipush (v := 6) dX8_cancel_29 (by decide) ?_
      refine pe_callVv dX8_cancel_31 oX_X8_setsTask lk_RX8_81 (sp_setsTask (a := i) (w := 6) h (by omega) (by omega)) (mo_k h) rfl rfl (Nat.le_of_ble_eq_true rfl) (by decide) ?_
      refine pw_aload_n dX8_cancel_34 rfl rfl ?_
      refine pw_iload_n dX8_cancel_35 rfl rfl ?_
      refine pw_bipush (v := 9) dX8_cancel_36 (by decide) ?_
      refine pe_callVi dX8_cancel_38 oX_X8_ofTask lk_RX8_84 (sp_ofTask (a := i) (w := 9) h (by omega) (by omega)) (mo_k h) rfl rfl (Nat.le_of_ble_eq_true rfl) (by decide) ?_
      rw [up2_nj (by omega)]
      exact pw_iret dX8_cancel_41 rfl ⟨rfl, mAct_ok (by rw [mCanE, if_pos (of_decide_eq_true c_5), nI_clamp (show i < 2 ^ 31 by omega), if_pos c_15]) hq1 (by rw [mCanR, nI_clamp (show i < 2 ^ 31 by omega)])⟩
    · refine pw_bipush (v := (-4)) dX8_cancel_18 (by decide) ?_
      exact pw_iret dX8_cancel_20 rfl ⟨rfl, mAct_err (by rw [mCanE, if_pos (of_decide_eq_true c_5), nI_clamp (show i < 2 ^ 31 by omega), if_neg c_15]) (by decide)⟩
  · refine pw_iconst (v := (-1)) dX8_cancel_8 (by decide) ?_
    exact pw_iret dX8_cancel_9 rfl ⟨rfl, mAct_err (by rw [mCanE, if_neg (of_decide_eq_false c_5)]) (by decide)⟩

def mTypR (I : pI) (F : pF) (m l : Nat) (c : Int32) : Int32 × pI × pF := if l = 60 then (-3, I, F) else (nI (l + 1), up2 (up2 I (m + 7) l c) m 9 (nI (l + 1)), F)

set_option maxRecDepth 4000 in
theorem sp_m_type {σ : pT} {I : pI} {F : pF} {m l : Nat} {c : Int32} (h : isMo σ m) (hl : I m 9 = nI l) (hl6 : l ≤ 60)  : PE yX8_type cX8_type mX8_type [.ref m, .int c] σ I F (some (.int (mTypR I F m l c).1)) (mTypR I F m l c).2.1 (mTypR I F m l c).2.2 := by
  refine PE.of oP_X8_type (catOK rfl) (Nat.le_of_ble_eq_true rfl) ?_
  show PW _ _ _ 0 [.ref m, .int c] [] _ _ _ _
  refine pw_aload_n dX8_type_0 rfl rfl ?_
  refine pw_getI dX8_type_1 fd_RX8_174 (by decide) (mo_k h) rfl ?_
  rw [hl]
  refine pw_bipush (v := 60) dX8_type_4 (by decide) ?_
  refine pw_icmp_ne (tgt := 12) dX8_type_6 (by decide) (fun c_6 => ?_) (fun c_6 => ?_)
  · have h8 : l < 60 := by
      refine Nat.lt_of_le_of_ne hl6 (fun z => c_6 (by rw [z]; rfl))
    refine pw_aload_n dX8_type_12 rfl rfl ?_
    refine pw_getR (x := (m + 7)) dX8_type_13 fd_RX8_29 (by decide) (mo_k h) rfl (mo_r7 h) ?_
    refine pw_aload_n dX8_type_16 rfl rfl ?_
    refine pw_getI dX8_type_17 fd_RX8_174 (by decide) (mo_k h) rfl ?_
    rw [hl]
    refine pw_iload_n dX8_type_20 rfl rfl ?_
    refine pw_iastN (j := l) dX8_type_21 (mo_k7 h) (by omega) (by decide) ?_
    refine pw_aload_n dX8_type_22 rfl rfl ?_
    refine pw_dup dX8_type_23 rfl ?_
    refine pw_getI dX8_type_24 fd_RX8_174 (by decide) (mo_k h) rfl ?_
    rw [up2_ni (by omega), hl]
    refine pw_iconst (v := 1) dX8_type_27 (by decide) ?_
    refine pw_iadd dX8_type_28 ?_
    rw [show (nI l + 1 : Int32) = nI (l + 1) from nI_add _ _]
    refine pw_putI dX8_type_29 fd_RX8_174 (by decide) rfl ⟨rfl, rfl, rfl⟩ (mo_k h) ?_
    refine pw_aload_n dX8_type_32 rfl rfl ?_
    refine pw_getI dX8_type_33 fd_RX8_174 (by decide) (mo_k h) rfl ?_
    rw [up2_s]
    exact pw_iret dX8_type_36 rfl (rL (by rw [mTypR, if_neg (by omega)]))
  · have h8 : l = 60 := (nI_eq (b := 60) (by omega) (by decide)).mp c_6
    refine pw_bipush (v := (-3)) dX8_type_9 (by decide) ?_
    exact pw_iret dX8_type_11 rfl (rL (by rw [mTypR, if_pos h8]))

set_option maxRecDepth 4000 in
theorem sp_m_clearText {σ : pT} {I : pI} {F : pF} {m : Nat} (h : isMo σ m)  : PE yX8_clearText cX8_clearText mX8_clearText [.ref m] σ I F (some (.int (I m 9))) (up2 I m 9 0) F := by
  refine PE.of oP_X8_clearText (catOK rfl) (Nat.le_of_ble_eq_true rfl) ?_
  show PW _ _ _ 0 [.ref m, pJ] [] _ _ _ _
  refine pw_aload_n dX8_clearText_0 rfl rfl ?_
  refine pw_getI dX8_clearText_1 fd_RX8_174 (by decide) (mo_k h) rfl ?_
  refine pw_istore_n dX8_clearText_4 rfl (by decide) rfl ?_
  refine pw_aload_n dX8_clearText_5 rfl rfl ?_
  refine pw_iconst (v := 0) dX8_clearText_6 (by decide) ?_
  refine pw_putI dX8_clearText_7 fd_RX8_174 (by decide) rfl ⟨rfl, rfl, rfl⟩ (mo_k h) ?_
  refine pw_iload_n dX8_clearText_10 rfl rfl ?_
  exact pw_iret dX8_clearText_11 rfl ⟨rfl, rfl, rfl, rfl⟩
