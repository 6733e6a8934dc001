/-! the model follows an order -/
theorem look_no {x d o1 o2 o3 o4 o5 : Int} (h1 : x ≠ 98) (h2 : x ≠ 104) (h3 : x ≠ 108) (h4 : x ≠ 114) (h5 : x ≠ 115) : Op.lookupswitch.offset [(98, o1), (104, o2), (108, o3), (114, o4), (115, o5)] d x = d := by
  simp [Op.lookupswitch.offset, Ne.symm h1, Ne.symm h2, Ne.symm h3, Ne.symm h4, Ne.symm h5]
theorem toInt_ne {v : Int32} {k : Nat} (h : ¬ v = nI k) (hk : k < 2 ^ 31) : v.toInt ≠ (k : Int) := by
  intro z
  apply h
  apply Int32.toInt_inj.mp
  rw [z, nI_toInt hk]
def mFit (N : Nat → Int32) (nA nC n : Nat) : Prop := N 1 = nI nA ∧ nA ≤ 8 ∧ N 2 = nI nC ∧ nC ≤ 5 ∧ N 3 = nI n ∧ n ≤ 24 ∧ (∀ t, t < n → ∃ a, a < nA ∧ N (251 + 10 * t + 0) = nI a) ∧ (∀ t, t < n → ∃ k, k < 5 ∧ N (251 + 10 * t + 3) = nI k) ∧ (∀ a, a < nA → ∃ g, g ≤ 24 ∧ N (4 + 5 * a + 4) = nI g)
def mFolE (N : Nat → Int32) (n : Nat) (v a b : Int32) : Int32 := if v = 104 then mHangE N n a b else if v = 108 then mLiftE N a b else if v = 98 then mBeginE N n a else if v = 114 then mRunE N a else if v = 115 then mStopE N a else mPassE N a
def mFolR (I : pI) (F : pF) (m nA n : Nat) (v a b : Int32) : Int32 × pI × pF := if v = 104 then mHangR I F m a b else if v = 108 then mLiftR I F m a else if v = 98 then mBeginR I F m a else if v = 114 then mGoesR I F m nA a 1 else if v = 115 then mGoesR I F m nA a 0 else mPassR I F m nA n a

set_option maxRecDepth 4000 in
theorem sp_orderError {σ : pT} {I : pI} {F : pF} {m nA nC n : Nat} {v a b : Int32} (h : isMo σ m) (hk : mFit (I (m + 1)) nA nC n) (hm : I m 12 = v ∧ I m 13 = a ∧ (I m 12 = 104 ∨ I m 12 = 108 → I m 14 = b))  : PE yX8_orderError cX8_orderError mX8_orderError [.ref m] σ I F (some (.int (mFolE (I (m + 1)) n v a b))) I F := by
  obtain ⟨hA, hA8, hC, hC5, hn, hn4, hW, hKd, hG⟩ := id hk
  refine PE.of oP_X8_orderError (catOK rfl) (Nat.le_of_ble_eq_true rfl) ?_
  show PW _ _ _ 0 [.ref m] [] _ _ _ _
  refine pw_aload_n dX8_orderError_0 rfl rfl ?_
  refine pw_getI dX8_orderError_1 fd_RX8_186 (by decide) (mo_k h) rfl ?_
  rw [hm.1]
  by_cases h104 : v = 104
  · refine pw_lookup (off := 52) (tgt := 56) dX8_orderError_4 (by decide) (by rw [h104]; decide) (by decide) ?_
    refine pw_aload_n dX8_orderError_56 rfl rfl ?_
    refine pw_aload_n dX8_orderError_57 rfl rfl ?_
    refine pw_getI dX8_orderError_58 fd_RX8_192 (by decide) (mo_k h) rfl ?_
    rw [hm.2.1]
    refine pw_aload_n dX8_orderError_61 rfl rfl ?_
    refine pw_getI dX8_orderError_62 fd_RX8_198 (by decide) (mo_k h) rfl ?_
    rw [hm.2.2 (Or.inl (hm.1.trans h104))]
    refine pe_callVi dX8_orderError_65 oX_X8_hangError lk_RX8_128 (sp_hangError h hA hA8 hC hC5 hn hn4 hW) (mo_k h) rfl rfl (Nat.le_of_ble_eq_true rfl) (by decide) ?_
    exact pw_iret dX8_orderError_68 rfl ⟨by rw [mFolE, if_pos h104], rfl, rfl, rfl⟩
  by_cases h108 : v = 108
  · refine pw_lookup (off := 65) (tgt := 69) dX8_orderError_4 (by decide) (by rw [h108]; decide) (by decide) ?_
    refine pw_aload_n dX8_orderError_69 rfl rfl ?_
    refine pw_aload_n dX8_orderError_70 rfl rfl ?_
    refine pw_getI dX8_orderError_71 fd_RX8_192 (by decide) (mo_k h) rfl ?_
    rw [hm.2.1]
    refine pw_aload_n dX8_orderError_74 rfl rfl ?_
    refine pw_getI dX8_orderError_75 fd_RX8_198 (by decide) (mo_k h) rfl ?_
    rw [hm.2.2 (Or.inr (hm.1.trans h108))]
    refine pe_callVi dX8_orderError_78 oX_X8_liftError lk_RX8_146 (sp_liftError h hA hA8 hC hC5 hn hn4 hW hG) (mo_k h) rfl rfl (Nat.le_of_ble_eq_true rfl) (by decide) ?_
    exact pw_iret dX8_orderError_81 rfl ⟨by rw [mFolE, if_neg h104, if_pos h108], rfl, rfl, rfl⟩
  by_cases h98 : v = 98
  · refine pw_lookup (off := 78) (tgt := 82) dX8_orderError_4 (by decide) (by rw [h98]; decide) (by decide) ?_
    refine pw_aload_n dX8_orderError_82 rfl rfl ?_
    refine pw_aload_n dX8_orderError_83 rfl rfl ?_
    refine pw_getI dX8_orderError_84 fd_RX8_192 (by decide) (mo_k h) rfl ?_
    rw [hm.2.1]
    refine pe_callVi dX8_orderError_87 oX_X8_beginError lk_RX8_137 (sp_beginError h hA hA8 hn hn4 hW hKd) (mo_k h) rfl rfl (Nat.le_of_ble_eq_true rfl) (by decide) ?_
    exact pw_iret dX8_orderError_90 rfl ⟨by rw [mFolE, if_neg h104, if_neg h108, if_pos h98], rfl, rfl, rfl⟩
  by_cases h114 : v = 114
  · refine pw_lookup (off := 87) (tgt := 91) dX8_orderError_4 (by decide) (by rw [h114]; decide) (by decide) ?_
    refine pw_aload_n dX8_orderError_91 rfl rfl ?_
    refine pw_aload_n dX8_orderError_92 rfl rfl ?_
    refine pw_getI dX8_orderError_93 fd_RX8_192 (by decide) (mo_k h) rfl ?_
    rw [hm.2.1]
    refine pe_callVi dX8_orderError_96 oX_X8_runError lk_RX8_110 (sp_runError h hA hA8) (mo_k h) rfl rfl (Nat.le_of_ble_eq_true rfl) (by decide) ?_
    exact pw_iret dX8_orderError_99 rfl ⟨by rw [mFolE, if_neg h104, if_neg h108, if_neg h98, if_pos h114], rfl, rfl, rfl⟩
  by_cases h115 : v = 115
  · refine pw_lookup (off := 96) (tgt := 100) dX8_orderError_4 (by decide) (by rw [h115]; decide) (by decide) ?_
    refine pw_aload_n dX8_orderError_100 rfl rfl ?_
    refine pw_aload_n dX8_orderError_101 rfl rfl ?_
    refine pw_getI dX8_orderError_102 fd_RX8_192 (by decide) (mo_k h) rfl ?_
    rw [hm.2.1]
    refine pe_callVi dX8_orderError_105 oX_X8_stopError lk_RX8_116 (sp_stopError h hA hA8) (mo_k h) rfl rfl (Nat.le_of_ble_eq_true rfl) (by decide) ?_
    exact pw_iret dX8_orderError_108 rfl ⟨by rw [mFolE, if_neg h104, if_neg h108, if_neg h98, if_neg h114, if_pos h115], rfl, rfl, rfl⟩
  refine pw_lookup (off := 105) (tgt := 109) dX8_orderError_4 (by decide) (look_no (toInt_ne (k := 98) h98 (by decide)) (toInt_ne (k := 104) h104 (by decide)) (toInt_ne (k := 108) h108 (by decide)) (toInt_ne (k := 114) h114 (by decide)) (toInt_ne (k := 115) h115 (by decide))) (by decide) ?_
  refine pw_aload_n dX8_orderError_109 rfl rfl ?_
  refine pw_aload_n dX8_orderError_110 rfl rfl ?_
  refine pw_getI dX8_orderError_111 fd_RX8_192 (by decide) (mo_k h) rfl ?_
  rw [hm.2.1]
  refine pe_callVi dX8_orderError_114 oX_X8_passError lk_RX8_168 (sp_passError h) (mo_k h) rfl rfl (Nat.le_of_ble_eq_true rfl) (by decide) ?_
  exact pw_iret dX8_orderError_117 rfl ⟨by rw [mFolE, if_neg h104, if_neg h108, if_neg h98, if_neg h114, if_neg h115], rfl, rfl, rfl⟩

set_option maxRecDepth 4000 in
theorem sp_does {σ : pT} {I : pI} {F : pF} {m nA nC n : Nat} {v a b : Int32} (h : isMo σ m) (hk : mFit (I (m + 1)) nA nC n) (hm : I m 12 = v ∧ I m 13 = a ∧ (I m 12 = 104 ∨ I m 12 = 108 → I m 14 = b)) (hE : mFolE (I (m + 1)) n v a b = 0) : PE yX8_does cX8_does mX8_does [.ref m] σ I F (some (.int (mFolR I F m nA n v a b).1)) (mFolR I F m nA n v a b).2.1 (mFolR I F m nA n v a b).2.2 := by
  obtain ⟨hA, hA8, hC, hC5, hn, hn4, hW, hKd, hG⟩ := id hk
  refine PE.of oP_X8_does (catOK rfl) (Nat.le_of_ble_eq_true rfl) ?_
  show PW _ _ _ 0 [.ref m] [] _ _ _ _
  refine pw_aload_n dX8_does_0 rfl rfl ?_
  refine pw_getI dX8_does_1 fd_RX8_186 (by decide) (mo_k h) rfl ?_
  rw [hm.1]
  by_cases h104 : v = 104
  · refine pw_lookup (off := 52) (tgt := 56) dX8_does_4 (by decide) (by rw [h104]; decide) (by decide) ?_
    have hz : mHangE (I (m + 1)) n a b = 0 := by
      rw [mFolE, if_pos h104] at hE
      exact hE
    obtain ⟨i, hi, rfl⟩ := has_nat (decide_eq_true (ge0_1 hz (by decide)).1) hn (by omega)
    obtain ⟨at_, haA, hat⟩ := hW i hi
    obtain ⟨g, hg4, hg⟩ := hG at_ haA
    refine pw_aload_n dX8_does_56 rfl rfl ?_
    refine pw_aload_n dX8_does_57 rfl rfl ?_
    refine pw_getI dX8_does_58 fd_RX8_192 (by decide) (mo_k h) rfl ?_
    rw [hm.2.1]
    refine pw_aload_n dX8_does_61 rfl rfl ?_
    refine pw_getI dX8_does_62 fd_RX8_198 (by decide) (mo_k h) rfl ?_
    rw [hm.2.2 (Or.inl (hm.1.trans h104))]
    refine pe_callVi dX8_does_65 oX_X8_hangs lk_RX8_131 (sp_hangs (nA := nA) (n := n) (at_ := at_) (g := g) h (by omega) (by omega) hat hg hg4) (mo_k h) rfl rfl (Nat.le_of_ble_eq_true rfl) (by decide) ?_
    exact pw_iret dX8_does_68 rfl (by rw [mFolR, if_pos h104]; exact ⟨rfl, rfl, rfl, rfl⟩)
  by_cases h108 : v = 108
  · refine pw_lookup (off := 65) (tgt := 69) dX8_does_4 (by decide) (by rw [h108]; decide) (by decide) ?_
    have hz : mLiftE (I (m + 1)) a b = 0 := by
      rw [mFolE, if_neg h104, if_pos h108] at hE
      exact hE
    obtain ⟨i, hi, rfl⟩ := has_nat (decide_eq_true (ge0_1 hz (by decide)).1) hn (by omega)
    obtain ⟨at_, haA, hat⟩ := hW i hi
    refine pw_aload_n dX8_does_69 rfl rfl ?_
    refine pw_aload_n dX8_does_70 rfl rfl ?_
    refine pw_getI dX8_does_71 fd_RX8_192 (by decide) (mo_k h) rfl ?_
    rw [hm.2.1]
    refine pe_callVi dX8_does_74 oX_X8_lifts lk_RX8_149 (sp_lifts (at_ := at_) h (by omega) (by omega) hat) (mo_k h) rfl rfl (Nat.le_of_ble_eq_true rfl) (by decide) ?_
    exact pw_iret dX8_does_77 rfl (by rw [mFolR, if_neg h104, if_pos h108]; exact ⟨rfl, rfl, rfl, rfl⟩)
  by_cases h98 : v = 98
  · refine pw_lookup (off := 74) (tgt := 78) dX8_does_4 (by decide) (by rw [h98]; decide) (by decide) ?_
    have hz : mBeginE (I (m + 1)) n a = 0 := by
      rw [mFolE, if_neg h104, if_neg h108, if_pos h98] at hE
      exact hE
    obtain ⟨i, hi, rfl⟩ := has_nat (decide_eq_true (ge0_1 hz (by decide))) hn (by omega)
    refine pw_aload_n dX8_does_78 rfl rfl ?_
    refine pw_aload_n dX8_does_79 rfl rfl ?_
    refine pw_getI dX8_does_80 fd_RX8_192 (by decide) (mo_k h) rfl ?_
    rw [hm.2.1]
    refine pe_callVi dX8_does_83 oX_X8_begins lk_RX8_140 (sp_begins h (by omega)) (mo_k h) rfl rfl (Nat.le_of_ble_eq_true rfl) (by decide) ?_
    exact pw_iret dX8_does_86 rfl (by rw [mFolR, if_neg h104, if_neg h108, if_pos h98]; exact ⟨rfl, rfl, rfl, rfl⟩)
  by_cases h114 : v = 114
  · refine pw_lookup (off := 83) (tgt := 87) dX8_does_4 (by decide) (by rw [h114]; decide) (by decide) ?_
    have hz : mRunE (I (m + 1)) a = 0 := by
      rw [mFolE, if_neg h104, if_neg h108, if_neg h98, if_pos h114] at hE
      exact hE
    obtain ⟨i, hi, rfl⟩ := has_nat (decide_eq_true (ge0_1 hz (by decide))) hA (by omega)
    refine pw_aload_n dX8_does_87 rfl rfl ?_
    refine pw_aload_n dX8_does_88 rfl rfl ?_
    refine pw_getI dX8_does_89 fd_RX8_192 (by decide) (mo_k h) rfl ?_
    rw [hm.2.1]
    refine pw_iconst (v := 1) dX8_does_92 (by decide) ?_
    refine pe_callVi dX8_does_93 oX_X8_goes lk_RX8_113 (sp_goes h hA hA8 hi) (mo_k h) rfl rfl (Nat.le_of_ble_eq_true rfl) (by decide) ?_
    exact pw_iret dX8_does_96 rfl (by rw [mFolR, if_neg h104, if_neg h108, if_neg h98, if_pos h114]; exact ⟨rfl, rfl, rfl, rfl⟩)
  by_cases h115 : v = 115
  · refine pw_lookup (off := 93) (tgt := 97) dX8_does_4 (by decide) (by rw [h115]; decide) (by decide) ?_
    have hz : mStopE (I (m + 1)) a = 0 := by
      rw [mFolE, if_neg h104, if_neg h108, if_neg h98, if_neg h114, if_pos h115] at hE
      exact hE
    obtain ⟨i, hi, rfl⟩ := has_nat (decide_eq_true (ge0_1 hz (by decide))) hA (by omega)
    refine pw_aload_n dX8_does_97 rfl rfl ?_
    refine pw_aload_n dX8_does_98 rfl rfl ?_
    refine pw_getI dX8_does_99 fd_RX8_192 (by decide) (mo_k h) rfl ?_
    rw [hm.2.1]
    refine pw_iconst (v := 0) dX8_does_102 (by decide) ?_
    refine pe_callVi dX8_does_103 oX_X8_goes lk_RX8_113 (sp_goes h hA hA8 hi) (mo_k h) rfl rfl (Nat.le_of_ble_eq_true rfl) (by decide) ?_
    exact pw_iret dX8_does_106 rfl (by rw [mFolR, if_neg h104, if_neg h108, if_neg h98, if_neg h114, if_pos h115]; exact ⟨rfl, rfl, rfl, rfl⟩)
  have hz : mPassE (I (m + 1)) a = 0 := by
    rw [mFolE, if_neg h104, if_neg h108, if_neg h98, if_neg h114, if_neg h115] at hE
    exact hE
  obtain ⟨i, hi1, hi, rfl⟩ := win_nat (lo := 1) (hi := 48) (decide_eq_true (ge0_1 hz (by decide))) (by decide) (by decide)
  refine pw_lookup (off := 103) (tgt := 107) dX8_does_4 (by decide) (look_no (toInt_ne (k := 98) h98 (by decide)) (toInt_ne (k := 104) h104 (by decide)) (toInt_ne (k := 108) h108 (by decide)) (toInt_ne (k := 114) h114 (by decide)) (toInt_ne (k := 115) h115 (by decide))) (by decide) ?_
  refine pw_aload_n dX8_does_107 rfl rfl ?_
  refine pw_aload_n dX8_does_108 rfl rfl ?_
  refine pw_getI dX8_does_109 fd_RX8_192 (by decide) (mo_k h) rfl ?_
  rw [hm.2.1]
  refine pe_callVi dX8_does_112 oX_X8_passes lk_RX8_171 (sp_passes h hA hA8 hn hn4 hW hi) (mo_k h) rfl rfl (Nat.le_of_ble_eq_true rfl) (by decide) ?_
  exact pw_iret dX8_does_115 rfl (by rw [mFolR, if_neg h104, if_neg h108, if_neg h98, if_neg h114, if_neg h115]; rw [mPassR, nI_clamp (show i < 2 ^ 31 by omega)]; exact ⟨rfl, rfl, rfl, rfl⟩)
