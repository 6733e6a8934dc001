/-! A TASK IS RIGHT -/
section TV
variable {I : pI} {F : pF} {p n t nA nC a c : Nat}

theorem task_0 (hn : I p 6 = nI n) (hn4 : n ≤ 24) (ht : t < n) : taskV I p n (nI t) 0 = I (p + 18 + t) 0 := by
  unfold taskV
  rw [if_pos (has_p hn ht (by omega)), nI_clamp (by omega)]
  exact swV_in (k := 0) (by show 0 < 13; decide) (by show 13 < 100; decide)

theorem task_1 (hn : I p 6 = nI n) (hn4 : n ≤ 24) (ht : t < n) : taskV I p n (nI t) 1 = I (p + 18 + t) 7 := by
  unfold taskV
  rw [if_pos (has_p hn ht (by omega)), nI_clamp (by omega)]
  exact swV_in (k := 1) (by show 1 < 13; decide) (by show 13 < 100; decide)

theorem task_2 (hn : I p 6 = nI n) (hn4 : n ≤ 24) (ht : t < n) : taskV I p n (nI t) 2 = I (p + 18 + t) 1 := by
  unfold taskV
  rw [if_pos (has_p hn ht (by omega)), nI_clamp (by omega)]
  exact swV_in (k := 2) (by show 2 < 13; decide) (by show 13 < 100; decide)

theorem task_3 (hn : I p 6 = nI n) (hn4 : n ≤ 24) (ht : t < n) : taskV I p n (nI t) 3 = I (p + 18 + t) 2 := by
  unfold taskV
  rw [if_pos (has_p hn ht (by omega)), nI_clamp (by omega)]
  exact swV_in (k := 3) (by show 3 < 13; decide) (by show 13 < 100; decide)

theorem task_5 (hn : I p 6 = nI n) (hn4 : n ≤ 24) (ht : t < n) : taskV I p n (nI t) 5 = I (p + 18 + t) 4 := by
  unfold taskV
  rw [if_pos (has_p hn ht (by omega)), nI_clamp (by omega)]
  exact swV_in (k := 5) (by show 5 < 13; decide) (by show 13 < 100; decide)

theorem task_6 (hn : I p 6 = nI n) (hn4 : n ≤ 24) (ht : t < n) : taskV I p n (nI t) 6 = I (p + 18 + t) 5 := by
  unfold taskV
  rw [if_pos (has_p hn ht (by omega)), nI_clamp (by omega)]
  exact swV_in (k := 6) (by show 6 < 13; decide) (by show 13 < 100; decide)

theorem task_7 (hn : I p 6 = nI n) (hn4 : n ≤ 24) (ht : t < n) : taskV I p n (nI t) 7 = I (p + 18 + t) 6 := by
  unfold taskV
  rw [if_pos (has_p hn ht (by omega)), nI_clamp (by omega)]
  exact swV_in (k := 7) (by show 7 < 13; decide) (by show 13 < 100; decide)

theorem task_8 (hn : I p 6 = nI n) (hn4 : n ≤ 24) (ht : t < n) : taskV I p n (nI t) 8 = I (p + 18 + t) 8 := by
  unfold taskV
  rw [if_pos (has_p hn ht (by omega)), nI_clamp (by omega)]
  exact swV_in (k := 8) (by show 8 < 13; decide) (by show 13 < 100; decide)

theorem task_9 (hn : I p 6 = nI n) (hn4 : n ≤ 24) (ht : t < n) : taskV I p n (nI t) 9 = (if I (p + 18 + t) 7 = 2 then I (p + 18 + t) 9 else -5) := by
  unfold taskV
  rw [if_pos (has_p hn ht (by omega)), nI_clamp (by omega)]
  exact swV_in (k := 9) (by show 9 < 13; decide) (by show 13 < 100; decide)

theorem task_10 (hn : I p 6 = nI n) (hn4 : n ≤ 24) (ht : t < n) : taskV I p n (nI t) 10 = I (p + 18 + t) 10 := by
  unfold taskV
  rw [if_pos (has_p hn ht (by omega)), nI_clamp (by omega)]
  exact swV_in (k := 10) (by show 10 < 13; decide) (by show 13 < 100; decide)

theorem crew_0 (hC : I p 5 = nI nC) (hC5 : nC ≤ 5) (hc : c < nC) : crewV I p n (nI c) 0 = I (p + 13 + c) 0 := by
  unfold crewV
  rw [if_pos (has_p hC hc (by omega)), nI_clamp (by omega)]
  exact swV_in (k := 0) (by show 0 < 5; decide) (by show 5 < 100; decide)

theorem crew_1 (hC : I p 5 = nI nC) (hC5 : nC ≤ 5) (hc : c < nC) : crewV I p n (nI c) 1 = I (p + 13 + c) 1 := by
  unfold crewV
  rw [if_pos (has_p hC hc (by omega)), nI_clamp (by omega)]
  exact swV_in (k := 1) (by show 1 < 5; decide) (by show 5 < 100; decide)

theorem crew_2 (hC : I p 5 = nI nC) (hC5 : nC ≤ 5) (hc : c < nC) : crewV I p n (nI c) 2 = busyC I p n (nI c) := by
  unfold crewV
  rw [if_pos (has_p hC hc (by omega)), nI_clamp (by omega)]
  exact swV_in (k := 2) (by show 2 < 5; decide) (by show 5 < 100; decide)

theorem asset_0 (hA : I p 4 = nI nA) (hA8 : nA ≤ 8) (ha : a < nA) : assetV I F p n (nI a) 0 = (if I (p + 5 + a) 4 = 0 then 0 else 1) := by
  unfold assetV
  rw [if_pos (has_p hA ha (by omega)), nI_clamp (by omega)]
  exact swV_in (k := 0) (by show 0 < 8; decide) (by show 8 < 100; decide)

theorem asset_2 (hA : I p 4 = nI nA) (hA8 : nA ≤ 8) (ha : a < nA) : assetV I F p n (nI a) 2 = tagC I p n (nI a) 0 := by
  unfold assetV
  rw [if_pos (has_p hA ha (by omega)), nI_clamp (by omega)]
  exact swV_in (k := 2) (by show 2 < 8; decide) (by show 8 < 100; decide)

theorem real_0 (hA : I p 4 = nI nA) (hA8 : nA ≤ 8) (ha : a < nA) : realV F I p (nI a) 0 = F (p + 5 + a) 2 := by
  unfold realV
  rw [if_pos (has_p hA ha (by omega)), nI_clamp (by omega)]
  exact swV_in (k := 0) (by show 0 < 3; decide) (by show 3 < 100; decide)

theorem real_1 (hA : I p 4 = nI nA) (hA8 : nA ≤ 8) (ha : a < nA) : realV F I p (nI a) 1 = F (p + 5 + a) 3 := by
  unfold realV
  rw [if_pos (has_p hA ha (by omega)), nI_clamp (by omega)]
  exact swV_in (k := 1) (by show 1 < 3; decide) (by show 3 < 100; decide)

theorem tagAt_k {k : Nat} (hA : I p 4 = nI nA) (hA8 : nA ≤ 8) (ha : a < nA) (hk : k < 2 ^ 31) : tagAtV I p n (nI a) (nI k) = tagC I p n (nI a) (nI k) := by
  unfold tagAtV
  rw [if_pos (has_p hA ha (by omega)), if_pos (nI_pos' hk)]
end TV

set_option maxRecDepth 4000 in
set_option maxHeartbeats 4000000 in
theorem sp_isTask {σ : pT} {I : pI} {F : pF} {x nA nC n h t : Nat} (hT : isTW σ x) (g : Gd (x + 1) I F nA nC n h) (ht : t < n) : PE yL_isTask cL_isTask mL_isTask [.ref x, .int (nI t)] σ I F (some (.int 1)) I F := by
  obtain ⟨⟨hA, hA8, hC, hC5, hn, hn4, h7, h8⟩, g2, g3, g4, g5, g6, g7⟩ := id g
  have hW := G2_W g2
  have hKd := G2_K g2
  obtain ⟨a, s, q, k, hh, fr, sl, st, ⟨y1, y2, y3, y4, y5, y6, y7, y8⟩, ⟨z0, z1, z2, z3, z4, z5, z6, z7, z10⟩, w1, w2, w3, w4, w5⟩ := g2 t ht
  rcases (show st = 0 ∨ st = 1 ∨ st = 2 ∨ st = 3 ∨ st = 4 ∨ st = 5 ∨ st = 6 by omega) with rfl | rfl | rfl | rfl | rfl | rfl | rfl
  · have ec := w4 (by decide)
    refine PE.of oP_L_isTask (catOK rfl) (Nat.le_of_ble_eq_true rfl) ?_
    show PW _ _ _ 0 [.ref x, .int (nI t), pJ, pJ, pJ, pJ] [] _ _ _ _
    refine pw_aload_n dL_isTask_0 rfl rfl ?_
    refine pw_iload_n dL_isTask_1 rfl rfl ?_
    refine pw_iconst (v := 1) dL_isTask_2 (by decide) ?_
    refine pe_callVi dL_isTask_3 oX_X7_task lk_RL_32 (sp_x_task hT hA hA8 hn hn4 hW hKd) (tw_k hT) rfl rfl (Nat.le_of_ble_eq_true rfl) (by decide) ?_
    rw [task_1 hn hn4 ht, z7]
    refine pw_istore_n dL_isTask_6 rfl (by decide) rfl ?_
    refine pw_aload_n dL_isTask_7 rfl rfl ?_
    refine pw_iload_n dL_isTask_8 rfl rfl ?_
    refine pw_bipush (v := 8) dL_isTask_9 (by decide) ?_
    refine pe_callVi dL_isTask_11 oX_X7_task lk_RL_32 (sp_x_task hT hA hA8 hn hn4 hW hKd) (tw_k hT) rfl rfl (Nat.le_of_ble_eq_true rfl) (by decide) ?_
    rw [task_8 hn hn4 ht, ec]
    refine pw_istore_n dL_isTask_14 rfl (by decide) rfl ?_
    refine pw_aload_n dL_isTask_15 rfl rfl ?_
    refine pw_iload_n dL_isTask_16 rfl rfl ?_
    refine pw_bipush (v := 6) dL_isTask_17 (by decide) ?_
    refine pe_callVi dL_isTask_19 oX_X7_task lk_RL_32 (sp_x_task hT hA hA8 hn hn4 hW hKd) (tw_k hT) rfl rfl (Nat.le_of_ble_eq_true rfl) (by decide) ?_
    rw [task_6 hn hn4 ht, z5]
    refine pw_iconst (v := 2) dL_isTask_22 (by decide) ?_
    refine pw_aload_n dL_isTask_23 rfl rfl ?_
    refine pw_iload_n dL_isTask_24 rfl rfl ?_
    refine pw_iconst (v := 5) dL_isTask_25 (by decide) ?_
    refine pe_callVi dL_isTask_26 oX_X7_task lk_RL_32 (sp_x_task hT hA hA8 hn hn4 hW hKd) (tw_k hT) rfl rfl (Nat.le_of_ble_eq_true rfl) (by decide) ?_
    rw [task_5 hn hn4 ht, z4]
    refine pw_imul dL_isTask_29 ?_
    refine pw_iadd dL_isTask_30 ?_
    refine pw_bipush (v := 6) dL_isTask_31 (by decide) ?_
    refine pw_iadd dL_isTask_33 ?_
    rw [show (nI fr + 2 * nI hh + 6 : Int32) = nI (fr + 2 * hh + 6) from by show nI fr + nI 2 * nI hh + nI 6 = _; rw [pk_mul, nI_add, nI_add]]
    refine pw_istore dL_isTask_34 (by decide) rfl ?_
    refine pw_iload_n dL_isTask_36 rfl rfl ?_
    refine pw_if_lt (tgt := 91) dL_isTask_37 (by decide) (fun c_37 => absurd c_37 (by decide)) (fun c_37 => ?_)
    refine pw_iload_n dL_isTask_40 rfl rfl ?_
    refine pw_bipush (v := 7) dL_isTask_41 (by decide) ?_
    refine pw_icmp_ge (tgt := 91) dL_isTask_43 (by decide) (fun c_43 => absurd c_43 (by decide)) (fun c_43 => ?_)
    refine pw_aload_n dL_isTask_46 rfl rfl ?_
    refine pw_iload_n dL_isTask_47 rfl rfl ?_
    refine pw_bipush (v := 7) dL_isTask_48 (by decide) ?_
    refine pe_callVi dL_isTask_50 oX_X7_task lk_RL_32 (sp_x_task hT hA hA8 hn hn4 hW hKd) (tw_k hT) rfl rfl (Nat.le_of_ble_eq_true rfl) (by decide) ?_
    rw [task_7 hn hn4 ht, z6]
    refine pw_iload dL_isTask_53 rfl ?_
    refine pw_icmp_ne (tgt := 91) dL_isTask_55 (by decide) (fun c_55 => absurd rfl c_55) (fun c_55 => ?_)
    refine pw_aload_n dL_isTask_58 rfl rfl ?_
    refine pw_iload_n dL_isTask_59 rfl rfl ?_
    refine pw_bipush (v := 9) dL_isTask_60 (by decide) ?_
    refine pe_callVi dL_isTask_62 oX_X7_task lk_RL_32 (sp_x_task hT hA hA8 hn hn4 hW hKd) (tw_k hT) rfl rfl (Nat.le_of_ble_eq_true rfl) (by decide) ?_
    rw [task_9 hn hn4 ht, z7, if_neg (by decide)]
    refine pw_iconst (v := 1) dL_isTask_65 (by decide) ?_
    refine pw_icmp_lt (tgt := 73) dL_isTask_66 (by decide) (fun c_66 => ?_) (fun c_66 => absurd (by decide) c_66)
    refine pw_iconst (v := 0) dL_isTask_73 (by decide) ?_
    refine pw_iload_n dL_isTask_74 rfl rfl ?_
    refine pw_iconst (v := 2) dL_isTask_75 (by decide) ?_
    refine pw_icmp_ne (tgt := 83) dL_isTask_76 (by decide) (fun c_76 => ?_) (fun c_76 => absurd c_76 (by decide))
    refine pw_iconst (v := 0) dL_isTask_83 (by decide) ?_
    refine pw_icmp_ne (tgt := 91) dL_isTask_84 (by decide) (fun c_84 => absurd rfl c_84) (fun c_84 => ?_)
    refine pw_iconst (v := 1) dL_isTask_87 (by decide) ?_
    refine pw_goto (tgt := 92) dL_isTask_88 (by decide) ?_
    refine pw_istore dL_isTask_92 (by decide) rfl ?_
    refine pw_iload dL_isTask_94 rfl ?_
    refine pw_if_eq (tgt := 145) dL_isTask_96 (by decide) (fun c_96 => absurd c_96 (by decide)) (fun c_96 => ?_)
    refine pw_iload_n dL_isTask_99 rfl rfl ?_
    refine pw_if_lt (tgt := 107) dL_isTask_100 (by decide) (fun c_100 => ?_) (fun c_100 => absurd (by decide) c_100)
    refine pw_iconst (v := 0) dL_isTask_107 (by decide) ?_
    refine pw_iload_n dL_isTask_108 rfl rfl ?_
    refine pw_if_le (tgt := 121) dL_isTask_109 (by decide) (fun c_109 => ?_) (fun c_109 => absurd (by decide) c_109)
    refine pw_iconst (v := 0) dL_isTask_121 (by decide) ?_
    refine pw_icmp_ne (tgt := 145) dL_isTask_122 (by decide) (fun c_122 => absurd rfl c_122) (fun c_122 => ?_)
    refine pw_iload_n dL_isTask_125 rfl rfl ?_
    refine pw_iconst (v := 5) dL_isTask_126 (by decide) ?_
    refine pw_icmp_ne (tgt := 141) dL_isTask_127 (by decide) (fun c_127 => ?_) (fun c_127 => absurd c_127 (by decide))
    refine pw_iconst (v := 1) dL_isTask_141 (by decide) ?_
    refine pw_goto (tgt := 146) dL_isTask_142 (by decide) ?_
    refine pw_istore dL_isTask_146 (by decide) rfl ?_
    refine pw_iload dL_isTask_148 rfl ?_
    refine pw_if_eq (tgt := 180) dL_isTask_150 (by decide) (fun c_150 => absurd c_150 (by decide)) (fun c_150 => ?_)
    refine pw_iload_n dL_isTask_153 rfl rfl ?_
    refine pw_if_lt (tgt := 176) dL_isTask_154 (by decide) (fun c_154 => ?_) (fun c_154 => absurd (by decide) c_154)
    refine pw_iconst (v := 1) dL_isTask_176 (by decide) ?_
    refine pw_goto (tgt := 181) dL_isTask_177 (by decide) ?_
    refine pw_istore dL_isTask_181 (by decide) rfl ?_
    refine pw_iload dL_isTask_183 rfl ?_
    refine pw_if_eq (tgt := 245) dL_isTask_185 (by decide) (fun c_185 => absurd c_185 (by decide)) (fun c_185 => ?_)
    refine pw_iload_n dL_isTask_188 rfl rfl ?_
    refine pw_iconst (v := 2) dL_isTask_189 (by decide) ?_
    refine pw_icmp_ne (tgt := 241) dL_isTask_190 (by decide) (fun c_190 => ?_) (fun c_190 => absurd c_190 (by decide))
    refine pw_iconst (v := 1) dL_isTask_241 (by decide) ?_
    refine pw_goto (tgt := 246) dL_isTask_242 (by decide) ?_
    exact pw_zret dL_isTask_246 rfl (by first | rfl | decide) ⟨rfl, rfl, rfl, rfl⟩
  · obtain ⟨c, hc, ec, es⟩ := w3 (by decide) (by decide)
    refine PE.of oP_L_isTask (catOK rfl) (Nat.le_of_ble_eq_true rfl) ?_
    show PW _ _ _ 0 [.ref x, .int (nI t), pJ, pJ, pJ, pJ] [] _ _ _ _
    refine pw_aload_n dL_isTask_0 rfl rfl ?_
    refine pw_iload_n dL_isTask_1 rfl rfl ?_
    refine pw_iconst (v := 1) dL_isTask_2 (by decide) ?_
    refine pe_callVi dL_isTask_3 oX_X7_task lk_RL_32 (sp_x_task hT hA hA8 hn hn4 hW hKd) (tw_k hT) rfl rfl (Nat.le_of_ble_eq_true rfl) (by decide) ?_
    rw [task_1 hn hn4 ht, z7]
    refine pw_istore_n dL_isTask_6 rfl (by decide) rfl ?_
    refine pw_aload_n dL_isTask_7 rfl rfl ?_
    refine pw_iload_n dL_isTask_8 rfl rfl ?_
    refine pw_bipush (v := 8) dL_isTask_9 (by decide) ?_
    refine pe_callVi dL_isTask_11 oX_X7_task lk_RL_32 (sp_x_task hT hA hA8 hn hn4 hW hKd) (tw_k hT) rfl rfl (Nat.le_of_ble_eq_true rfl) (by decide) ?_
    rw [task_8 hn hn4 ht, ec]
    refine pw_istore_n dL_isTask_14 rfl (by decide) rfl ?_
    refine pw_aload_n dL_isTask_15 rfl rfl ?_
    refine pw_iload_n dL_isTask_16 rfl rfl ?_
    refine pw_bipush (v := 6) dL_isTask_17 (by decide) ?_
    refine pe_callVi dL_isTask_19 oX_X7_task lk_RL_32 (sp_x_task hT hA hA8 hn hn4 hW hKd) (tw_k hT) rfl rfl (Nat.le_of_ble_eq_true rfl) (by decide) ?_
    rw [task_6 hn hn4 ht, z5]
    refine pw_iconst (v := 2) dL_isTask_22 (by decide) ?_
    refine pw_aload_n dL_isTask_23 rfl rfl ?_
    refine pw_iload_n dL_isTask_24 rfl rfl ?_
    refine pw_iconst (v := 5) dL_isTask_25 (by decide) ?_
    refine pe_callVi dL_isTask_26 oX_X7_task lk_RL_32 (sp_x_task hT hA hA8 hn hn4 hW hKd) (tw_k hT) rfl rfl (Nat.le_of_ble_eq_true rfl) (by decide) ?_
    rw [task_5 hn hn4 ht, z4]
    refine pw_imul dL_isTask_29 ?_
    refine pw_iadd dL_isTask_30 ?_
    refine pw_bipush (v := 6) dL_isTask_31 (by decide) ?_
    refine pw_iadd dL_isTask_33 ?_
    rw [show (nI fr + 2 * nI hh + 6 : Int32) = nI (fr + 2 * hh + 6) from by show nI fr + nI 2 * nI hh + nI 6 = _; rw [pk_mul, nI_add, nI_add]]
    refine pw_istore dL_isTask_34 (by decide) rfl ?_
    refine pw_iload_n dL_isTask_36 rfl rfl ?_
    refine pw_if_lt (tgt := 91) dL_isTask_37 (by decide) (fun c_37 => absurd c_37 (by decide)) (fun c_37 => ?_)
    refine pw_iload_n dL_isTask_40 rfl rfl ?_
    refine pw_bipush (v := 7) dL_isTask_41 (by decide) ?_
    refine pw_icmp_ge (tgt := 91) dL_isTask_43 (by decide) (fun c_43 => absurd c_43 (by decide)) (fun c_43 => ?_)
    refine pw_aload_n dL_isTask_46 rfl rfl ?_
    refine pw_iload_n dL_isTask_47 rfl rfl ?_
    refine pw_bipush (v := 7) dL_isTask_48 (by decide) ?_
    refine pe_callVi dL_isTask_50 oX_X7_task lk_RL_32 (sp_x_task hT hA hA8 hn hn4 hW hKd) (tw_k hT) rfl rfl (Nat.le_of_ble_eq_true rfl) (by decide) ?_
    rw [task_7 hn hn4 ht, z6]
    refine pw_iload dL_isTask_53 rfl ?_
    refine pw_icmp_ne (tgt := 91) dL_isTask_55 (by decide) (fun c_55 => absurd rfl c_55) (fun c_55 => ?_)
    refine pw_aload_n dL_isTask_58 rfl rfl ?_
    refine pw_iload_n dL_isTask_59 rfl rfl ?_
    refine pw_bipush (v := 9) dL_isTask_60 (by decide) ?_
    refine pe_callVi dL_isTask_62 oX_X7_task lk_RL_32 (sp_x_task hT hA hA8 hn hn4 hW hKd) (tw_k hT) rfl rfl (Nat.le_of_ble_eq_true rfl) (by decide) ?_
    rw [task_9 hn hn4 ht, z7, if_neg (by decide)]
    refine pw_iconst (v := 1) dL_isTask_65 (by decide) ?_
    refine pw_icmp_lt (tgt := 73) dL_isTask_66 (by decide) (fun c_66 => ?_) (fun c_66 => absurd (by decide) c_66)
    refine pw_iconst (v := 0) dL_isTask_73 (by decide) ?_
    refine pw_iload_n dL_isTask_74 rfl rfl ?_
    refine pw_iconst (v := 2) dL_isTask_75 (by decide) ?_
    refine pw_icmp_ne (tgt := 83) dL_isTask_76 (by decide) (fun c_76 => ?_) (fun c_76 => absurd c_76 (by decide))
    refine pw_iconst (v := 0) dL_isTask_83 (by decide) ?_
    refine pw_icmp_ne (tgt := 91) dL_isTask_84 (by decide) (fun c_84 => absurd rfl c_84) (fun c_84 => ?_)
    refine pw_iconst (v := 1) dL_isTask_87 (by decide) ?_
    refine pw_goto (tgt := 92) dL_isTask_88 (by decide) ?_
    refine pw_istore dL_isTask_92 (by decide) rfl ?_
    refine pw_iload dL_isTask_94 rfl ?_
    refine pw_if_eq (tgt := 145) dL_isTask_96 (by decide) (fun c_96 => absurd c_96 (by decide)) (fun c_96 => ?_)
    refine pw_iload_n dL_isTask_99 rfl rfl ?_
    refine pw_if_lt (tgt := 107) dL_isTask_100 (by decide) (fun c_100 => absurd c_100 (nI_pos (by omega))) (fun c_100 => ?_)
    refine pw_iconst (v := 1) dL_isTask_103 (by decide) ?_
    refine pw_goto (tgt := 108) dL_isTask_104 (by decide) ?_
    refine pw_iload_n dL_isTask_108 rfl rfl ?_
    refine pw_if_le (tgt := 121) dL_isTask_109 (by decide) (fun c_109 => absurd c_109 (by decide)) (fun c_109 => ?_)
    refine pw_iload_n dL_isTask_112 rfl rfl ?_
    refine pw_iconst (v := 5) dL_isTask_113 (by decide) ?_
    refine pw_icmp_ge (tgt := 121) dL_isTask_114 (by decide) (fun c_114 => absurd c_114 (by decide)) (fun c_114 => ?_)
    refine pw_iconst (v := 1) dL_isTask_117 (by decide) ?_
    refine pw_goto (tgt := 122) dL_isTask_118 (by decide) ?_
    refine pw_icmp_ne (tgt := 145) dL_isTask_122 (by decide) (fun c_122 => absurd rfl c_122) (fun c_122 => ?_)
    refine pw_iload_n dL_isTask_125 rfl rfl ?_
    refine pw_iconst (v := 5) dL_isTask_126 (by decide) ?_
    refine pw_icmp_ne (tgt := 141) dL_isTask_127 (by decide) (fun c_127 => ?_) (fun c_127 => absurd c_127 (by decide))
    refine pw_iconst (v := 1) dL_isTask_141 (by decide) ?_
    refine pw_goto (tgt := 146) dL_isTask_142 (by decide) ?_
    refine pw_istore dL_isTask_146 (by decide) rfl ?_
    refine pw_iload dL_isTask_148 rfl ?_
    refine pw_if_eq (tgt := 180) dL_isTask_150 (by decide) (fun c_150 => absurd c_150 (by decide)) (fun c_150 => ?_)
    refine pw_iload_n dL_isTask_153 rfl rfl ?_
    refine pw_if_lt (tgt := 176) dL_isTask_154 (by decide) (fun c_154 => absurd c_154 (nI_pos (by omega))) (fun c_154 => ?_)
    refine pw_aload_n dL_isTask_157 rfl rfl ?_
    refine pw_iload_n dL_isTask_158 rfl rfl ?_
    refine pw_iconst (v := 1) dL_isTask_159 (by decide) ?_
    refine pe_callVi dL_isTask_160 oX_X7_crew lk_RL_29 (sp_x_crew hT hC hC5 hn hn4) (tw_k hT) rfl rfl (Nat.le_of_ble_eq_true rfl) (by decide) ?_
    rw [crew_1 hC hC5 hc]
    refine pw_aload_n dL_isTask_163 rfl rfl ?_
    refine pw_iload_n dL_isTask_164 rfl rfl ?_
    refine pw_iconst (v := 2) dL_isTask_165 (by decide) ?_
    refine pe_callVi dL_isTask_166 oX_X7_task lk_RL_32 (sp_x_task hT hA hA8 hn hn4 hW hKd) (tw_k hT) rfl rfl (Nat.le_of_ble_eq_true rfl) (by decide) ?_
    rw [task_2 hn hn4 ht]
    refine pw_ishr dL_isTask_169 ?_
    refine pw_iconst (v := 1) dL_isTask_170 (by decide) ?_
    refine pw_iand dL_isTask_171 ?_
    refine pw_iconst (v := 1) dL_isTask_172 (by decide) ?_
    refine pw_icmp_ne (tgt := 180) dL_isTask_173 (by decide) (fun c_173 => absurd es c_173) (fun c_173 => ?_)
    refine pw_iconst (v := 1) dL_isTask_176 (by decide) ?_
    refine pw_goto (tgt := 181) dL_isTask_177 (by decide) ?_
    refine pw_istore dL_isTask_181 (by decide) rfl ?_
    refine pw_iload dL_isTask_183 rfl ?_
    refine pw_if_eq (tgt := 245) dL_isTask_185 (by decide) (fun c_185 => absurd c_185 (by decide)) (fun c_185 => ?_)
    refine pw_iload_n dL_isTask_188 rfl rfl ?_
    refine pw_iconst (v := 2) dL_isTask_189 (by decide) ?_
    refine pw_icmp_ne (tgt := 241) dL_isTask_190 (by decide) (fun c_190 => ?_) (fun c_190 => absurd c_190 (by decide))
    refine pw_iconst (v := 1) dL_isTask_241 (by decide) ?_
    refine pw_goto (tgt := 246) dL_isTask_242 (by decide) ?_
    exact pw_zret dL_isTask_246 rfl (by first | rfl | decide) ⟨rfl, rfl, rfl, rfl⟩
  · obtain ⟨c, hc, ec, es⟩ := w3 (by decide) (by decide)
    obtain ⟨l, l1, l2, l3, l4⟩ := w2 rfl
    refine PE.of oP_L_isTask (catOK rfl) (Nat.le_of_ble_eq_true rfl) ?_
    show PW _ _ _ 0 [.ref x, .int (nI t), pJ, pJ, pJ, pJ] [] _ _ _ _
    refine pw_aload_n dL_isTask_0 rfl rfl ?_
    refine pw_iload_n dL_isTask_1 rfl rfl ?_
    refine pw_iconst (v := 1) dL_isTask_2 (by decide) ?_
    refine pe_callVi dL_isTask_3 oX_X7_task lk_RL_32 (sp_x_task hT hA hA8 hn hn4 hW hKd) (tw_k hT) rfl rfl (Nat.le_of_ble_eq_true rfl) (by decide) ?_
    rw [task_1 hn hn4 ht, z7]
    refine pw_istore_n dL_isTask_6 rfl (by decide) rfl ?_
    refine pw_aload_n dL_isTask_7 rfl rfl ?_
    refine pw_iload_n dL_isTask_8 rfl rfl ?_
    refine pw_bipush (v := 8) dL_isTask_9 (by decide) ?_
    refine pe_callVi dL_isTask_11 oX_X7_task lk_RL_32 (sp_x_task hT hA hA8 hn hn4 hW hKd) (tw_k hT) rfl rfl (Nat.le_of_ble_eq_true rfl) (by decide) ?_
    rw [task_8 hn hn4 ht, ec]
    refine pw_istore_n dL_isTask_14 rfl (by decide) rfl ?_
    refine pw_aload_n dL_isTask_15 rfl rfl ?_
    refine pw_iload_n dL_isTask_16 rfl rfl ?_
    refine pw_bipush (v := 6) dL_isTask_17 (by decide) ?_
    refine pe_callVi dL_isTask_19 oX_X7_task lk_RL_32 (sp_x_task hT hA hA8 hn hn4 hW hKd) (tw_k hT) rfl rfl (Nat.le_of_ble_eq_true rfl) (by decide) ?_
    rw [task_6 hn hn4 ht, z5]
    refine pw_iconst (v := 2) dL_isTask_22 (by decide) ?_
    refine pw_aload_n dL_isTask_23 rfl rfl ?_
    refine pw_iload_n dL_isTask_24 rfl rfl ?_
    refine pw_iconst (v := 5) dL_isTask_25 (by decide) ?_
    refine pe_callVi dL_isTask_26 oX_X7_task lk_RL_32 (sp_x_task hT hA hA8 hn hn4 hW hKd) (tw_k hT) rfl rfl (Nat.le_of_ble_eq_true rfl) (by decide) ?_
    rw [task_5 hn hn4 ht, z4]
    refine pw_imul dL_isTask_29 ?_
    refine pw_iadd dL_isTask_30 ?_
    refine pw_bipush (v := 6) dL_isTask_31 (by decide) ?_
    refine pw_iadd dL_isTask_33 ?_
    rw [show (nI fr + 2 * nI hh + 6 : Int32) = nI (fr + 2 * hh + 6) from by show nI fr + nI 2 * nI hh + nI 6 = _; rw [pk_mul, nI_add, nI_add]]
    refine pw_istore dL_isTask_34 (by decide) rfl ?_
    refine pw_iload_n dL_isTask_36 rfl rfl ?_
    refine pw_if_lt (tgt := 91) dL_isTask_37 (by decide) (fun c_37 => absurd c_37 (by decide)) (fun c_37 => ?_)
    refine pw_iload_n dL_isTask_40 rfl rfl ?_
    refine pw_bipush (v := 7) dL_isTask_41 (by decide) ?_
    refine pw_icmp_ge (tgt := 91) dL_isTask_43 (by decide) (fun c_43 => absurd c_43 (by decide)) (fun c_43 => ?_)
    refine pw_aload_n dL_isTask_46 rfl rfl ?_
    refine pw_iload_n dL_isTask_47 rfl rfl ?_
    refine pw_bipush (v := 7) dL_isTask_48 (by decide) ?_
    refine pe_callVi dL_isTask_50 oX_X7_task lk_RL_32 (sp_x_task hT hA hA8 hn hn4 hW hKd) (tw_k hT) rfl rfl (Nat.le_of_ble_eq_true rfl) (by decide) ?_
    rw [task_7 hn hn4 ht, z6]
    refine pw_iload dL_isTask_53 rfl ?_
    refine pw_icmp_ne (tgt := 91) dL_isTask_55 (by decide) (fun c_55 => absurd rfl c_55) (fun c_55 => ?_)
    refine pw_aload_n dL_isTask_58 rfl rfl ?_
    refine pw_iload_n dL_isTask_59 rfl rfl ?_
    refine pw_bipush (v := 9) dL_isTask_60 (by decide) ?_
    refine pe_callVi dL_isTask_62 oX_X7_task lk_RL_32 (sp_x_task hT hA hA8 hn hn4 hW hKd) (tw_k hT) rfl rfl (Nat.le_of_ble_eq_true rfl) (by decide) ?_
    rw [task_9 hn hn4 ht, z7, if_pos (by decide), l2]
    refine pw_iconst (v := 1) dL_isTask_65 (by decide) ?_
    refine pw_icmp_lt (tgt := 73) dL_isTask_66 (by decide) (fun c_66 => absurd c_66 (nI_nlt (a := l) (b := 1) l1.1 (by omega))) (fun c_66 => ?_)
    refine pw_iconst (v := 1) dL_isTask_69 (by decide) ?_
    refine pw_goto (tgt := 74) dL_isTask_70 (by decide) ?_
    refine pw_iload_n dL_isTask_74 rfl rfl ?_
    refine pw_iconst (v := 2) dL_isTask_75 (by decide) ?_
    refine pw_icmp_ne (tgt := 83) dL_isTask_76 (by decide) (fun c_76 => absurd (by decide) c_76) (fun c_76 => ?_)
    refine pw_iconst (v := 1) dL_isTask_79 (by decide) ?_
    refine pw_goto (tgt := 84) dL_isTask_80 (by decide) ?_
    refine pw_icmp_ne (tgt := 91) dL_isTask_84 (by decide) (fun c_84 => absurd rfl c_84) (fun c_84 => ?_)
    refine pw_iconst (v := 1) dL_isTask_87 (by decide) ?_
    refine pw_goto (tgt := 92) dL_isTask_88 (by decide) ?_
    refine pw_istore dL_isTask_92 (by decide) rfl ?_
    refine pw_iload dL_isTask_94 rfl ?_
    refine pw_if_eq (tgt := 145) dL_isTask_96 (by decide) (fun c_96 => absurd c_96 (by decide)) (fun c_96 => ?_)
    refine pw_iload_n dL_isTask_99 rfl rfl ?_
    refine pw_if_lt (tgt := 107) dL_isTask_100 (by decide) (fun c_100 => absurd c_100 (nI_pos (by omega))) (fun c_100 => ?_)
    refine pw_iconst (v := 1) dL_isTask_103 (by decide) ?_
    refine pw_goto (tgt := 108) dL_isTask_104 (by decide) ?_
    refine pw_iload_n dL_isTask_108 rfl rfl ?_
    refine pw_if_le (tgt := 121) dL_isTask_109 (by decide) (fun c_109 => absurd c_109 (by decide)) (fun c_109 => ?_)
    refine pw_iload_n dL_isTask_112 rfl rfl ?_
    refine pw_iconst (v := 5) dL_isTask_113 (by decide) ?_
    refine pw_icmp_ge (tgt := 121) dL_isTask_114 (by decide) (fun c_114 => absurd c_114 (by decide)) (fun c_114 => ?_)
    refine pw_iconst (v := 1) dL_isTask_117 (by decide) ?_
    refine pw_goto (tgt := 122) dL_isTask_118 (by decide) ?_
    refine pw_icmp_ne (tgt := 145) dL_isTask_122 (by decide) (fun c_122 => absurd rfl c_122) (fun c_122 => ?_)
    refine pw_iload_n dL_isTask_125 rfl rfl ?_
    refine pw_iconst (v := 5) dL_isTask_126 (by decide) ?_
    refine pw_icmp_ne (tgt := 141) dL_isTask_127 (by decide) (fun c_127 => ?_) (fun c_127 => absurd c_127 (by decide))
    refine pw_iconst (v := 1) dL_isTask_141 (by decide) ?_
    refine pw_goto (tgt := 146) dL_isTask_142 (by decide) ?_
    refine pw_istore dL_isTask_146 (by decide) rfl ?_
    refine pw_iload dL_isTask_148 rfl ?_
    refine pw_if_eq (tgt := 180) dL_isTask_150 (by decide) (fun c_150 => absurd c_150 (by decide)) (fun c_150 => ?_)
    refine pw_iload_n dL_isTask_153 rfl rfl ?_
    refine pw_if_lt (tgt := 176) dL_isTask_154 (by decide) (fun c_154 => absurd c_154 (nI_pos (by omega))) (fun c_154 => ?_)
    refine pw_aload_n dL_isTask_157 rfl rfl ?_
    refine pw_iload_n dL_isTask_158 rfl rfl ?_
    refine pw_iconst (v := 1) dL_isTask_159 (by decide) ?_
    refine pe_callVi dL_isTask_160 oX_X7_crew lk_RL_29 (sp_x_crew hT hC hC5 hn hn4) (tw_k hT) rfl rfl (Nat.le_of_ble_eq_true rfl) (by decide) ?_
    rw [crew_1 hC hC5 hc]
    refine pw_aload_n dL_isTask_163 rfl rfl ?_
    refine pw_iload_n dL_isTask_164 rfl rfl ?_
    refine pw_iconst (v := 2) dL_isTask_165 (by decide) ?_
    refine pe_callVi dL_isTask_166 oX_X7_task lk_RL_32 (sp_x_task hT hA hA8 hn hn4 hW hKd) (tw_k hT) rfl rfl (Nat.le_of_ble_eq_true rfl) (by decide) ?_
    rw [task_2 hn hn4 ht]
    refine pw_ishr dL_isTask_169 ?_
    refine pw_iconst (v := 1) dL_isTask_170 (by decide) ?_
    refine pw_iand dL_isTask_171 ?_
    refine pw_iconst (v := 1) dL_isTask_172 (by decide) ?_
    refine pw_icmp_ne (tgt := 180) dL_isTask_173 (by decide) (fun c_173 => absurd es c_173) (fun c_173 => ?_)
    refine pw_iconst (v := 1) dL_isTask_176 (by decide) ?_
    refine pw_goto (tgt := 181) dL_isTask_177 (by decide) ?_
    refine pw_istore dL_isTask_181 (by decide) rfl ?_
    refine pw_iload dL_isTask_183 rfl ?_
    refine pw_if_eq (tgt := 245) dL_isTask_185 (by decide) (fun c_185 => absurd c_185 (by decide)) (fun c_185 => ?_)
    refine pw_iload_n dL_isTask_188 rfl rfl ?_
    refine pw_iconst (v := 2) dL_isTask_189 (by decide) ?_
    refine pw_icmp_ne (tgt := 241) dL_isTask_190 (by decide) (fun c_190 => absurd (by decide) c_190) (fun c_190 => ?_)
    refine pw_aload_n dL_isTask_193 rfl rfl ?_
    refine pw_iconst (v := 0) dL_isTask_194 (by decide) ?_
    refine pe_callVi dL_isTask_195 oX_X7_count lk_RL_13 (sp_x_count hT hA hA8 hn hn4) (tw_k hT) rfl rfl (Nat.le_of_ble_eq_true rfl) (by decide) ?_
    rw [count_0, h7]
    refine pw_aload_n dL_isTask_198 rfl rfl ?_
    refine pw_iload_n dL_isTask_199 rfl rfl ?_
    refine pw_bipush (v := 9) dL_isTask_200 (by decide) ?_
    refine pe_callVi dL_isTask_202 oX_X7_task lk_RL_32 (sp_x_task hT hA hA8 hn hn4 hW hKd) (tw_k hT) rfl rfl (Nat.le_of_ble_eq_true rfl) (by decide) ?_
    rw [task_9 hn hn4 ht, z7, if_pos (by decide), l2]
    refine pw_iadd dL_isTask_205 ?_
    refine pw_iload dL_isTask_206 rfl ?_
    refine pw_icmp_gt (tgt := 245) dL_isTask_208 (by decide) (fun c_208 => absurd c_208 (by rw [nI_add]; exact nI_nlt (by omega) (by omega))) (fun c_208 => ?_)
    refine pw_aload_n dL_isTask_211 rfl rfl ?_
    refine pw_iconst (v := 0) dL_isTask_212 (by decide) ?_
    refine pe_callVi dL_isTask_213 oX_X7_count lk_RL_13 (sp_x_count hT hA hA8 hn hn4) (tw_k hT) rfl rfl (Nat.le_of_ble_eq_true rfl) (by decide) ?_
    rw [count_0, h7]
    refine pw_aload_n dL_isTask_216 rfl rfl ?_
    refine pw_iload_n dL_isTask_217 rfl rfl ?_
    refine pw_bipush (v := 9) dL_isTask_218 (by decide) ?_
    refine pe_callVi dL_isTask_220 oX_X7_task lk_RL_32 (sp_x_task hT hA hA8 hn hn4 hW hKd) (tw_k hT) rfl rfl (Nat.le_of_ble_eq_true rfl) (by decide) ?_
    rw [task_9 hn hn4 ht, z7, if_pos (by decide), l2]
    refine pw_iadd dL_isTask_223 ?_
    refine pw_aload_n dL_isTask_224 rfl rfl ?_
    refine pw_iload_n dL_isTask_225 rfl rfl ?_
    refine pw_bipush (v := 6) dL_isTask_226 (by decide) ?_
    refine pe_callVi dL_isTask_228 oX_X7_task lk_RL_32 (sp_x_task hT hA hA8 hn hn4 hW hKd) (tw_k hT) rfl rfl (Nat.le_of_ble_eq_true rfl) (by decide) ?_
    rw [task_6 hn hn4 ht, z5]
    refine pw_aload_n dL_isTask_231 rfl rfl ?_
    refine pw_iload_n dL_isTask_232 rfl rfl ?_
    refine pw_iconst (v := 5) dL_isTask_233 (by decide) ?_
    refine pe_callVi dL_isTask_234 oX_X7_task lk_RL_32 (sp_x_task hT hA hA8 hn hn4 hW hKd) (tw_k hT) rfl rfl (Nat.le_of_ble_eq_true rfl) (by decide) ?_
    rw [task_5 hn hn4 ht, z4]
    refine pw_iadd dL_isTask_237 ?_
    refine pw_icmp_lt (tgt := 245) dL_isTask_238 (by decide) (fun c_238 => absurd c_238 (by rw [nI_add, nI_add]; exact nI_nlt (by omega) (by omega))) (fun c_238 => ?_)
    refine pw_iconst (v := 1) dL_isTask_241 (by decide) ?_
    refine pw_goto (tgt := 246) dL_isTask_242 (by decide) ?_
    exact pw_zret dL_isTask_246 rfl (by first | rfl | decide) ⟨rfl, rfl, rfl, rfl⟩
  · obtain ⟨c, hc, ec, es⟩ := w3 (by decide) (by decide)
    refine PE.of oP_L_isTask (catOK rfl) (Nat.le_of_ble_eq_true rfl) ?_
    show PW _ _ _ 0 [.ref x, .int (nI t), pJ, pJ, pJ, pJ] [] _ _ _ _
    refine pw_aload_n dL_isTask_0 rfl rfl ?_
    refine pw_iload_n dL_isTask_1 rfl rfl ?_
    refine pw_iconst (v := 1) dL_isTask_2 (by decide) ?_
    refine pe_callVi dL_isTask_3 oX_X7_task lk_RL_32 (sp_x_task hT hA hA8 hn hn4 hW hKd) (tw_k hT) rfl rfl (Nat.le_of_ble_eq_true rfl) (by decide) ?_
    rw [task_1 hn hn4 ht, z7]
    refine pw_istore_n dL_isTask_6 rfl (by decide) rfl ?_
    refine pw_aload_n dL_isTask_7 rfl rfl ?_
    refine pw_iload_n dL_isTask_8 rfl rfl ?_
    refine pw_bipush (v := 8) dL_isTask_9 (by decide) ?_
    refine pe_callVi dL_isTask_11 oX_X7_task lk_RL_32 (sp_x_task hT hA hA8 hn hn4 hW hKd) (tw_k hT) rfl rfl (Nat.le_of_ble_eq_true rfl) (by decide) ?_
    rw [task_8 hn hn4 ht, ec]
    refine pw_istore_n dL_isTask_14 rfl (by decide) rfl ?_
    refine pw_aload_n dL_isTask_15 rfl rfl ?_
    refine pw_iload_n dL_isTask_16 rfl rfl ?_
    refine pw_bipush (v := 6) dL_isTask_17 (by decide) ?_
    refine pe_callVi dL_isTask_19 oX_X7_task lk_RL_32 (sp_x_task hT hA hA8 hn hn4 hW hKd) (tw_k hT) rfl rfl (Nat.le_of_ble_eq_true rfl) (by decide) ?_
    rw [task_6 hn hn4 ht, z5]
    refine pw_iconst (v := 2) dL_isTask_22 (by decide) ?_
    refine pw_aload_n dL_isTask_23 rfl rfl ?_
    refine pw_iload_n dL_isTask_24 rfl rfl ?_
    refine pw_iconst (v := 5) dL_isTask_25 (by decide) ?_
    refine pe_callVi dL_isTask_26 oX_X7_task lk_RL_32 (sp_x_task hT hA hA8 hn hn4 hW hKd) (tw_k hT) rfl rfl (Nat.le_of_ble_eq_true rfl) (by decide) ?_
    rw [task_5 hn hn4 ht, z4]
    refine pw_imul dL_isTask_29 ?_
    refine pw_iadd dL_isTask_30 ?_
    refine pw_bipush (v := 6) dL_isTask_31 (by decide) ?_
    refine pw_iadd dL_isTask_33 ?_
    rw [show (nI fr + 2 * nI hh + 6 : Int32) = nI (fr + 2 * hh + 6) from by show nI fr + nI 2 * nI hh + nI 6 = _; rw [pk_mul, nI_add, nI_add]]
    refine pw_istore dL_isTask_34 (by decide) rfl ?_
    refine pw_iload_n dL_isTask_36 rfl rfl ?_
    refine pw_if_lt (tgt := 91) dL_isTask_37 (by decide) (fun c_37 => absurd c_37 (by decide)) (fun c_37 => ?_)
    refine pw_iload_n dL_isTask_40 rfl rfl ?_
    refine pw_bipush (v := 7) dL_isTask_41 (by decide) ?_
    refine pw_icmp_ge (tgt := 91) dL_isTask_43 (by decide) (fun c_43 => absurd c_43 (by decide)) (fun c_43 => ?_)
    refine pw_aload_n dL_isTask_46 rfl rfl ?_
    refine pw_iload_n dL_isTask_47 rfl rfl ?_
    refine pw_bipush (v := 7) dL_isTask_48 (by decide) ?_
    refine pe_callVi dL_isTask_50 oX_X7_task lk_RL_32 (sp_x_task hT hA hA8 hn hn4 hW hKd) (tw_k hT) rfl rfl (Nat.le_of_ble_eq_true rfl) (by decide) ?_
    rw [task_7 hn hn4 ht, z6]
    refine pw_iload dL_isTask_53 rfl ?_
    refine pw_icmp_ne (tgt := 91) dL_isTask_55 (by decide) (fun c_55 => absurd rfl c_55) (fun c_55 => ?_)
    refine pw_aload_n dL_isTask_58 rfl rfl ?_
    refine pw_iload_n dL_isTask_59 rfl rfl ?_
    refine pw_bipush (v := 9) dL_isTask_60 (by decide) ?_
    refine pe_callVi dL_isTask_62 oX_X7_task lk_RL_32 (sp_x_task hT hA hA8 hn hn4 hW hKd) (tw_k hT) rfl rfl (Nat.le_of_ble_eq_true rfl) (by decide) ?_
    rw [task_9 hn hn4 ht, z7, if_neg (by decide)]
    refine pw_iconst (v := 1) dL_isTask_65 (by decide) ?_
    refine pw_icmp_lt (tgt := 73) dL_isTask_66 (by decide) (fun c_66 => ?_) (fun c_66 => absurd (by decide) c_66)
    refine pw_iconst (v := 0) dL_isTask_73 (by decide) ?_
    refine pw_iload_n dL_isTask_74 rfl rfl ?_
    refine pw_iconst (v := 2) dL_isTask_75 (by decide) ?_
    refine pw_icmp_ne (tgt := 83) dL_isTask_76 (by decide) (fun c_76 => ?_) (fun c_76 => absurd c_76 (by decide))
    refine pw_iconst (v := 0) dL_isTask_83 (by decide) ?_
    refine pw_icmp_ne (tgt := 91) dL_isTask_84 (by decide) (fun c_84 => absurd rfl c_84) (fun c_84 => ?_)
    refine pw_iconst (v := 1) dL_isTask_87 (by decide) ?_
    refine pw_goto (tgt := 92) dL_isTask_88 (by decide) ?_
    refine pw_istore dL_isTask_92 (by decide) rfl ?_
    refine pw_iload dL_isTask_94 rfl ?_
    refine pw_if_eq (tgt := 145) dL_isTask_96 (by decide) (fun c_96 => absurd c_96 (by decide)) (fun c_96 => ?_)
    refine pw_iload_n dL_isTask_99 rfl rfl ?_
    refine pw_if_lt (tgt := 107) dL_isTask_100 (by decide) (fun c_100 => absurd c_100 (nI_pos (by omega))) (fun c_100 => ?_)
    refine pw_iconst (v := 1) dL_isTask_103 (by decide) ?_
    refine pw_goto (tgt := 108) dL_isTask_104 (by decide) ?_
    refine pw_iload_n dL_isTask_108 rfl rfl ?_
    refine pw_if_le (tgt := 121) dL_isTask_109 (by decide) (fun c_109 => absurd c_109 (by decide)) (fun c_109 => ?_)
    refine pw_iload_n dL_isTask_112 rfl rfl ?_
    refine pw_iconst (v := 5) dL_isTask_113 (by decide) ?_
    refine pw_icmp_ge (tgt := 121) dL_isTask_114 (by decide) (fun c_114 => absurd c_114 (by decide)) (fun c_114 => ?_)
    refine pw_iconst (v := 1) dL_isTask_117 (by decide) ?_
    refine pw_goto (tgt := 122) dL_isTask_118 (by decide) ?_
    refine pw_icmp_ne (tgt := 145) dL_isTask_122 (by decide) (fun c_122 => absurd rfl c_122) (fun c_122 => ?_)
    refine pw_iload_n dL_isTask_125 rfl rfl ?_
    refine pw_iconst (v := 5) dL_isTask_126 (by decide) ?_
    refine pw_icmp_ne (tgt := 141) dL_isTask_127 (by decide) (fun c_127 => ?_) (fun c_127 => absurd c_127 (by decide))
    refine pw_iconst (v := 1) dL_isTask_141 (by decide) ?_
    refine pw_goto (tgt := 146) dL_isTask_142 (by decide) ?_
    refine pw_istore dL_isTask_146 (by decide) rfl ?_
    refine pw_iload dL_isTask_148 rfl ?_
    refine pw_if_eq (tgt := 180) dL_isTask_150 (by decide) (fun c_150 => absurd c_150 (by decide)) (fun c_150 => ?_)
    refine pw_iload_n dL_isTask_153 rfl rfl ?_
    refine pw_if_lt (tgt := 176) dL_isTask_154 (by decide) (fun c_154 => absurd c_154 (nI_pos (by omega))) (fun c_154 => ?_)
    refine pw_aload_n dL_isTask_157 rfl rfl ?_
    refine pw_iload_n dL_isTask_158 rfl rfl ?_
    refine pw_iconst (v := 1) dL_isTask_159 (by decide) ?_
    refine pe_callVi dL_isTask_160 oX_X7_crew lk_RL_29 (sp_x_crew hT hC hC5 hn hn4) (tw_k hT) rfl rfl (Nat.le_of_ble_eq_true rfl) (by decide) ?_
    rw [crew_1 hC hC5 hc]
    refine pw_aload_n dL_isTask_163 rfl rfl ?_
    refine pw_iload_n dL_isTask_164 rfl rfl ?_
    refine pw_iconst (v := 2) dL_isTask_165 (by decide) ?_
    refine pe_callVi dL_isTask_166 oX_X7_task lk_RL_32 (sp_x_task hT hA hA8 hn hn4 hW hKd) (tw_k hT) rfl rfl (Nat.le_of_ble_eq_true rfl) (by decide) ?_
    rw [task_2 hn hn4 ht]
    refine pw_ishr dL_isTask_169 ?_
    refine pw_iconst (v := 1) dL_isTask_170 (by decide) ?_
    refine pw_iand dL_isTask_171 ?_
    refine pw_iconst (v := 1) dL_isTask_172 (by decide) ?_
    refine pw_icmp_ne (tgt := 180) dL_isTask_173 (by decide) (fun c_173 => absurd es c_173) (fun c_173 => ?_)
    refine pw_iconst (v := 1) dL_isTask_176 (by decide) ?_
    refine pw_goto (tgt := 181) dL_isTask_177 (by decide) ?_
    refine pw_istore dL_isTask_181 (by decide) rfl ?_
    refine pw_iload dL_isTask_183 rfl ?_
    refine pw_if_eq (tgt := 245) dL_isTask_185 (by decide) (fun c_185 => absurd c_185 (by decide)) (fun c_185 => ?_)
    refine pw_iload_n dL_isTask_188 rfl rfl ?_
    refine pw_iconst (v := 2) dL_isTask_189 (by decide) ?_
    refine pw_icmp_ne (tgt := 241) dL_isTask_190 (by decide) (fun c_190 => ?_) (fun c_190 => absurd c_190 (by decide))
    refine pw_iconst (v := 1) dL_isTask_241 (by decide) ?_
    refine pw_goto (tgt := 246) dL_isTask_242 (by decide) ?_
    exact pw_zret dL_isTask_246 rfl (by first | rfl | decide) ⟨rfl, rfl, rfl, rfl⟩
  · obtain ⟨c, hc, ec, es⟩ := w3 (by decide) (by decide)
    refine PE.of oP_L_isTask (catOK rfl) (Nat.le_of_ble_eq_true rfl) ?_
    show PW _ _ _ 0 [.ref x, .int (nI t), pJ, pJ, pJ, pJ] [] _ _ _ _
    refine pw_aload_n dL_isTask_0 rfl rfl ?_
    refine pw_iload_n dL_isTask_1 rfl rfl ?_
    refine pw_iconst (v := 1) dL_isTask_2 (by decide) ?_
    refine pe_callVi dL_isTask_3 oX_X7_task lk_RL_32 (sp_x_task hT hA hA8 hn hn4 hW hKd) (tw_k hT) rfl rfl (Nat.le_of_ble_eq_true rfl) (by decide) ?_
    rw [task_1 hn hn4 ht, z7]
    refine pw_istore_n dL_isTask_6 rfl (by decide) rfl ?_
    refine pw_aload_n dL_isTask_7 rfl rfl ?_
    refine pw_iload_n dL_isTask_8 rfl rfl ?_
    refine pw_bipush (v := 8) dL_isTask_9 (by decide) ?_
    refine pe_callVi dL_isTask_11 oX_X7_task lk_RL_32 (sp_x_task hT hA hA8 hn hn4 hW hKd) (tw_k hT) rfl rfl (Nat.le_of_ble_eq_true rfl) (by decide) ?_
    rw [task_8 hn hn4 ht, ec]
    refine pw_istore_n dL_isTask_14 rfl (by decide) rfl ?_
    refine pw_aload_n dL_isTask_15 rfl rfl ?_
    refine pw_iload_n dL_isTask_16 rfl rfl ?_
    refine pw_bipush (v := 6) dL_isTask_17 (by decide) ?_
    refine pe_callVi dL_isTask_19 oX_X7_task lk_RL_32 (sp_x_task hT hA hA8 hn hn4 hW hKd) (tw_k hT) rfl rfl (Nat.le_of_ble_eq_true rfl) (by decide) ?_
    rw [task_6 hn hn4 ht, z5]
    refine pw_iconst (v := 2) dL_isTask_22 (by decide) ?_
    refine pw_aload_n dL_isTask_23 rfl rfl ?_
    refine pw_iload_n dL_isTask_24 rfl rfl ?_
    refine pw_iconst (v := 5) dL_isTask_25 (by decide) ?_
    refine pe_callVi dL_isTask_26 oX_X7_task lk_RL_32 (sp_x_task hT hA hA8 hn hn4 hW hKd) (tw_k hT) rfl rfl (Nat.le_of_ble_eq_true rfl) (by decide) ?_
    rw [task_5 hn hn4 ht, z4]
    refine pw_imul dL_isTask_29 ?_
    refine pw_iadd dL_isTask_30 ?_
    refine pw_bipush (v := 6) dL_isTask_31 (by decide) ?_
    refine pw_iadd dL_isTask_33 ?_
    rw [show (nI fr + 2 * nI hh + 6 : Int32) = nI (fr + 2 * hh + 6) from by show nI fr + nI 2 * nI hh + nI 6 = _; rw [pk_mul, nI_add, nI_add]]
    refine pw_istore dL_isTask_34 (by decide) rfl ?_
    refine pw_iload_n dL_isTask_36 rfl rfl ?_
    refine pw_if_lt (tgt := 91) dL_isTask_37 (by decide) (fun c_37 => absurd c_37 (by decide)) (fun c_37 => ?_)
    refine pw_iload_n dL_isTask_40 rfl rfl ?_
    refine pw_bipush (v := 7) dL_isTask_41 (by decide) ?_
    refine pw_icmp_ge (tgt := 91) dL_isTask_43 (by decide) (fun c_43 => absurd c_43 (by decide)) (fun c_43 => ?_)
    refine pw_aload_n dL_isTask_46 rfl rfl ?_
    refine pw_iload_n dL_isTask_47 rfl rfl ?_
    refine pw_bipush (v := 7) dL_isTask_48 (by decide) ?_
    refine pe_callVi dL_isTask_50 oX_X7_task lk_RL_32 (sp_x_task hT hA hA8 hn hn4 hW hKd) (tw_k hT) rfl rfl (Nat.le_of_ble_eq_true rfl) (by decide) ?_
    rw [task_7 hn hn4 ht, z6]
    refine pw_iload dL_isTask_53 rfl ?_
    refine pw_icmp_ne (tgt := 91) dL_isTask_55 (by decide) (fun c_55 => absurd rfl c_55) (fun c_55 => ?_)
    refine pw_aload_n dL_isTask_58 rfl rfl ?_
    refine pw_iload_n dL_isTask_59 rfl rfl ?_
    refine pw_bipush (v := 9) dL_isTask_60 (by decide) ?_
    refine pe_callVi dL_isTask_62 oX_X7_task lk_RL_32 (sp_x_task hT hA hA8 hn hn4 hW hKd) (tw_k hT) rfl rfl (Nat.le_of_ble_eq_true rfl) (by decide) ?_
    rw [task_9 hn hn4 ht, z7, if_neg (by decide)]
    refine pw_iconst (v := 1) dL_isTask_65 (by decide) ?_
    refine pw_icmp_lt (tgt := 73) dL_isTask_66 (by decide) (fun c_66 => ?_) (fun c_66 => absurd (by decide) c_66)
    refine pw_iconst (v := 0) dL_isTask_73 (by decide) ?_
    refine pw_iload_n dL_isTask_74 rfl rfl ?_
    refine pw_iconst (v := 2) dL_isTask_75 (by decide) ?_
    refine pw_icmp_ne (tgt := 83) dL_isTask_76 (by decide) (fun c_76 => ?_) (fun c_76 => absurd c_76 (by decide))
    refine pw_iconst (v := 0) dL_isTask_83 (by decide) ?_
    refine pw_icmp_ne (tgt := 91) dL_isTask_84 (by decide) (fun c_84 => absurd rfl c_84) (fun c_84 => ?_)
    refine pw_iconst (v := 1) dL_isTask_87 (by decide) ?_
    refine pw_goto (tgt := 92) dL_isTask_88 (by decide) ?_
    refine pw_istore dL_isTask_92 (by decide) rfl ?_
    refine pw_iload dL_isTask_94 rfl ?_
    refine pw_if_eq (tgt := 145) dL_isTask_96 (by decide) (fun c_96 => absurd c_96 (by decide)) (fun c_96 => ?_)
    refine pw_iload_n dL_isTask_99 rfl rfl ?_
    refine pw_if_lt (tgt := 107) dL_isTask_100 (by decide) (fun c_100 => absurd c_100 (nI_pos (by omega))) (fun c_100 => ?_)
    refine pw_iconst (v := 1) dL_isTask_103 (by decide) ?_
    refine pw_goto (tgt := 108) dL_isTask_104 (by decide) ?_
    refine pw_iload_n dL_isTask_108 rfl rfl ?_
    refine pw_if_le (tgt := 121) dL_isTask_109 (by decide) (fun c_109 => absurd c_109 (by decide)) (fun c_109 => ?_)
    refine pw_iload_n dL_isTask_112 rfl rfl ?_
    refine pw_iconst (v := 5) dL_isTask_113 (by decide) ?_
    refine pw_icmp_ge (tgt := 121) dL_isTask_114 (by decide) (fun c_114 => absurd c_114 (by decide)) (fun c_114 => ?_)
    refine pw_iconst (v := 1) dL_isTask_117 (by decide) ?_
    refine pw_goto (tgt := 122) dL_isTask_118 (by decide) ?_
    refine pw_icmp_ne (tgt := 145) dL_isTask_122 (by decide) (fun c_122 => absurd rfl c_122) (fun c_122 => ?_)
    refine pw_iload_n dL_isTask_125 rfl rfl ?_
    refine pw_iconst (v := 5) dL_isTask_126 (by decide) ?_
    refine pw_icmp_ne (tgt := 141) dL_isTask_127 (by decide) (fun c_127 => ?_) (fun c_127 => absurd c_127 (by decide))
    refine pw_iconst (v := 1) dL_isTask_141 (by decide) ?_
    refine pw_goto (tgt := 146) dL_isTask_142 (by decide) ?_
    refine pw_istore dL_isTask_146 (by decide) rfl ?_
    refine pw_iload dL_isTask_148 rfl ?_
    refine pw_if_eq (tgt := 180) dL_isTask_150 (by decide) (fun c_150 => absurd c_150 (by decide)) (fun c_150 => ?_)
    refine pw_iload_n dL_isTask_153 rfl rfl ?_
    refine pw_if_lt (tgt := 176) dL_isTask_154 (by decide) (fun c_154 => absurd c_154 (nI_pos (by omega))) (fun c_154 => ?_)
    refine pw_aload_n dL_isTask_157 rfl rfl ?_
    refine pw_iload_n dL_isTask_158 rfl rfl ?_
    refine pw_iconst (v := 1) dL_isTask_159 (by decide) ?_
    refine pe_callVi dL_isTask_160 oX_X7_crew lk_RL_29 (sp_x_crew hT hC hC5 hn hn4) (tw_k hT) rfl rfl (Nat.le_of_ble_eq_true rfl) (by decide) ?_
    rw [crew_1 hC hC5 hc]
    refine pw_aload_n dL_isTask_163 rfl rfl ?_
    refine pw_iload_n dL_isTask_164 rfl rfl ?_
    refine pw_iconst (v := 2) dL_isTask_165 (by decide) ?_
    refine pe_callVi dL_isTask_166 oX_X7_task lk_RL_32 (sp_x_task hT hA hA8 hn hn4 hW hKd) (tw_k hT) rfl rfl (Nat.le_of_ble_eq_true rfl) (by decide) ?_
    rw [task_2 hn hn4 ht]
    refine pw_ishr dL_isTask_169 ?_
    refine pw_iconst (v := 1) dL_isTask_170 (by decide) ?_
    refine pw_iand dL_isTask_171 ?_
    refine pw_iconst (v := 1) dL_isTask_172 (by decide) ?_
    refine pw_icmp_ne (tgt := 180) dL_isTask_173 (by decide) (fun c_173 => absurd es c_173) (fun c_173 => ?_)
    refine pw_iconst (v := 1) dL_isTask_176 (by decide) ?_
    refine pw_goto (tgt := 181) dL_isTask_177 (by decide) ?_
    refine pw_istore dL_isTask_181 (by decide) rfl ?_
    refine pw_iload dL_isTask_183 rfl ?_
    refine pw_if_eq (tgt := 245) dL_isTask_185 (by decide) (fun c_185 => absurd c_185 (by decide)) (fun c_185 => ?_)
    refine pw_iload_n dL_isTask_188 rfl rfl ?_
    refine pw_iconst (v := 2) dL_isTask_189 (by decide) ?_
    refine pw_icmp_ne (tgt := 241) dL_isTask_190 (by decide) (fun c_190 => ?_) (fun c_190 => absurd c_190 (by decide))
    refine pw_iconst (v := 1) dL_isTask_241 (by decide) ?_
    refine pw_goto (tgt := 246) dL_isTask_242 (by decide) ?_
    exact pw_zret dL_isTask_246 rfl (by first | rfl | decide) ⟨rfl, rfl, rfl, rfl⟩
  · have ec := w4 (by decide)
    refine PE.of oP_L_isTask (catOK rfl) (Nat.le_of_ble_eq_true rfl) ?_
    show PW _ _ _ 0 [.ref x, .int (nI t), pJ, pJ, pJ, pJ] [] _ _ _ _
    refine pw_aload_n dL_isTask_0 rfl rfl ?_
    refine pw_iload_n dL_isTask_1 rfl rfl ?_
    refine pw_iconst (v := 1) dL_isTask_2 (by decide) ?_
    refine pe_callVi dL_isTask_3 oX_X7_task lk_RL_32 (sp_x_task hT hA hA8 hn hn4 hW hKd) (tw_k hT) rfl rfl (Nat.le_of_ble_eq_true rfl) (by decide) ?_
    rw [task_1 hn hn4 ht, z7]
    refine pw_istore_n dL_isTask_6 rfl (by decide) rfl ?_
    refine pw_aload_n dL_isTask_7 rfl rfl ?_
    refine pw_iload_n dL_isTask_8 rfl rfl ?_
    refine pw_bipush (v := 8) dL_isTask_9 (by decide) ?_
    refine pe_callVi dL_isTask_11 oX_X7_task lk_RL_32 (sp_x_task hT hA hA8 hn hn4 hW hKd) (tw_k hT) rfl rfl (Nat.le_of_ble_eq_true rfl) (by decide) ?_
    rw [task_8 hn hn4 ht, ec]
    refine pw_istore_n dL_isTask_14 rfl (by decide) rfl ?_
    refine pw_aload_n dL_isTask_15 rfl rfl ?_
    refine pw_iload_n dL_isTask_16 rfl rfl ?_
    refine pw_bipush (v := 6) dL_isTask_17 (by decide) ?_
    refine pe_callVi dL_isTask_19 oX_X7_task lk_RL_32 (sp_x_task hT hA hA8 hn hn4 hW hKd) (tw_k hT) rfl rfl (Nat.le_of_ble_eq_true rfl) (by decide) ?_
    rw [task_6 hn hn4 ht, z5]
    refine pw_iconst (v := 2) dL_isTask_22 (by decide) ?_
    refine pw_aload_n dL_isTask_23 rfl rfl ?_
    refine pw_iload_n dL_isTask_24 rfl rfl ?_
    refine pw_iconst (v := 5) dL_isTask_25 (by decide) ?_
    refine pe_callVi dL_isTask_26 oX_X7_task lk_RL_32 (sp_x_task hT hA hA8 hn hn4 hW hKd) (tw_k hT) rfl rfl (Nat.le_of_ble_eq_true rfl) (by decide) ?_
    rw [task_5 hn hn4 ht, z4]
    refine pw_imul dL_isTask_29 ?_
    refine pw_iadd dL_isTask_30 ?_
    refine pw_bipush (v := 6) dL_isTask_31 (by decide) ?_
    refine pw_iadd dL_isTask_33 ?_
    rw [show (nI fr + 2 * nI hh + 6 : Int32) = nI (fr + 2 * hh + 6) from by show nI fr + nI 2 * nI hh + nI 6 = _; rw [pk_mul, nI_add, nI_add]]
    refine pw_istore dL_isTask_34 (by decide) rfl ?_
    refine pw_iload_n dL_isTask_36 rfl rfl ?_
    refine pw_if_lt (tgt := 91) dL_isTask_37 (by decide) (fun c_37 => absurd c_37 (by decide)) (fun c_37 => ?_)
    refine pw_iload_n dL_isTask_40 rfl rfl ?_
    refine pw_bipush (v := 7) dL_isTask_41 (by decide) ?_
    refine pw_icmp_ge (tgt := 91) dL_isTask_43 (by decide) (fun c_43 => absurd c_43 (by decide)) (fun c_43 => ?_)
    refine pw_aload_n dL_isTask_46 rfl rfl ?_
    refine pw_iload_n dL_isTask_47 rfl rfl ?_
    refine pw_bipush (v := 7) dL_isTask_48 (by decide) ?_
    refine pe_callVi dL_isTask_50 oX_X7_task lk_RL_32 (sp_x_task hT hA hA8 hn hn4 hW hKd) (tw_k hT) rfl rfl (Nat.le_of_ble_eq_true rfl) (by decide) ?_
    rw [task_7 hn hn4 ht, z6]
    refine pw_iload dL_isTask_53 rfl ?_
    refine pw_icmp_ne (tgt := 91) dL_isTask_55 (by decide) (fun c_55 => absurd rfl c_55) (fun c_55 => ?_)
    refine pw_aload_n dL_isTask_58 rfl rfl ?_
    refine pw_iload_n dL_isTask_59 rfl rfl ?_
    refine pw_bipush (v := 9) dL_isTask_60 (by decide) ?_
    refine pe_callVi dL_isTask_62 oX_X7_task lk_RL_32 (sp_x_task hT hA hA8 hn hn4 hW hKd) (tw_k hT) rfl rfl (Nat.le_of_ble_eq_true rfl) (by decide) ?_
    rw [task_9 hn hn4 ht, z7, if_neg (by decide)]
    refine pw_iconst (v := 1) dL_isTask_65 (by decide) ?_
    refine pw_icmp_lt (tgt := 73) dL_isTask_66 (by decide) (fun c_66 => ?_) (fun c_66 => absurd (by decide) c_66)
    refine pw_iconst (v := 0) dL_isTask_73 (by decide) ?_
    refine pw_iload_n dL_isTask_74 rfl rfl ?_
    refine pw_iconst (v := 2) dL_isTask_75 (by decide) ?_
    refine pw_icmp_ne (tgt := 83) dL_isTask_76 (by decide) (fun c_76 => ?_) (fun c_76 => absurd c_76 (by decide))
    refine pw_iconst (v := 0) dL_isTask_83 (by decide) ?_
    refine pw_icmp_ne (tgt := 91) dL_isTask_84 (by decide) (fun c_84 => absurd rfl c_84) (fun c_84 => ?_)
    refine pw_iconst (v := 1) dL_isTask_87 (by decide) ?_
    refine pw_goto (tgt := 92) dL_isTask_88 (by decide) ?_
    refine pw_istore dL_isTask_92 (by decide) rfl ?_
    refine pw_iload dL_isTask_94 rfl ?_
    refine pw_if_eq (tgt := 145) dL_isTask_96 (by decide) (fun c_96 => absurd c_96 (by decide)) (fun c_96 => ?_)
    refine pw_iload_n dL_isTask_99 rfl rfl ?_
    refine pw_if_lt (tgt := 107) dL_isTask_100 (by decide) (fun c_100 => ?_) (fun c_100 => absurd (by decide) c_100)
    refine pw_iconst (v := 0) dL_isTask_107 (by decide) ?_
    refine pw_iload_n dL_isTask_108 rfl rfl ?_
    refine pw_if_le (tgt := 121) dL_isTask_109 (by decide) (fun c_109 => absurd c_109 (by decide)) (fun c_109 => ?_)
    refine pw_iload_n dL_isTask_112 rfl rfl ?_
    refine pw_iconst (v := 5) dL_isTask_113 (by decide) ?_
    refine pw_icmp_ge (tgt := 121) dL_isTask_114 (by decide) (fun c_114 => ?_) (fun c_114 => absurd (by decide) c_114)
    refine pw_iconst (v := 0) dL_isTask_121 (by decide) ?_
    refine pw_icmp_ne (tgt := 145) dL_isTask_122 (by decide) (fun c_122 => absurd rfl c_122) (fun c_122 => ?_)
    refine pw_iload_n dL_isTask_125 rfl rfl ?_
    refine pw_iconst (v := 5) dL_isTask_126 (by decide) ?_
    refine pw_icmp_ne (tgt := 141) dL_isTask_127 (by decide) (fun c_127 => absurd (by decide) c_127) (fun c_127 => ?_)
    refine pw_aload_n dL_isTask_130 rfl rfl ?_
    refine pw_iload_n dL_isTask_131 rfl rfl ?_
    refine pw_bipush (v := 10) dL_isTask_132 (by decide) ?_
    refine pe_callVi dL_isTask_134 oX_X7_task lk_RL_32 (sp_x_task hT hA hA8 hn hn4 hW hKd) (tw_k hT) rfl rfl (Nat.le_of_ble_eq_true rfl) (by decide) ?_
    rw [task_10 hn hn4 ht, z10]
    refine pw_iconst (v := 3) dL_isTask_137 (by decide) ?_
    refine pw_icmp_lt (tgt := 145) dL_isTask_138 (by decide) (fun c_138 => absurd c_138 (nI_nlt (a := sl) (b := 3) (w1 rfl) (by omega))) (fun c_138 => ?_)
    refine pw_iconst (v := 1) dL_isTask_141 (by decide) ?_
    refine pw_goto (tgt := 146) dL_isTask_142 (by decide) ?_
    refine pw_istore dL_isTask_146 (by decide) rfl ?_
    refine pw_iload dL_isTask_148 rfl ?_
    refine pw_if_eq (tgt := 180) dL_isTask_150 (by decide) (fun c_150 => absurd c_150 (by decide)) (fun c_150 => ?_)
    refine pw_iload_n dL_isTask_153 rfl rfl ?_
    refine pw_if_lt (tgt := 176) dL_isTask_154 (by decide) (fun c_154 => ?_) (fun c_154 => absurd (by decide) c_154)
    refine pw_iconst (v := 1) dL_isTask_176 (by decide) ?_
    refine pw_goto (tgt := 181) dL_isTask_177 (by decide) ?_
    refine pw_istore dL_isTask_181 (by decide) rfl ?_
    refine pw_iload dL_isTask_183 rfl ?_
    refine pw_if_eq (tgt := 245) dL_isTask_185 (by decide) (fun c_185 => absurd c_185 (by decide)) (fun c_185 => ?_)
    refine pw_iload_n dL_isTask_188 rfl rfl ?_
    refine pw_iconst (v := 2) dL_isTask_189 (by decide) ?_
    refine pw_icmp_ne (tgt := 241) dL_isTask_190 (by decide) (fun c_190 => ?_) (fun c_190 => absurd c_190 (by decide))
    refine pw_iconst (v := 1) dL_isTask_241 (by decide) ?_
    refine pw_goto (tgt := 246) dL_isTask_242 (by decide) ?_
    exact pw_zret dL_isTask_246 rfl (by first | rfl | decide) ⟨rfl, rfl, rfl, rfl⟩
  · have ec := w4 (by decide)
    refine PE.of oP_L_isTask (catOK rfl) (Nat.le_of_ble_eq_true rfl) ?_
    show PW _ _ _ 0 [.ref x, .int (nI t), pJ, pJ, pJ, pJ] [] _ _ _ _
    refine pw_aload_n dL_isTask_0 rfl rfl ?_
    refine pw_iload_n dL_isTask_1 rfl rfl ?_
    refine pw_iconst (v := 1) dL_isTask_2 (by decide) ?_
    refine pe_callVi dL_isTask_3 oX_X7_task lk_RL_32 (sp_x_task hT hA hA8 hn hn4 hW hKd) (tw_k hT) rfl rfl (Nat.le_of_ble_eq_true rfl) (by decide) ?_
    rw [task_1 hn hn4 ht, z7]
    refine pw_istore_n dL_isTask_6 rfl (by decide) rfl ?_
    refine pw_aload_n dL_isTask_7 rfl rfl ?_
    refine pw_iload_n dL_isTask_8 rfl rfl ?_
    refine pw_bipush (v := 8) dL_isTask_9 (by decide) ?_
    refine pe_callVi dL_isTask_11 oX_X7_task lk_RL_32 (sp_x_task hT hA hA8 hn hn4 hW hKd) (tw_k hT) rfl rfl (Nat.le_of_ble_eq_true rfl) (by decide) ?_
    rw [task_8 hn hn4 ht, ec]
    refine pw_istore_n dL_isTask_14 rfl (by decide) rfl ?_
    refine pw_aload_n dL_isTask_15 rfl rfl ?_
    refine pw_iload_n dL_isTask_16 rfl rfl ?_
    refine pw_bipush (v := 6) dL_isTask_17 (by decide) ?_
    refine pe_callVi dL_isTask_19 oX_X7_task lk_RL_32 (sp_x_task hT hA hA8 hn hn4 hW hKd) (tw_k hT) rfl rfl (Nat.le_of_ble_eq_true rfl) (by decide) ?_
    rw [task_6 hn hn4 ht, z5]
    refine pw_iconst (v := 2) dL_isTask_22 (by decide) ?_
    refine pw_aload_n dL_isTask_23 rfl rfl ?_
    refine pw_iload_n dL_isTask_24 rfl rfl ?_
    refine pw_iconst (v := 5) dL_isTask_25 (by decide) ?_
    refine pe_callVi dL_isTask_26 oX_X7_task lk_RL_32 (sp_x_task hT hA hA8 hn hn4 hW hKd) (tw_k hT) rfl rfl (Nat.le_of_ble_eq_true rfl) (by decide) ?_
    rw [task_5 hn hn4 ht, z4]
    refine pw_imul dL_isTask_29 ?_
    refine pw_iadd dL_isTask_30 ?_
    refine pw_bipush (v := 6) dL_isTask_31 (by decide) ?_
    refine pw_iadd dL_isTask_33 ?_
    rw [show (nI fr + 2 * nI hh + 6 : Int32) = nI (fr + 2 * hh + 6) from by show nI fr + nI 2 * nI hh + nI 6 = _; rw [pk_mul, nI_add, nI_add]]
    refine pw_istore dL_isTask_34 (by decide) rfl ?_
    refine pw_iload_n dL_isTask_36 rfl rfl ?_
    refine pw_if_lt (tgt := 91) dL_isTask_37 (by decide) (fun c_37 => absurd c_37 (by decide)) (fun c_37 => ?_)
    refine pw_iload_n dL_isTask_40 rfl rfl ?_
    refine pw_bipush (v := 7) dL_isTask_41 (by decide) ?_
    refine pw_icmp_ge (tgt := 91) dL_isTask_43 (by decide) (fun c_43 => absurd c_43 (by decide)) (fun c_43 => ?_)
    refine pw_aload_n dL_isTask_46 rfl rfl ?_
    refine pw_iload_n dL_isTask_47 rfl rfl ?_
    refine pw_bipush (v := 7) dL_isTask_48 (by decide) ?_
    refine pe_callVi dL_isTask_50 oX_X7_task lk_RL_32 (sp_x_task hT hA hA8 hn hn4 hW hKd) (tw_k hT) rfl rfl (Nat.le_of_ble_eq_true rfl) (by decide) ?_
    rw [task_7 hn hn4 ht, z6]
    refine pw_iload dL_isTask_53 rfl ?_
    refine pw_icmp_ne (tgt := 91) dL_isTask_55 (by decide) (fun c_55 => absurd rfl c_55) (fun c_55 => ?_)
    refine pw_aload_n dL_isTask_58 rfl rfl ?_
    refine pw_iload_n dL_isTask_59 rfl rfl ?_
    refine pw_bipush (v := 9) dL_isTask_60 (by decide) ?_
    refine pe_callVi dL_isTask_62 oX_X7_task lk_RL_32 (sp_x_task hT hA hA8 hn hn4 hW hKd) (tw_k hT) rfl rfl (Nat.le_of_ble_eq_true rfl) (by decide) ?_
    rw [task_9 hn hn4 ht, z7, if_neg (by decide)]
    refine pw_iconst (v := 1) dL_isTask_65 (by decide) ?_
    refine pw_icmp_lt (tgt := 73) dL_isTask_66 (by decide) (fun c_66 => ?_) (fun c_66 => absurd (by decide) c_66)
    refine pw_iconst (v := 0) dL_isTask_73 (by decide) ?_
    refine pw_iload_n dL_isTask_74 rfl rfl ?_
    refine pw_iconst (v := 2) dL_isTask_75 (by decide) ?_
    refine pw_icmp_ne (tgt := 83) dL_isTask_76 (by decide) (fun c_76 => ?_) (fun c_76 => absurd c_76 (by decide))
    refine pw_iconst (v := 0) dL_isTask_83 (by decide) ?_
    refine pw_icmp_ne (tgt := 91) dL_isTask_84 (by decide) (fun c_84 => absurd rfl c_84) (fun c_84 => ?_)
    refine pw_iconst (v := 1) dL_isTask_87 (by decide) ?_
    refine pw_goto (tgt := 92) dL_isTask_88 (by decide) ?_
    refine pw_istore dL_isTask_92 (by decide) rfl ?_
    refine pw_iload dL_isTask_94 rfl ?_
    refine pw_if_eq (tgt := 145) dL_isTask_96 (by decide) (fun c_96 => absurd c_96 (by decide)) (fun c_96 => ?_)
    refine pw_iload_n dL_isTask_99 rfl rfl ?_
    refine pw_if_lt (tgt := 107) dL_isTask_100 (by decide) (fun c_100 => ?_) (fun c_100 => absurd (by decide) c_100)
    refine pw_iconst (v := 0) dL_isTask_107 (by decide) ?_
    refine pw_iload_n dL_isTask_108 rfl rfl ?_
    refine pw_if_le (tgt := 121) dL_isTask_109 (by decide) (fun c_109 => absurd c_109 (by decide)) (fun c_109 => ?_)
    refine pw_iload_n dL_isTask_112 rfl rfl ?_
    refine pw_iconst (v := 5) dL_isTask_113 (by decide) ?_
    refine pw_icmp_ge (tgt := 121) dL_isTask_114 (by decide) (fun c_114 => ?_) (fun c_114 => absurd (by decide) c_114)
    refine pw_iconst (v := 0) dL_isTask_121 (by decide) ?_
    refine pw_icmp_ne (tgt := 145) dL_isTask_122 (by decide) (fun c_122 => absurd rfl c_122) (fun c_122 => ?_)
    refine pw_iload_n dL_isTask_125 rfl rfl ?_
    refine pw_iconst (v := 5) dL_isTask_126 (by decide) ?_
    refine pw_icmp_ne (tgt := 141) dL_isTask_127 (by decide) (fun c_127 => ?_) (fun c_127 => absurd c_127 (by decide))
    refine pw_iconst (v := 1) dL_isTask_141 (by decide) ?_
    refine pw_goto (tgt := 146) dL_isTask_142 (by decide) ?_
    refine pw_istore dL_isTask_146 (by decide) rfl ?_
    refine pw_iload dL_isTask_148 rfl ?_
    refine pw_if_eq (tgt := 180) dL_isTask_150 (by decide) (fun c_150 => absurd c_150 (by decide)) (fun c_150 => ?_)
    refine pw_iload_n dL_isTask_153 rfl rfl ?_
    refine pw_if_lt (tgt := 176) dL_isTask_154 (by decide) (fun c_154 => ?_) (fun c_154 => absurd (by decide) c_154)
    refine pw_iconst (v := 1) dL_isTask_176 (by decide) ?_
    refine pw_goto (tgt := 181) dL_isTask_177 (by decide) ?_
    refine pw_istore dL_isTask_181 (by decide) rfl ?_
    refine pw_iload dL_isTask_183 rfl ?_
    refine pw_if_eq (tgt := 245) dL_isTask_185 (by decide) (fun c_185 => absurd c_185 (by decide)) (fun c_185 => ?_)
    refine pw_iload_n dL_isTask_188 rfl rfl ?_
    refine pw_iconst (v := 2) dL_isTask_189 (by decide) ?_
    refine pw_icmp_ne (tgt := 241) dL_isTask_190 (by decide) (fun c_190 => ?_) (fun c_190 => absurd c_190 (by decide))
    refine pw_iconst (v := 1) dL_isTask_241 (by decide) ?_
    refine pw_goto (tgt := 246) dL_isTask_242 (by decide) ?_
    exact pw_zret dL_isTask_246 rfl (by first | rfl | decide) ⟨rfl, rfl, rfl, rfl⟩
