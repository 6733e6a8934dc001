/-! THE LAW'S SMALL METHODS -/
def upV (x m : Int32) : Int32 := (x &&& 2147483647) - (x &&& 2147483647) / m * m
def lmv (v : Int64) (r : Int32) : Int64 := 31 * v + r.toInt64
def fI (f : Nat → Int32) : Nat → Int64 → Int64
  | 0, v => v
  | k + 1, v => lmv (fI f k v) (f k)
def fO (g : Nat → Int64 → Int64) : Nat → Int64 → Int64
  | 0, v => v
  | k + 1, v => g k (fO g k v)
def vwC (I : pI) (x nA n : Nat) : Int64 := fI (fun k => countV I x nA n (nI k)) 15 7
def vwA (I : pI) (F : pF) (x n a : Nat) (v : Int64) : Int64 := lmv (fI (fun p => tagAtV I (x + 1) n (nI a) (nI p)) (tagsC I (x + 1) n (nI a)) (fI (fun k => assetV I F (x + 1) n (nI a) (nI k)) 8 v)) (hoursToV F I (x + 1) (nI a) 60)
def vwK (I : pI) (x n c : Nat) (v : Int64) : Int64 := fI (fun k => crewV I (x + 1) n (nI c) (nI k)) 5 v
def vwT (I : pI) (x n t : Nat) (v : Int64) : Int64 := fI (fun k => taskV I (x + 1) n (nI t) (nI k)) 13 v
def viewV (I : pI) (F : pF) (x nA nC n : Nat) : Int64 := fO (vwT I x n) n (fO (vwK I x n) nC (fO (vwA I F x n) nA (vwC I x nA n)))
theorem count_0 {I : pI} {x nA n : Nat} : countV I x nA n 0 = I (x + 1) 7 := swV_in (k := 0) (by show 0 < 17; decide) (by show 17 < 100; decide)
theorem count_1 {I : pI} {x nA n : Nat} : countV I x nA n 1 = I (x + 1) 4 := swV_in (k := 1) (by show 1 < 17; decide) (by show 17 < 100; decide)
theorem count_3 {I : pI} {x nA n : Nat} : countV I x nA n 3 = I (x + 1) 5 := swV_in (k := 3) (by show 3 < 17; decide) (by show 17 < 100; decide)
theorem count_4 {I : pI} {x nA n : Nat} : countV I x nA n 4 = I (x + 1) 6 := swV_in (k := 4) (by show 4 < 17; decide) (by show 17 < 100; decide)
theorem count_13 {I : pI} {x nA n : Nat} : countV I x nA n 13 = slipsC I (x + 1) n := swV_in (k := 13) (by show 13 < 17; decide) (by show 17 < 100; decide)
theorem count_14 {I : pI} {x nA n : Nat} : countV I x nA n 14 = allBusyC I (x + 1) n := swV_in (k := 14) (by show 14 < 17; decide) (by show 17 < 100; decide)
theorem count_15 {I : pI} {x nA n : Nat} : countV I x nA n 15 = I (x + 127) 2 := swV_in (k := 15) (by show 15 < 17; decide) (by show 17 < 100; decide)
theorem has_p {y : Int32} {t n : Nat} (hx : y = nI n) (ht : t < n) (hn : n < 2 ^ 31) : 0 ≤ nI t ∧ nI t < y := of_decide_eq_true (has_t hx ht hn)
theorem asset_1 {I : pI} {F : pF} {p n a nA : Nat} (hA : I p 4 = nI nA) (ha : a < nA) (hA8 : nA ≤ 8) : assetV I F p n (nI a) 1 = nI (tagsC I p n (nI a)) := by
  unfold assetV
  rw [if_pos (has_p hA ha (by omega))]
  exact swV_in (k := 1) (by show 1 < 8; decide) (by show 8 < 100; decide)

theorem sp_up {σ : pT} {I : pI} {F : pF} {a m : Int32} (hm : ¬ m = 0) : PE yL_up cL_up mL_up [.int a, .int m] σ I F (some (.int (upV a m))) I F := by
  refine PE.of oP_L_up (catOK rfl) (Nat.le_of_ble_eq_true rfl) ?_
  show PW _ _ _ 0 [.int a, .int m] [] _ _ _ _
  refine pw_iload_n dL_up_0 rfl rfl ?_
  refine pw_ldci dL_up_1 kc_RL_8 ?_
  refine pw_iand dL_up_3 ?_
  refine pw_iload_n dL_up_4 rfl rfl ?_
  refine pw_irem dL_up_5 hm ?_
  exact pw_iret dL_up_6 rfl ⟨rfl, rfl, rfl, rfl⟩
theorem sp_cell {σ : pT} {I : pI} {F : pF} {L k : Nat} (hL : (σ.2.1 0).2 = L) (hL9 : L < 2 ^ 31) (hk : k < L) : PE yL_cell cL_cell mL_cell [.ref 0, .int (nI k)] σ I F (some (.int (I 0 k))) I F := by
  refine PE.of oP_L_cell (catOK rfl) (Nat.le_of_ble_eq_true rfl) ?_
  show PW _ _ _ 0 [.ref 0, .int (nI k)] [] _ _ _ _
  refine pw_iload_n dL_cell_0 rfl rfl ?_
  refine pw_aload_n dL_cell_1 rfl rfl ?_
  refine pw_slen dL_cell_2 hL ?_
  refine pw_icmp_ge (tgt := 12) dL_cell_3 (by decide) (fun c => absurd c (nI_ge hk hL9)) (fun c => ?_)
  refine pw_aload_n dL_cell_6 rfl rfl ?_
  refine pw_iload_n dL_cell_7 rfl rfl ?_
  refine pw_saldN (j := k) dL_cell_8 hL (by omega) (by omega) ?_
  refine pw_goto (tgt := 18) dL_cell_9 (by decide) ?_
  exact pw_iret dL_cell_18 rfl ⟨rfl, rfl, rfl, rfl⟩

theorem vl_inT {Z : pZ} {σ : pT} {I : pI} {F : pF} {x nA nC n : Nat} (hT : isTW σ x) (hA : I (x + 1) 4 = nI nA) (hA8 : nA ≤ 8) (hC : I (x + 1) 5 = nI nC) (hC5 : nC ≤ 5) (hn : I (x + 1) 6 = nI n) (hn4 : n ≤ 24) (hW : ∀ t, t < n → ∃ a, a < nA ∧ I (x + 1 + 18 + t) 0 = nI a) (hKd : ∀ t, t < n → ∃ k, k < 5 ∧ I (x + 1 + 18 + t) 3 = nI k) {t : Nat} {v : Int64} (kk : PW cL_view mL_view Z 218 [.ref x, .long (fI (fun k => taskV I (x + 1) n (nI t) (nI k)) 13 v), pJ, .int (nI t), .int (nI 13)] [] σ I F (0, 0)) : ∀ k, k ≤ 13 → PW cL_view mL_view Z 190 [.ref x, .long (fI (fun k => taskV I (x + 1) n (nI t) (nI k)) k v), pJ, .int (nI t), .int (nI k)] [] σ I F (0, 0) := by
  refine dn (fun k => PW cL_view mL_view Z 190 [.ref x, .long (fI (fun k => taskV I (x + 1) n (nI t) (nI k)) k v), pJ, .int (nI t), .int (nI k)] [] σ I F (0, 0)) 13 ?_ ?_
  · refine pw_iload dL_view_190 rfl ?_
    refine pw_bipush (v := 13) dL_view_192 (by decide) ?_
    refine pw_icmp_ge (tgt := 218) dL_view_194 (by decide) (fun c_194 => ?_) (fun c_194 => absurd (by decide) c_194)
    exact kk
  · intro k hlt ih
    refine pw_iload dL_view_190 rfl ?_
    refine pw_bipush (v := 13) dL_view_192 (by decide) ?_
    refine pw_icmp_ge (tgt := 218) dL_view_194 (by decide) (fun c_194 => absurd c_194 (nI_ge (a := k) (b := 13) hlt (by decide))) (fun c_194 => ?_)
    refine pw_ldc2 dL_view_197 kc_RL_11 ?_
    refine pw_lload_n dL_view_200 rfl rfl ?_
    refine pw_lmul dL_view_201 ?_
    refine pw_aload_n dL_view_202 rfl rfl ?_
    refine pw_iload_n dL_view_203 rfl rfl ?_
    refine pw_iload dL_view_204 rfl ?_
    refine pe_callVi dL_view_206 oX_X7_task lk_RL_32 (sp_x_task hT hA hA8 hn hn4 hW hKd) (tw_k hT) rfl rfl (Nat.le_of_ble_eq_true rfl) (by decide) ?_
    refine pw_i2l dL_view_209 ?_
    refine pw_ladd dL_view_210 ?_
    refine pw_lstore_n dL_view_211 rfl (by decide) rfl ?_
    refine pw_iinc (v := nI (k + 1)) dL_view_212 rfl (nI_add _ _) rfl ?_
    refine pw_goto (tgt := 190) dL_view_215 (by decide) ?_
    exact ih

theorem vl_inK {Z : pZ} {σ : pT} {I : pI} {F : pF} {x nA nC n : Nat} (hT : isTW σ x) (hA : I (x + 1) 4 = nI nA) (hA8 : nA ≤ 8) (hC : I (x + 1) 5 = nI nC) (hC5 : nC ≤ 5) (hn : I (x + 1) 6 = nI n) (hn4 : n ≤ 24) (hW : ∀ t, t < n → ∃ a, a < nA ∧ I (x + 1 + 18 + t) 0 = nI a) (hKd : ∀ t, t < n → ∃ k, k < 5 ∧ I (x + 1 + 18 + t) 3 = nI k) {c : Nat} {v : Int64} (kk : PW cL_view mL_view Z 170 [.ref x, .long (fI (fun k => crewV I (x + 1) n (nI c) (nI k)) 5 v), pJ, .int (nI c), .int (nI 5)] [] σ I F (0, 0)) : ∀ k, k ≤ 5 → PW cL_view mL_view Z 143 [.ref x, .long (fI (fun k => crewV I (x + 1) n (nI c) (nI k)) k v), pJ, .int (nI c), .int (nI k)] [] σ I F (0, 0) := by
  refine dn (fun k => PW cL_view mL_view Z 143 [.ref x, .long (fI (fun k => crewV I (x + 1) n (nI c) (nI k)) k v), pJ, .int (nI c), .int (nI k)] [] σ I F (0, 0)) 5 ?_ ?_
  · refine pw_iload dL_view_143 rfl ?_
    refine pw_iconst (v := 5) dL_view_145 (by decide) ?_
    refine pw_icmp_ge (tgt := 170) dL_view_146 (by decide) (fun c_146 => ?_) (fun c_146 => absurd (by decide) c_146)
    exact kk
  · intro k hlt ih
    refine pw_iload dL_view_143 rfl ?_
    refine pw_iconst (v := 5) dL_view_145 (by decide) ?_
    refine pw_icmp_ge (tgt := 170) dL_view_146 (by decide) (fun c_146 => absurd c_146 (nI_ge (a := k) (b := 5) hlt (by decide))) (fun c_146 => ?_)
    refine pw_ldc2 dL_view_149 kc_RL_11 ?_
    refine pw_lload_n dL_view_152 rfl rfl ?_
    refine pw_lmul dL_view_153 ?_
    refine pw_aload_n dL_view_154 rfl rfl ?_
    refine pw_iload_n dL_view_155 rfl rfl ?_
    refine pw_iload dL_view_156 rfl ?_
    refine pe_callVi dL_view_158 oX_X7_crew lk_RL_29 (sp_x_crew hT hC hC5 hn hn4) (tw_k hT) rfl rfl (Nat.le_of_ble_eq_true rfl) (by decide) ?_
    refine pw_i2l dL_view_161 ?_
    refine pw_ladd dL_view_162 ?_
    refine pw_lstore_n dL_view_163 rfl (by decide) rfl ?_
    refine pw_iinc (v := nI (k + 1)) dL_view_164 rfl (nI_add _ _) rfl ?_
    refine pw_goto (tgt := 143) dL_view_167 (by decide) ?_
    exact ih

theorem vl_inA {Z : pZ} {σ : pT} {I : pI} {F : pF} {x nA nC n : Nat} (hT : isTW σ x) (hA : I (x + 1) 4 = nI nA) (hA8 : nA ≤ 8) (hC : I (x + 1) 5 = nI nC) (hC5 : nC ≤ 5) (hn : I (x + 1) 6 = nI n) (hn4 : n ≤ 24) (hW : ∀ t, t < n → ∃ a, a < nA ∧ I (x + 1 + 18 + t) 0 = nI a) (hKd : ∀ t, t < n → ∃ k, k < 5 ∧ I (x + 1 + 18 + t) 3 = nI k) {a : Nat} {v : Int64} (kk : PW cL_view mL_view Z 73 [.ref x, .long (fI (fun k => assetV I F (x + 1) n (nI a) (nI k)) 8 v), pJ, .int (nI a), .int (nI 8)] [] σ I F (0, 0)) : ∀ k, k ≤ 8 → PW cL_view mL_view Z 45 [.ref x, .long (fI (fun k => assetV I F (x + 1) n (nI a) (nI k)) k v), pJ, .int (nI a), .int (nI k)] [] σ I F (0, 0) := by
  refine dn (fun k => PW cL_view mL_view Z 45 [.ref x, .long (fI (fun k => assetV I F (x + 1) n (nI a) (nI k)) k v), pJ, .int (nI a), .int (nI k)] [] σ I F (0, 0)) 8 ?_ ?_
  · refine pw_iload dL_view_45 rfl ?_
    refine pw_bipush (v := 8) dL_view_47 (by decide) ?_
    refine pw_icmp_ge (tgt := 73) dL_view_49 (by decide) (fun c_49 => ?_) (fun c_49 => absurd (by decide) c_49)
    exact kk
  · intro k hlt ih
    refine pw_iload dL_view_45 rfl ?_
    refine pw_bipush (v := 8) dL_view_47 (by decide) ?_
    refine pw_icmp_ge (tgt := 73) dL_view_49 (by decide) (fun c_49 => absurd c_49 (nI_ge (a := k) (b := 8) hlt (by decide))) (fun c_49 => ?_)
    refine pw_ldc2 dL_view_52 kc_RL_11 ?_
    refine pw_lload_n dL_view_55 rfl rfl ?_
    refine pw_lmul dL_view_56 ?_
    refine pw_aload_n dL_view_57 rfl rfl ?_
    refine pw_iload_n dL_view_58 rfl rfl ?_
    refine pw_iload dL_view_59 rfl ?_
    refine pe_callVi dL_view_61 oX_X7_asset lk_RL_19 (sp_x_asset hT hA hA8 hn hn4) (tw_k hT) rfl rfl (Nat.le_of_ble_eq_true rfl) (by decide) ?_
    refine pw_i2l dL_view_64 ?_
    refine pw_ladd dL_view_65 ?_
    refine pw_lstore_n dL_view_66 rfl (by decide) rfl ?_
    refine pw_iinc (v := nI (k + 1)) dL_view_67 rfl (nI_add _ _) rfl ?_
    refine pw_goto (tgt := 45) dL_view_70 (by decide) ?_
    exact ih

theorem vl_inP {Z : pZ} {σ : pT} {I : pI} {F : pF} {x nA nC n : Nat} (hT : isTW σ x) (hA : I (x + 1) 4 = nI nA) (hA8 : nA ≤ 8) (hC : I (x + 1) 5 = nI nC) (hC5 : nC ≤ 5) (hn : I (x + 1) 6 = nI n) (hn4 : n ≤ 24) (hW : ∀ t, t < n → ∃ a, a < nA ∧ I (x + 1 + 18 + t) 0 = nI a) (hKd : ∀ t, t < n → ∃ k, k < 5 ∧ I (x + 1 + 18 + t) 3 = nI k) {a : Nat} {v : Int64} (hk : a < nA) (kk : PW cL_view mL_view Z 108 [.ref x, .long (fI (fun p => tagAtV I (x + 1) n (nI a) (nI p)) (tagsC I (x + 1) n (nI a)) v), pJ, .int (nI a), .int (nI (tagsC I (x + 1) n (nI a)))] [] σ I F (0, 0)) : ∀ k, k ≤ (tagsC I (x + 1) n (nI a)) → PW cL_view mL_view Z 76 [.ref x, .long (fI (fun p => tagAtV I (x + 1) n (nI a) (nI p)) k v), pJ, .int (nI a), .int (nI k)] [] σ I F (0, 0) := by
  have tl := tags_le (I := I) (p := x + 1) (n := n) (a := nI a)
  refine dn (fun k => PW cL_view mL_view Z 76 [.ref x, .long (fI (fun p => tagAtV I (x + 1) n (nI a) (nI p)) k v), pJ, .int (nI a), .int (nI k)] [] σ I F (0, 0)) (tagsC I (x + 1) n (nI a)) ?_ ?_
  · refine pw_iload dL_view_76 rfl ?_
    refine pw_aload_n dL_view_78 rfl rfl ?_
    refine pw_iload_n dL_view_79 rfl rfl ?_
    refine pw_iconst (v := 1) dL_view_80 (by decide) ?_
    refine pe_callVi dL_view_81 oX_X7_asset lk_RL_19 (sp_x_asset hT hA hA8 hn hn4) (tw_k hT) rfl rfl (Nat.le_of_ble_eq_true rfl) (by decide) ?_
    rw [asset_1 hA hk hA8]
    refine pw_icmp_ge (tgt := 108) dL_view_84 (by decide) (fun c_84 => ?_) (fun c_84 => absurd (Int32.le_refl _) c_84)
    exact kk
  · intro k hlt ih
    refine pw_iload dL_view_76 rfl ?_
    refine pw_aload_n dL_view_78 rfl rfl ?_
    refine pw_iload_n dL_view_79 rfl rfl ?_
    refine pw_iconst (v := 1) dL_view_80 (by decide) ?_
    refine pe_callVi dL_view_81 oX_X7_asset lk_RL_19 (sp_x_asset hT hA hA8 hn hn4) (tw_k hT) rfl rfl (Nat.le_of_ble_eq_true rfl) (by decide) ?_
    rw [asset_1 hA hk hA8]
    refine pw_icmp_ge (tgt := 108) dL_view_84 (by decide) (fun c_84 => absurd c_84 (nI_ge hlt (by omega))) (fun c_84 => ?_)
    refine pw_ldc2 dL_view_87 kc_RL_11 ?_
    refine pw_lload_n dL_view_90 rfl rfl ?_
    refine pw_lmul dL_view_91 ?_
    refine pw_aload_n dL_view_92 rfl rfl ?_
    refine pw_iload_n dL_view_93 rfl rfl ?_
    refine pw_iload dL_view_94 rfl ?_
    refine pe_callVi dL_view_96 oX_X7_tagAt lk_RL_23 (sp_x_tagAt hT hA hA8 hn hn4) (tw_k hT) rfl rfl (Nat.le_of_ble_eq_true rfl) (by decide) ?_
    refine pw_i2l dL_view_99 ?_
    refine pw_ladd dL_view_100 ?_
    refine pw_lstore_n dL_view_101 rfl (by decide) rfl ?_
    refine pw_iinc (v := nI (k + 1)) dL_view_102 rfl (nI_add _ _) rfl ?_
    refine pw_goto (tgt := 76) dL_view_105 (by decide) ?_
    exact ih

theorem vl_outT {Z : pZ} {σ : pT} {I : pI} {F : pF} {x nA nC n : Nat} (hT : isTW σ x) (hA : I (x + 1) 4 = nI nA) (hA8 : nA ≤ 8) (hC : I (x + 1) 5 = nI nC) (hC5 : nC ≤ 5) (hn : I (x + 1) 6 = nI n) (hn4 : n ≤ 24) (hW : ∀ t, t < n → ∃ a, a < nA ∧ I (x + 1 + 18 + t) 0 = nI a) (hKd : ∀ t, t < n → ∃ k, k < 5 ∧ I (x + 1 + 18 + t) 3 = nI k) {v : Int64} (kk : PW cL_view mL_view Z 224 [.ref x, .long (fO (vwT I x n) n v), pJ, .int (nI n), pJ] [] σ I F (0, 0)) : ∀ k, k ≤ n → PW cL_view mL_view Z 178 [.ref x, .long (fO (vwT I x n) k v), pJ, .int (nI k), pJ] [] σ I F (0, 0) := by
  refine dn (fun k => PW cL_view mL_view Z 178 [.ref x, .long (fO (vwT I x n) k v), pJ, .int (nI k), pJ] [] σ I F (0, 0)) n ?_ ?_
  · refine pw_iload_n dL_view_178 rfl rfl ?_
    refine pw_aload_n dL_view_179 rfl rfl ?_
    refine pw_iconst (v := 4) dL_view_180 (by decide) ?_
    refine pe_callVi dL_view_181 oX_X7_count lk_RL_13 (sp_x_count hT hA hA8 hn hn4) (tw_k hT) rfl rfl (Nat.le_of_ble_eq_true rfl) (by decide) ?_
    rw [count_4, hn]
    refine pw_icmp_ge (tgt := 224) dL_view_184 (by decide) (fun c_184 => ?_) (fun c_184 => absurd (Int32.le_refl _) c_184)
    exact kk
  · intro k hk ih
    refine pw_iload_n dL_view_178 rfl rfl ?_
    refine pw_aload_n dL_view_179 rfl rfl ?_
    refine pw_iconst (v := 4) dL_view_180 (by decide) ?_
    refine pe_callVi dL_view_181 oX_X7_count lk_RL_13 (sp_x_count hT hA hA8 hn hn4) (tw_k hT) rfl rfl (Nat.le_of_ble_eq_true rfl) (by decide) ?_
    rw [count_4, hn]
    refine pw_icmp_ge (tgt := 224) dL_view_184 (by decide) (fun c_184 => absurd c_184 (nI_ge hk (by omega))) (fun c_184 => ?_)
    refine pw_iconst (v := 0) dL_view_187 (by decide) ?_
    refine pw_istore dL_view_188 (by decide) rfl ?_
    rw [fO, vwT] at ih
    refine vl_inT hT hA hA8 hC hC5 hn hn4 hW hKd ?_ 0 (Nat.zero_le _)
    refine pw_iinc (v := nI (k + 1)) dL_view_218 rfl (nI_add _ _) rfl ?_
    refine pw_goto (tgt := 178) dL_view_221 (by decide) ?_
    exact pw_weak (ls' := [.ref x, .long _, pJ, .int _, pJ]) rfl (wk_same (wk_same (wk_same (wk_same (wk_drop wk_nil))))) ih

theorem vl_zT {Z : pZ} {σ : pT} {I : pI} {F : pF} {x nA nC n : Nat} (hT : isTW σ x) (hA : I (x + 1) 4 = nI nA) (hA8 : nA ≤ 8) (hC : I (x + 1) 5 = nI nC) (hC5 : nC ≤ 5) (hn : I (x + 1) 6 = nI n) (hn4 : n ≤ 24) (hW : ∀ t, t < n → ∃ a, a < nA ∧ I (x + 1 + 18 + t) 0 = nI a) (hKd : ∀ t, t < n → ∃ k, k < 5 ∧ I (x + 1 + 18 + t) 3 = nI k) {v : Int64} (kk : PW cL_view mL_view Z 224 [.ref x, .long (fO (vwT I x n) n v), pJ, .int (nI n), pJ] [] σ I F (0, 0)) : PW cL_view mL_view Z 178 [.ref x, .long v, pJ, .int (nI 0), pJ] [] σ I F (0, 0) := by
  have h := vl_outT hT hA hA8 hC hC5 hn hn4 hW hKd kk 0 (Nat.zero_le _)
  rw [fO] at h
  exact h

theorem vl_outK {Z : pZ} {σ : pT} {I : pI} {F : pF} {x nA nC n : Nat} (hT : isTW σ x) (hA : I (x + 1) 4 = nI nA) (hA8 : nA ≤ 8) (hC : I (x + 1) 5 = nI nC) (hC5 : nC ≤ 5) (hn : I (x + 1) 6 = nI n) (hn4 : n ≤ 24) (hW : ∀ t, t < n → ∃ a, a < nA ∧ I (x + 1 + 18 + t) 0 = nI a) (hKd : ∀ t, t < n → ∃ k, k < 5 ∧ I (x + 1 + 18 + t) 3 = nI k) {v : Int64} (kk : PW cL_view mL_view Z 176 [.ref x, .long (fO (vwK I x n) nC v), pJ, .int (nI nC), pJ] [] σ I F (0, 0)) : ∀ k, k ≤ nC → PW cL_view mL_view Z 131 [.ref x, .long (fO (vwK I x n) k v), pJ, .int (nI k), pJ] [] σ I F (0, 0) := by
  refine dn (fun k => PW cL_view mL_view Z 131 [.ref x, .long (fO (vwK I x n) k v), pJ, .int (nI k), pJ] [] σ I F (0, 0)) nC ?_ ?_
  · refine pw_iload_n dL_view_131 rfl rfl ?_
    refine pw_aload_n dL_view_132 rfl rfl ?_
    refine pw_iconst (v := 3) dL_view_133 (by decide) ?_
    refine pe_callVi dL_view_134 oX_X7_count lk_RL_13 (sp_x_count hT hA hA8 hn hn4) (tw_k hT) rfl rfl (Nat.le_of_ble_eq_true rfl) (by decide) ?_
    rw [count_3, hC]
    refine pw_icmp_ge (tgt := 176) dL_view_137 (by decide) (fun c_137 => ?_) (fun c_137 => absurd (Int32.le_refl _) c_137)
    exact kk
  · intro k hk ih
    refine pw_iload_n dL_view_131 rfl rfl ?_
    refine pw_aload_n dL_view_132 rfl rfl ?_
    refine pw_iconst (v := 3) dL_view_133 (by decide) ?_
    refine pe_callVi dL_view_134 oX_X7_count lk_RL_13 (sp_x_count hT hA hA8 hn hn4) (tw_k hT) rfl rfl (Nat.le_of_ble_eq_true rfl) (by decide) ?_
    rw [count_3, hC]
    refine pw_icmp_ge (tgt := 176) dL_view_137 (by decide) (fun c_137 => absurd c_137 (nI_ge hk (by omega))) (fun c_137 => ?_)
    refine pw_iconst (v := 0) dL_view_140 (by decide) ?_
    refine pw_istore dL_view_141 (by decide) rfl ?_
    rw [fO, vwK] at ih
    refine vl_inK hT hA hA8 hC hC5 hn hn4 hW hKd ?_ 0 (Nat.zero_le _)
    refine pw_iinc (v := nI (k + 1)) dL_view_170 rfl (nI_add _ _) rfl ?_
    refine pw_goto (tgt := 131) dL_view_173 (by decide) ?_
    exact pw_weak (ls' := [.ref x, .long _, pJ, .int _, pJ]) rfl (wk_same (wk_same (wk_same (wk_same (wk_drop wk_nil))))) ih

theorem vl_zK {Z : pZ} {σ : pT} {I : pI} {F : pF} {x nA nC n : Nat} (hT : isTW σ x) (hA : I (x + 1) 4 = nI nA) (hA8 : nA ≤ 8) (hC : I (x + 1) 5 = nI nC) (hC5 : nC ≤ 5) (hn : I (x + 1) 6 = nI n) (hn4 : n ≤ 24) (hW : ∀ t, t < n → ∃ a, a < nA ∧ I (x + 1 + 18 + t) 0 = nI a) (hKd : ∀ t, t < n → ∃ k, k < 5 ∧ I (x + 1 + 18 + t) 3 = nI k) {v : Int64} (kk : PW cL_view mL_view Z 176 [.ref x, .long (fO (vwK I x n) nC v), pJ, .int (nI nC), pJ] [] σ I F (0, 0)) : PW cL_view mL_view Z 131 [.ref x, .long v, pJ, .int (nI 0), pJ] [] σ I F (0, 0) := by
  have h := vl_outK hT hA hA8 hC hC5 hn hn4 hW hKd kk 0 (Nat.zero_le _)
  rw [fO] at h
  exact h

theorem vl_outA {Z : pZ} {σ : pT} {I : pI} {F : pF} {x nA nC n : Nat} (hT : isTW σ x) (hA : I (x + 1) 4 = nI nA) (hA8 : nA ≤ 8) (hC : I (x + 1) 5 = nI nC) (hC5 : nC ≤ 5) (hn : I (x + 1) 6 = nI n) (hn4 : n ≤ 24) (hW : ∀ t, t < n → ∃ a, a < nA ∧ I (x + 1 + 18 + t) 0 = nI a) (hKd : ∀ t, t < n → ∃ k, k < 5 ∧ I (x + 1 + 18 + t) 3 = nI k) {v : Int64} (kk : PW cL_view mL_view Z 129 [.ref x, .long (fO (vwA I F x n) nA v), pJ, .int (nI nA), pJ] [] σ I F (0, 0)) : ∀ k, k ≤ nA → PW cL_view mL_view Z 33 [.ref x, .long (fO (vwA I F x n) k v), pJ, .int (nI k), pJ] [] σ I F (0, 0) := by
  refine dn (fun k => PW cL_view mL_view Z 33 [.ref x, .long (fO (vwA I F x n) k v), pJ, .int (nI k), pJ] [] σ I F (0, 0)) nA ?_ ?_
  · refine pw_iload_n dL_view_33 rfl rfl ?_
    refine pw_aload_n dL_view_34 rfl rfl ?_
    refine pw_iconst (v := 1) dL_view_35 (by decide) ?_
    refine pe_callVi dL_view_36 oX_X7_count lk_RL_13 (sp_x_count hT hA hA8 hn hn4) (tw_k hT) rfl rfl (Nat.le_of_ble_eq_true rfl) (by decide) ?_
    rw [count_1, hA]
    refine pw_icmp_ge (tgt := 129) dL_view_39 (by decide) (fun c_39 => ?_) (fun c_39 => absurd (Int32.le_refl _) c_39)
    exact kk
  · intro k hk ih
    refine pw_iload_n dL_view_33 rfl rfl ?_
    refine pw_aload_n dL_view_34 rfl rfl ?_
    refine pw_iconst (v := 1) dL_view_35 (by decide) ?_
    refine pe_callVi dL_view_36 oX_X7_count lk_RL_13 (sp_x_count hT hA hA8 hn hn4) (tw_k hT) rfl rfl (Nat.le_of_ble_eq_true rfl) (by decide) ?_
    rw [count_1, hA]
    refine pw_icmp_ge (tgt := 129) dL_view_39 (by decide) (fun c_39 => absurd c_39 (nI_ge hk (by omega))) (fun c_39 => ?_)
    refine pw_iconst (v := 0) dL_view_42 (by decide) ?_
    refine pw_istore dL_view_43 (by decide) rfl ?_
    rw [fO, vwA, lmv] at ih
    refine vl_inA hT hA hA8 hC hC5 hn hn4 hW hKd ?_ 0 (Nat.zero_le _)
    refine pw_iconst (v := 0) dL_view_73 (by decide) ?_
    refine pw_istore dL_view_74 (by decide) rfl ?_
    refine vl_inP hT hA hA8 hC hC5 hn hn4 hW hKd hk ?_ 0 (Nat.zero_le _)
    refine pw_ldc2 dL_view_108 kc_RL_11 ?_
    refine pw_lload_n dL_view_111 rfl rfl ?_
    refine pw_lmul dL_view_112 ?_
    refine pw_aload_n dL_view_113 rfl rfl ?_
    refine pw_iload_n dL_view_114 rfl rfl ?_
    refine pw_bipush (v := 60) dL_view_115 (by decide) ?_
    refine pe_callVi dL_view_117 oX_X7_hoursTo lk_RL_26 (sp_x_hoursTo hT hA hA8) (tw_k hT) rfl rfl (Nat.le_of_ble_eq_true rfl) (by decide) ?_
    refine pw_i2l dL_view_120 ?_
    refine pw_ladd dL_view_121 ?_
    refine pw_lstore_n dL_view_122 rfl (by decide) rfl ?_
    refine pw_iinc (v := nI (k + 1)) dL_view_123 rfl (nI_add _ _) rfl ?_
    refine pw_goto (tgt := 33) dL_view_126 (by decide) ?_
    exact pw_weak (ls' := [.ref x, .long _, pJ, .int _, pJ]) rfl (wk_same (wk_same (wk_same (wk_same (wk_drop wk_nil))))) ih

theorem vl_zA {Z : pZ} {σ : pT} {I : pI} {F : pF} {x nA nC n : Nat} (hT : isTW σ x) (hA : I (x + 1) 4 = nI nA) (hA8 : nA ≤ 8) (hC : I (x + 1) 5 = nI nC) (hC5 : nC ≤ 5) (hn : I (x + 1) 6 = nI n) (hn4 : n ≤ 24) (hW : ∀ t, t < n → ∃ a, a < nA ∧ I (x + 1 + 18 + t) 0 = nI a) (hKd : ∀ t, t < n → ∃ k, k < 5 ∧ I (x + 1 + 18 + t) 3 = nI k) {v : Int64} (kk : PW cL_view mL_view Z 129 [.ref x, .long (fO (vwA I F x n) nA v), pJ, .int (nI nA), pJ] [] σ I F (0, 0)) : PW cL_view mL_view Z 33 [.ref x, .long v, pJ, .int (nI 0), pJ] [] σ I F (0, 0) := by
  have h := vl_outA hT hA hA8 hC hC5 hn hn4 hW hKd kk 0 (Nat.zero_le _)
  rw [fO] at h
  exact h

theorem vl_out0 {Z : pZ} {σ : pT} {I : pI} {F : pF} {x nA nC n : Nat} (hT : isTW σ x) (hA : I (x + 1) 4 = nI nA) (hA8 : nA ≤ 8) (hC : I (x + 1) 5 = nI nC) (hC5 : nC ≤ 5) (hn : I (x + 1) 6 = nI n) (hn4 : n ≤ 24) (hW : ∀ t, t < n → ∃ a, a < nA ∧ I (x + 1 + 18 + t) 0 = nI a) (hKd : ∀ t, t < n → ∃ k, k < 5 ∧ I (x + 1 + 18 + t) 3 = nI k) (kk : PW cL_view mL_view Z 31 [.ref x, .long (fI (fun k => countV I x nA n (nI k)) 15 7), pJ, .int (nI 15), pJ] [] σ I F (0, 0)) : ∀ k, k ≤ 15 → PW cL_view mL_view Z 6 [.ref x, .long (fI (fun k => countV I x nA n (nI k)) k 7), pJ, .int (nI k), pJ] [] σ I F (0, 0) := by
  refine dn (fun k => PW cL_view mL_view Z 6 [.ref x, .long (fI (fun k => countV I x nA n (nI k)) k 7), pJ, .int (nI k), pJ] [] σ I F (0, 0)) 15 ?_ ?_
  · refine pw_iload_n dL_view_6 rfl rfl ?_
    refine pw_bipush (v := 15) dL_view_7 (by decide) ?_
    refine pw_icmp_ge (tgt := 31) dL_view_9 (by decide) (fun c_9 => ?_) (fun c_9 => absurd (by decide) c_9)
    exact kk
  · intro k hlt ih
    refine pw_iload_n dL_view_6 rfl rfl ?_
    refine pw_bipush (v := 15) dL_view_7 (by decide) ?_
    refine pw_icmp_ge (tgt := 31) dL_view_9 (by decide) (fun c_9 => absurd c_9 (nI_ge (a := k) (b := 15) hlt (by decide))) (fun c_9 => ?_)
    refine pw_ldc2 dL_view_12 kc_RL_11 ?_
    refine pw_lload_n dL_view_15 rfl rfl ?_
    refine pw_lmul dL_view_16 ?_
    refine pw_aload_n dL_view_17 rfl rfl ?_
    refine pw_iload_n dL_view_18 rfl rfl ?_
    refine pe_callVi dL_view_19 oX_X7_count lk_RL_13 (sp_x_count hT hA hA8 hn hn4) (tw_k hT) rfl rfl (Nat.le_of_ble_eq_true rfl) (by decide) ?_
    refine pw_i2l dL_view_22 ?_
    refine pw_ladd dL_view_23 ?_
    refine pw_lstore_n dL_view_24 rfl (by decide) rfl ?_
    refine pw_iinc (v := nI (k + 1)) dL_view_25 rfl (nI_add _ _) rfl ?_
    refine pw_goto (tgt := 6) dL_view_28 (by decide) ?_
    exact ih

theorem sp_view {σ : pT} {I : pI} {F : pF} {x nA nC n : Nat} (hT : isTW σ x) (hA : I (x + 1) 4 = nI nA) (hA8 : nA ≤ 8) (hC : I (x + 1) 5 = nI nC) (hC5 : nC ≤ 5) (hn : I (x + 1) 6 = nI n) (hn4 : n ≤ 24) (hW : ∀ t, t < n → ∃ a, a < nA ∧ I (x + 1 + 18 + t) 0 = nI a) (hKd : ∀ t, t < n → ∃ k, k < 5 ∧ I (x + 1 + 18 + t) 3 = nI k) : PE yL_view cL_view mL_view [.ref x] σ I F (some (.long (viewV I F x nA nC n))) I F := by
  refine PE.of oP_L_view (catOK rfl) (Nat.le_of_ble_eq_true rfl) ?_
  show PW _ _ _ 0 [.ref x, pJ, pJ, pJ, pJ] [] _ _ _ _
  refine pw_ldc2 dL_view_0 kc_RL_9 ?_
  refine pw_lstore_n dL_view_3 rfl (by decide) rfl ?_
  refine pw_iconst (v := 0) dL_view_4 (by decide) ?_
  refine pw_istore_n dL_view_5 rfl (by decide) rfl ?_
  refine vl_out0 hT hA hA8 hC hC5 hn hn4 hW hKd ?_ 0 (Nat.zero_le _)
  refine pw_iconst (v := 0) dL_view_31 (by decide) ?_
  refine pw_istore_n dL_view_32 rfl (by decide) rfl ?_
  refine vl_zA hT hA hA8 hC hC5 hn hn4 hW hKd ?_
  refine pw_iconst (v := 0) dL_view_129 (by decide) ?_
  refine pw_istore_n dL_view_130 rfl (by decide) rfl ?_
  refine vl_zK hT hA hA8 hC hC5 hn hn4 hW hKd ?_
  refine pw_iconst (v := 0) dL_view_176 (by decide) ?_
  refine pw_istore_n dL_view_177 rfl (by decide) rfl ?_
  refine vl_zT hT hA hA8 hC hC5 hn hn4 hW hKd ?_
  refine pw_lload_n dL_view_224 rfl rfl ?_
  exact pw_lret dL_view_225 rfl ⟨by unfold viewV vwC; rfl, rfl, rfl, rfl⟩
