/-! AN ASSET IS RIGHT -/
section TG
variable {I : pI} {F : pF} {p n nA nC h a : Nat}
theorem m1_all : ∀ m, m ≤ 24 → nI m - 1 - nI m = -1 := by decide +kernel
theorem m1_ne {k : Nat} (hk : k < 24) : ¬ nI k = -1 := fun e => by
  have h1 := nI_pos (n := k) (by omega)
  rw [e] at h1
  exact h1 (by decide)
theorem tag_at (g : Gd p I F nA nC n h) (ha : a < nA) {k : Nat} (hk : k < tagsC I p n (nI a)) : ∃ tt st, tt < n ∧ tagC I p n (nI a) (nI k) = nI tt ∧ I (p + 18 + tt) 0 = nI a ∧ I (p + 18 + tt) 7 = nI st ∧ 1 ≤ st ∧ st ≤ 3 ∧ I (p + 18 + tt) 11 = nI (tagsC I p n (nI a) - 1 - k) := by
  have tl := tags_le (I := I) (p := p) (n := n) (a := nI a)
  have hn4 := g.1.2.2.2.2.2.1
  obtain ⟨t, ht, e1, e2, e3⟩ := g.2.2.2.2.2.1 a (tagsC I p n (nI a) - 1 - k) ha (by omega)
  have eh : nI (tagsC I p n (nI a)) - 1 - nI k = nI (tagsC I p n (nI a) - 1 - k) := by
    rw [pk_m1s (by omega), pk_sub (a := tagsC I p n (nI a) - 1) (b := k) (by omega)]
  unfold hgB at e1
  have hP : topP I p (nI a) (nI (tagsC I p n (nI a)) - 1 - nI k) t = true := by
    unfold topP
    rw [eh, e1, e2, e3]
    simp
  obtain ⟨i, -, i2, i3, i4⟩ := fst_some (m := n) (k := 0) (j := t) (Nat.zero_le _) (by omega) hP
  unfold topP at i3
  rw [Bool.and_eq_true, Bool.and_eq_true, decide_eq_true_eq, decide_eq_true_eq, decide_eq_true_eq, eh] at i3
  obtain ⟨j1, ⟨j2, j3⟩, j4⟩ := i3
  obtain ⟨st, s1, s2⟩ := G2_st g.2.1 i (by omega)
  rw [s2] at j2 j3
  exact ⟨i, st, by omega, i4, j1, s2, (nI_leI (a := 1) (by decide) (by omega)).mp j2, (nI_leI (b := 3) (by omega) (by decide)).mp j3, j4⟩
theorem tag_end (g : Gd p I F nA nC n h) : tagC I p n (nI a) (nI (tagsC I p n (nI a))) = -5 := by
  have tl := tags_le (I := I) (p := p) (n := n) (a := nI a)
  have hn4 := g.1.2.2.2.2.2.1
  unfold tagC
  rw [m1_all _ (by omega)]
  refine fst_none fun t _ ht => ?_
  obtain ⟨a', s, q, k, hh, fr, sl, st, ⟨y1, y2, y3, y4, y5, y6, y7, y8⟩, ⟨z0, z1, z2, z3, z4, z5, z6, z7, z10⟩, w1, w2, w3, w4, w5⟩ := g.2.1 t (by omega)
  unfold topP
  have hh := hg_of (p := p) (t := t) z7 y8
  unfold hgB at hh
  rw [hh]
  by_cases e : 1 ≤ st ∧ st ≤ 3
  · obtain ⟨ht, h1, h2⟩ := w5 e.1 e.2
    have : ¬ I (p + 18 + t) 11 = -1 := by rw [h2]; exact m1_ne h1
    simp [this]
  · simp [e]
end TG

set_option maxRecDepth 4000 in
theorem ia_L1 {Z : pZ} {σ : pT} {I : pI} {F : pF} {x nA nC n h a : Nat} (hT : isTW σ x) (g : Gd (x + 1) I F nA nC n h) (ha : a < nA) (kk : PW cL_isAsset mL_isAsset Z 85 [.ref x, .int (nI a), .int (nI (tagsC I (x + 1) n (nI a))), .int 1, .int (nI n), pJ, pJ] [] σ I F (0, 0)) : PW cL_isAsset mL_isAsset Z 29 [.ref x, .int (nI a), .int 0, .int 1, .int 0, pJ, pJ] [] σ I F (0, 0) := by
  have g0 := g
  obtain ⟨⟨hA, hA8, hC, hC5, hn, hn4, h7, h8⟩, g2, g3, g4, g5, g6, g7⟩ := g
  have hW := G2_W g2
  have hKd := G2_K g2
  have tl := tags_le (I := I) (p := x + 1) (n := n) (a := nI a)
  refine (dn (fun k => PW cL_isAsset mL_isAsset Z 29 [.ref x, .int (nI a), .int (nI (cntT (fun t => decide (I (x + 1 + 18 + t) 0 = nI a) && decide (1 ≤ I (x + 1 + 18 + t) 7 ∧ I (x + 1 + 18 + t) 7 ≤ 3)) k)), .int 1, .int (nI k), pJ, pJ] [] σ I F (0, 0)) n ?_ ?_) 0 (Nat.zero_le _)
  · refine pw_iload dL_isAsset_29 rfl ?_
    refine pw_aload_n dL_isAsset_31 rfl rfl ?_
    refine pw_iconst (v := 4) dL_isAsset_32 (by decide) ?_
    refine pe_callVi dL_isAsset_33 oX_X7_count lk_RL_13 (sp_x_count hT hA hA8 hn hn4) (tw_k hT) rfl rfl (Nat.le_of_ble_eq_true rfl) (by decide) ?_
    rw [count_4, hn]
    refine pw_icmp_ge (tgt := 85) dL_isAsset_36 (by decide) (fun c_36 => ?_) (fun c_36 => absurd (Int32.le_refl _) c_36)
    exact kk
  · intro k hk ih
    obtain ⟨st, hst, est⟩ := G2_st g2 k hk
    refine pw_iload dL_isAsset_29 rfl ?_
    refine pw_aload_n dL_isAsset_31 rfl rfl ?_
    refine pw_iconst (v := 4) dL_isAsset_32 (by decide) ?_
    refine pe_callVi dL_isAsset_33 oX_X7_count lk_RL_13 (sp_x_count hT hA hA8 hn hn4) (tw_k hT) rfl rfl (Nat.le_of_ble_eq_true rfl) (by decide) ?_
    rw [count_4, hn]
    refine pw_icmp_ge (tgt := 85) dL_isAsset_36 (by decide) (fun c_36 => absurd c_36 (nI_ge hk (by omega))) (fun c_36 => ?_)
    refine pw_iload_n dL_isAsset_39 rfl rfl ?_
    refine pw_aload_n dL_isAsset_40 rfl rfl ?_
    refine pw_iload dL_isAsset_41 rfl ?_
    refine pw_iconst (v := 0) dL_isAsset_43 (by decide) ?_
    refine pe_callVi dL_isAsset_44 oX_X7_task lk_RL_32 (sp_x_task hT hA hA8 hn hn4 hW hKd) (tw_k hT) rfl rfl (Nat.le_of_ble_eq_true rfl) (by decide) ?_
    rw [task_0 hn hn4 hk]
    refine pw_iload_n dL_isAsset_47 rfl rfl ?_
    refine pw_icmp_ne (tgt := 76) dL_isAsset_48 (by decide) (fun c_48 => ?_) (fun c_48 => ?_)
    · refine pw_iconst (v := 0) dL_isAsset_76 (by decide) ?_
      refine pw_iadd dL_isAsset_77 ?_
      rw [show (nI (cntT (fun t => decide (I (x + 1 + 18 + t) 0 = nI a) && decide (1 ≤ I (x + 1 + 18 + t) 7 ∧ I (x + 1 + 18 + t) 7 ≤ 3)) k) + 0 : Int32) = nI ((cntT (fun t => decide (I (x + 1 + 18 + t) 0 = nI a) && decide (1 ≤ I (x + 1 + 18 + t) 7 ∧ I (x + 1 + 18 + t) 7 ≤ 3)) k) + 0) from nI_add _ _]
      refine pw_istore_n dL_isAsset_78 rfl (by decide) rfl ?_
      refine pw_iinc (v := nI (k + 1)) dL_isAsset_79 rfl (nI_add _ _) rfl ?_
      refine pw_goto (tgt := 29) dL_isAsset_82 (by decide) ?_
      have hP : (fun t => decide (I (x + 1 + 18 + t) 0 = nI a) && decide (1 ≤ I (x + 1 + 18 + t) 7 ∧ I (x + 1 + 18 + t) 7 ≤ 3)) k = false := by
        simp [c_48]
      rw [cnt_f hP] at ih
      exact ih
    · refine pw_aload_n dL_isAsset_51 rfl rfl ?_
      refine pw_iload dL_isAsset_52 rfl ?_
      refine pw_iconst (v := 1) dL_isAsset_54 (by decide) ?_
      refine pe_callVi dL_isAsset_55 oX_X7_task lk_RL_32 (sp_x_task hT hA hA8 hn hn4 hW hKd) (tw_k hT) rfl rfl (Nat.le_of_ble_eq_true rfl) (by decide) ?_
      rw [task_1 hn hn4 hk, est]
      refine pw_if_le (tgt := 76) dL_isAsset_58 (by decide) (fun c_58 => ?_) (fun c_58 => ?_)
      · refine pw_iconst (v := 0) dL_isAsset_76 (by decide) ?_
        refine pw_iadd dL_isAsset_77 ?_
        rw [show (nI (cntT (fun t => decide (I (x + 1 + 18 + t) 0 = nI a) && decide (1 ≤ I (x + 1 + 18 + t) 7 ∧ I (x + 1 + 18 + t) 7 ≤ 3)) k) + 0 : Int32) = nI ((cntT (fun t => decide (I (x + 1 + 18 + t) 0 = nI a) && decide (1 ≤ I (x + 1 + 18 + t) 7 ∧ I (x + 1 + 18 + t) 7 ≤ 3)) k) + 0) from nI_add _ _]
        refine pw_istore_n dL_isAsset_78 rfl (by decide) rfl ?_
        refine pw_iinc (v := nI (k + 1)) dL_isAsset_79 rfl (nI_add _ _) rfl ?_
        refine pw_goto (tgt := 29) dL_isAsset_82 (by decide) ?_
        have hP : (fun t => decide (I (x + 1 + 18 + t) 0 = nI a) && decide (1 ≤ I (x + 1 + 18 + t) 7 ∧ I (x + 1 + 18 + t) 7 ≤ 3)) k = false := by
          show (decide (I (x + 1 + 18 + k) 0 = nI a) && hgB I (x + 1) k) = false
          have h0 := (nI_leI (b := 0) (by omega) (by decide)).mp c_58
          rw [hg_of est (by omega), decide_eq_false (p := 1 ≤ st ∧ st ≤ 3) (by omega), Bool.and_false]
        rw [cnt_f hP] at ih
        exact ih
      · refine pw_aload_n dL_isAsset_61 rfl rfl ?_
        refine pw_iload dL_isAsset_62 rfl ?_
        refine pw_iconst (v := 1) dL_isAsset_64 (by decide) ?_
        refine pe_callVi dL_isAsset_65 oX_X7_task lk_RL_32 (sp_x_task hT hA hA8 hn hn4 hW hKd) (tw_k hT) rfl rfl (Nat.le_of_ble_eq_true rfl) (by decide) ?_
        rw [task_1 hn hn4 hk, est]
        refine pw_iconst (v := 4) dL_isAsset_68 (by decide) ?_
        refine pw_icmp_ge (tgt := 76) dL_isAsset_69 (by decide) (fun c_69 => ?_) (fun c_69 => ?_)
        · refine pw_iconst (v := 0) dL_isAsset_76 (by decide) ?_
          refine pw_iadd dL_isAsset_77 ?_
          rw [show (nI (cntT (fun t => decide (I (x + 1 + 18 + t) 0 = nI a) && decide (1 ≤ I (x + 1 + 18 + t) 7 ∧ I (x + 1 + 18 + t) 7 ≤ 3)) k) + 0 : Int32) = nI ((cntT (fun t => decide (I (x + 1 + 18 + t) 0 = nI a) && decide (1 ≤ I (x + 1 + 18 + t) 7 ∧ I (x + 1 + 18 + t) 7 ≤ 3)) k) + 0) from nI_add _ _]
          refine pw_istore_n dL_isAsset_78 rfl (by decide) rfl ?_
          refine pw_iinc (v := nI (k + 1)) dL_isAsset_79 rfl (nI_add _ _) rfl ?_
          refine pw_goto (tgt := 29) dL_isAsset_82 (by decide) ?_
          have hP : (fun t => decide (I (x + 1 + 18 + t) 0 = nI a) && decide (1 ≤ I (x + 1 + 18 + t) 7 ∧ I (x + 1 + 18 + t) 7 ≤ 3)) k = false := by
            show (decide (I (x + 1 + 18 + k) 0 = nI a) && hgB I (x + 1) k) = false
            have h0 := (nI_leI (a := 4) (by decide) (by omega)).mp c_69
            rw [hg_of est (by omega), decide_eq_false (p := 1 ≤ st ∧ st ≤ 3) (by omega), Bool.and_false]
          rw [cnt_f hP] at ih
          exact ih
        · refine pw_iconst (v := 1) dL_isAsset_72 (by decide) ?_
          refine pw_goto (tgt := 77) dL_isAsset_73 (by decide) ?_
          refine pw_iadd dL_isAsset_77 ?_
          rw [show (nI (cntT (fun t => decide (I (x + 1 + 18 + t) 0 = nI a) && decide (1 ≤ I (x + 1 + 18 + t) 7 ∧ I (x + 1 + 18 + t) 7 ≤ 3)) k) + 1 : Int32) = nI ((cntT (fun t => decide (I (x + 1 + 18 + t) 0 = nI a) && decide (1 ≤ I (x + 1 + 18 + t) 7 ∧ I (x + 1 + 18 + t) 7 ≤ 3)) k) + 1) from nI_add _ _]
          refine pw_istore_n dL_isAsset_78 rfl (by decide) rfl ?_
          refine pw_iinc (v := nI (k + 1)) dL_isAsset_79 rfl (nI_add _ _) rfl ?_
          refine pw_goto (tgt := 29) dL_isAsset_82 (by decide) ?_
          have hP : (fun t => decide (I (x + 1 + 18 + t) 0 = nI a) && decide (1 ≤ I (x + 1 + 18 + t) 7 ∧ I (x + 1 + 18 + t) 7 ≤ 3)) k = true := by
            show (decide (I (x + 1 + 18 + k) 0 = nI a) && hgB I (x + 1) k) = true
            have h1 : ¬ st ≤ 0 := fun z => c_58 (nI_le (b := 0) z (by decide))
            have h2 : ¬ 4 ≤ st := fun z => c_69 (nI_le (a := 4) z (by omega))
            rw [hg_of est (by omega), decide_eq_true (p := 1 ≤ st ∧ st ≤ 3) (by omega), decide_eq_true c_48]
            rfl
          rw [cnt_t hP] at ih
          exact ih

set_option maxRecDepth 4000 in
theorem ia_in {Z : pZ} {σ : pT} {I : pI} {F : pF} {x nA nC n h a : Nat} (hT : isTW σ x) (g : Gd (x + 1) I F nA nC n h) (ha : a < nA) {k tt : Nat} (htt : tt < n) (hk : k < (tagsC I (x + 1) n (nI a))) (ett : tagC I (x + 1) n (nI a) (nI k) = nI tt) (e11 : I (x + 1 + 18 + tt) 11 = nI ((tagsC I (x + 1) n (nI a)) - 1 - k)) (kk : PW cL_isAsset mL_isAsset Z 229 [.ref x, .int (nI a), .int (nI (tagsC I (x + 1) n (nI a))), .int 1, .int (nI k), .int (nI tt), .int (nI k)] [] σ I F (0, 0)) : PW cL_isAsset mL_isAsset Z 194 [.ref x, .int (nI a), .int (nI (tagsC I (x + 1) n (nI a))), .int 1, .int (nI k), .int (nI tt), .int 0] [] σ I F (0, 0) := by
  have g0 := g
  obtain ⟨⟨hA, hA8, hC, hC5, hn, hn4, h7, h8⟩, g2, g3, g4, g5, g6, g7⟩ := g
  have hW := G2_W g2
  have hKd := G2_K g2
  have tl := tags_le (I := I) (p := x + 1) (n := n) (a := nI a)
  refine (dn (fun j => PW cL_isAsset mL_isAsset Z 194 [.ref x, .int (nI a), .int (nI (tagsC I (x + 1) n (nI a))), .int 1, .int (nI k), .int (nI tt), .int (nI j)] [] σ I F (0, 0)) k ?_ ?_) 0 (Nat.zero_le _)
  · refine pw_iload dL_isAsset_194 rfl ?_
    refine pw_iload dL_isAsset_196 rfl ?_
    refine pw_icmp_ge (tgt := 229) dL_isAsset_198 (by decide) (fun c_198 => ?_) (fun c_198 => absurd (Int32.le_refl _) c_198)
    exact kk
  · intro j hj ih
    obtain ⟨tj, sj, htj, ej, -, -, -, -, ej11⟩ := tag_at g0 ha (k := j) (by omega)
    have hne : ∀ {R : Prop}, nI tj = nI tt → R := fun {R} c => by
      exfalso
      have e1 : tj = tt := (nI_eq (by omega) (by omega)).mp c
      subst e1
      have e2 := (nI_eq (by omega) (by omega)).mp (ej11.symm.trans e11)
      omega
    refine pw_iload dL_isAsset_194 rfl ?_
    refine pw_iload dL_isAsset_196 rfl ?_
    refine pw_icmp_ge (tgt := 229) dL_isAsset_198 (by decide) (fun c_198 => absurd c_198 (nI_ge hj (by omega))) (fun c_198 => ?_)
    refine pw_iload_n dL_isAsset_201 rfl rfl ?_
    refine pw_if_eq (tgt := 221) dL_isAsset_202 (by decide) (fun c_202 => absurd c_202 (by decide)) (fun c_202 => ?_)
    refine pw_aload_n dL_isAsset_205 rfl rfl ?_
    refine pw_iload_n dL_isAsset_206 rfl rfl ?_
    refine pw_iload dL_isAsset_207 rfl ?_
    refine pe_callVi dL_isAsset_209 oX_X7_tagAt lk_RL_23 (sp_x_tagAt hT hA hA8 hn hn4) (tw_k hT) rfl rfl (Nat.le_of_ble_eq_true rfl) (by decide) ?_
    rw [tagAt_k hA hA8 ha (by omega), ej]
    refine pw_iload dL_isAsset_212 rfl ?_
    refine pw_icmp_eq (tgt := 221) dL_isAsset_214 (by decide) (fun c_214 => hne c_214) (fun c_214 => ?_)
    refine pw_iconst (v := 1) dL_isAsset_217 (by decide) ?_
    refine pw_goto (tgt := 222) dL_isAsset_218 (by decide) ?_
    refine pw_istore_n dL_isAsset_222 rfl (by decide) rfl ?_
    refine pw_iinc (v := nI (j + 1)) dL_isAsset_223 rfl (nI_add _ _) rfl ?_
    refine pw_goto (tgt := 194) dL_isAsset_226 (by decide) ?_
    exact ih

set_option maxRecDepth 4000 in
theorem ia_L2 {Z : pZ} {σ : pT} {I : pI} {F : pF} {x nA nC n h a : Nat} (hT : isTW σ x) (g : Gd (x + 1) I F nA nC n h) (ha : a < nA) (kk : PW cL_isAsset mL_isAsset Z 235 [.ref x, .int (nI a), .int (nI (tagsC I (x + 1) n (nI a))), .int 1, .int (nI (tagsC I (x + 1) n (nI a))), pJ, pJ] [] σ I F (0, 0)) : PW cL_isAsset mL_isAsset Z 134 [.ref x, .int (nI a), .int (nI (tagsC I (x + 1) n (nI a))), .int 1, .int 0, pJ, pJ] [] σ I F (0, 0) := by
  have g0 := g
  obtain ⟨⟨hA, hA8, hC, hC5, hn, hn4, h7, h8⟩, g2, g3, g4, g5, g6, g7⟩ := g
  have hW := G2_W g2
  have hKd := G2_K g2
  have tl := tags_le (I := I) (p := x + 1) (n := n) (a := nI a)
  refine (dn (fun k => PW cL_isAsset mL_isAsset Z 134 [.ref x, .int (nI a), .int (nI (tagsC I (x + 1) n (nI a))), .int 1, .int (nI k), pJ, pJ] [] σ I F (0, 0)) (tagsC I (x + 1) n (nI a)) ?_ ?_) 0 (Nat.zero_le _)
  · refine pw_iload dL_isAsset_134 rfl ?_
    refine pw_iload_n dL_isAsset_136 rfl rfl ?_
    refine pw_icmp_ge (tgt := 235) dL_isAsset_137 (by decide) (fun c_137 => ?_) (fun c_137 => absurd (Int32.le_refl _) c_137)
    exact kk
  · intro k hk ih
    obtain ⟨tt, st, htt, ett, e0, e7, s1, s3, e11⟩ := tag_at g0 ha hk
    refine pw_iload dL_isAsset_134 rfl ?_
    refine pw_iload_n dL_isAsset_136 rfl rfl ?_
    refine pw_icmp_ge (tgt := 235) dL_isAsset_137 (by decide) (fun c_137 => absurd c_137 (nI_ge hk (by omega))) (fun c_137 => ?_)
    refine pw_iload_n dL_isAsset_140 rfl rfl ?_
    refine pw_if_eq (tgt := 235) dL_isAsset_141 (by decide) (fun c_141 => absurd c_141 (by decide)) (fun c_141 => ?_)
    refine pw_aload_n dL_isAsset_144 rfl rfl ?_
    refine pw_iload_n dL_isAsset_145 rfl rfl ?_
    refine pw_iload dL_isAsset_146 rfl ?_
    refine pe_callVi dL_isAsset_148 oX_X7_tagAt lk_RL_23 (sp_x_tagAt hT hA hA8 hn hn4) (tw_k hT) rfl rfl (Nat.le_of_ble_eq_true rfl) (by decide) ?_
    rw [tagAt_k hA hA8 ha (by omega), ett]
    refine pw_istore dL_isAsset_151 (by decide) rfl ?_
    refine pw_aload_n dL_isAsset_153 rfl rfl ?_
    refine pw_iload dL_isAsset_154 rfl ?_
    refine pw_iconst (v := 0) dL_isAsset_156 (by decide) ?_
    refine pe_callVi dL_isAsset_157 oX_X7_task lk_RL_32 (sp_x_task hT hA hA8 hn hn4 hW hKd) (tw_k hT) rfl rfl (Nat.le_of_ble_eq_true rfl) (by decide) ?_
    rw [task_0 hn hn4 htt, e0]
    refine pw_iload_n dL_isAsset_160 rfl rfl ?_
    refine pw_icmp_ne (tgt := 189) dL_isAsset_161 (by decide) (fun c_161 => absurd rfl c_161) (fun c_161 => ?_)
    refine pw_aload_n dL_isAsset_164 rfl rfl ?_
    refine pw_iload dL_isAsset_165 rfl ?_
    refine pw_iconst (v := 1) dL_isAsset_167 (by decide) ?_
    refine pe_callVi dL_isAsset_168 oX_X7_task lk_RL_32 (sp_x_task hT hA hA8 hn hn4 hW hKd) (tw_k hT) rfl rfl (Nat.le_of_ble_eq_true rfl) (by decide) ?_
    rw [task_1 hn hn4 htt, e7]
    refine pw_if_le (tgt := 189) dL_isAsset_171 (by decide) (fun c_171 => absurd c_171 (nI_nle (by omega) (by omega))) (fun c_171 => ?_)
    refine pw_aload_n dL_isAsset_174 rfl rfl ?_
    refine pw_iload dL_isAsset_175 rfl ?_
    refine pw_iconst (v := 1) dL_isAsset_177 (by decide) ?_
    refine pe_callVi dL_isAsset_178 oX_X7_task lk_RL_32 (sp_x_task hT hA hA8 hn hn4 hW hKd) (tw_k hT) rfl rfl (Nat.le_of_ble_eq_true rfl) (by decide) ?_
    rw [task_1 hn hn4 htt, e7]
    refine pw_iconst (v := 4) dL_isAsset_181 (by decide) ?_
    refine pw_icmp_ge (tgt := 189) dL_isAsset_182 (by decide) (fun c_182 => absurd c_182 (nI_ge (a := st) (b := 4) (by omega) (by decide))) (fun c_182 => ?_)
    refine pw_iconst (v := 1) dL_isAsset_185 (by decide) ?_
    refine pw_goto (tgt := 190) dL_isAsset_186 (by decide) ?_
    refine pw_istore_n dL_isAsset_190 rfl (by decide) rfl ?_
    refine pw_iconst (v := 0) dL_isAsset_191 (by decide) ?_
    refine pw_istore dL_isAsset_192 (by decide) rfl ?_
    refine ia_in hT g0 ha htt hk ett e11 ?_
    refine pw_iinc (v := nI (k + 1)) dL_isAsset_229 rfl (nI_add _ _) rfl ?_
    refine pw_goto (tgt := 134) dL_isAsset_232 (by decide) ?_
    exact pw_weak (ls' := [.ref x, .int _, .int _, .int _, .int _, pJ, pJ]) rfl (wk_same (wk_same (wk_same (wk_same (wk_same (wk_drop (wk_drop wk_nil))))))) ih

set_option maxRecDepth 4000 in
theorem sp_isAsset {σ : pT} {I : pI} {F : pF} {x nA nC n h a : Nat} (hT : isTW σ x) (g : Gd (x + 1) I F nA nC n h) (ha : a < nA) : PE yL_isAsset cL_isAsset mL_isAsset [.ref x, .int (nI a)] σ I F (some (.int 1)) I F := by
  have g0 := g
  obtain ⟨⟨hA, hA8, hC, hC5, hn, hn4, h7, h8⟩, g2, g3, g4, g5, g6, g7⟩ := g
  have hW := G2_W g2
  have hKd := G2_K g2
  have tl := tags_le (I := I) (p := x + 1) (n := n) (a := nI a)
  obtain ⟨-, -, hH, hO⟩ := g4 a ha
  refine PE.of oP_L_isAsset (catOK rfl) (Nat.le_of_ble_eq_true rfl) ?_
  show PW _ _ _ 0 [.ref x, .int (nI a), pJ, pJ, pJ, pJ, pJ] [] _ _ _ _
  have K : PW cL_isAsset mL_isAsset (fM (qE (some (.int 1)) σ I F)) 26 [.ref x, .int (nI a), .int 0, .int 1, pJ, pJ, pJ] [] σ I F (0, 0) := by
    refine pw_iconst (v := 0) dL_isAsset_26 (by decide) ?_
    refine pw_istore dL_isAsset_27 (by decide) rfl ?_
    refine ia_L1 hT g0 ha ?_
    refine pw_iload_n dL_isAsset_85 rfl rfl ?_
    refine pw_if_eq (tgt := 129) dL_isAsset_86 (by decide) (fun c_86 => absurd c_86 (by decide)) (fun c_86 => ?_)
    refine pw_iload_n dL_isAsset_89 rfl rfl ?_
    refine pw_aload_n dL_isAsset_90 rfl rfl ?_
    refine pw_iload_n dL_isAsset_91 rfl rfl ?_
    refine pw_iconst (v := 1) dL_isAsset_92 (by decide) ?_
    refine pe_callVi dL_isAsset_93 oX_X7_asset lk_RL_19 (sp_x_asset hT hA hA8 hn hn4) (tw_k hT) rfl rfl (Nat.le_of_ble_eq_true rfl) (by decide) ?_
    rw [asset_1 hA ha hA8]
    refine pw_icmp_ne (tgt := 129) dL_isAsset_96 (by decide) (fun c_96 => absurd rfl c_96) (fun c_96 => ?_)
    refine pw_aload_n dL_isAsset_99 rfl rfl ?_
    refine pw_iload_n dL_isAsset_100 rfl rfl ?_
    refine pw_iconst (v := 2) dL_isAsset_101 (by decide) ?_
    refine pe_callVi dL_isAsset_102 oX_X7_asset lk_RL_19 (sp_x_asset hT hA hA8 hn hn4) (tw_k hT) rfl rfl (Nat.le_of_ble_eq_true rfl) (by decide) ?_
    rw [asset_2 hA hA8 ha]
    refine pw_aload_n dL_isAsset_105 rfl rfl ?_
    refine pw_iload_n dL_isAsset_106 rfl rfl ?_
    refine pw_iconst (v := 0) dL_isAsset_107 (by decide) ?_
    refine pe_callVi dL_isAsset_108 oX_X7_tagAt lk_RL_23 (sp_x_tagAt hT hA hA8 hn hn4) (tw_k hT) rfl rfl (Nat.le_of_ble_eq_true rfl) (by decide) ?_
    rw [show tagAtV I (x + 1) n (nI a) 0 = tagC I (x + 1) n (nI a) 0 from tagAt_k (k := 0) hA hA8 ha (by decide)]
    refine pw_icmp_ne (tgt := 129) dL_isAsset_111 (by decide) (fun c_111 => absurd rfl c_111) (fun c_111 => ?_)
    refine pw_aload_n dL_isAsset_114 rfl rfl ?_
    refine pw_iload_n dL_isAsset_115 rfl rfl ?_
    refine pw_iload_n dL_isAsset_116 rfl rfl ?_
    refine pe_callVi dL_isAsset_117 oX_X7_tagAt lk_RL_23 (sp_x_tagAt hT hA hA8 hn hn4) (tw_k hT) rfl rfl (Nat.le_of_ble_eq_true rfl) (by decide) ?_
    rw [tagAt_k hA hA8 ha (by omega), tag_end g0]
    refine pw_bipush (v := (-5)) dL_isAsset_120 (by decide) ?_
    refine pw_icmp_ne (tgt := 129) dL_isAsset_122 (by decide) (fun c_122 => absurd rfl c_122) (fun c_122 => ?_)
    refine pw_iconst (v := 1) dL_isAsset_125 (by decide) ?_
    refine pw_goto (tgt := 130) dL_isAsset_126 (by decide) ?_
    refine pw_istore_n dL_isAsset_130 rfl (by decide) rfl ?_
    refine pw_iconst (v := 0) dL_isAsset_131 (by decide) ?_
    refine pw_istore dL_isAsset_132 (by decide) rfl ?_
    refine ia_L2 hT g0 ha ?_
    refine pw_iload_n dL_isAsset_235 rfl rfl ?_
    refine pw_if_eq (tgt := 277) dL_isAsset_236 (by decide) (fun c_236 => absurd c_236 (by decide)) (fun c_236 => ?_)
    refine pw_aload_n dL_isAsset_239 rfl rfl ?_
    refine pw_iload_n dL_isAsset_240 rfl rfl ?_
    refine pw_iconst (v := 0) dL_isAsset_241 (by decide) ?_
    refine pe_callVf dL_isAsset_242 oX_X7_real lk_RL_88 (sp_x_real hT hA hA8) (tw_k hT) rfl rfl (Nat.le_of_ble_eq_true rfl) (by decide) ?_
    rw [real_0 hA hA8 ha]
    refine pw_ldcf dL_isAsset_245 kc_RL_92 ?_
    refine pw_fcmp dL_isAsset_247 ?_
    refine pw_if_lt (tgt := 277) dL_isAsset_248 (by decide) (fun c_248 => absurd c_248 (i_nlt' ((c_g hH.1 n_01 .l).2.1 hH.2.1))) (fun c_248 => ?_)
    refine pw_aload_n dL_isAsset_251 rfl rfl ?_
    refine pw_iload_n dL_isAsset_252 rfl rfl ?_
    refine pw_iconst (v := 0) dL_isAsset_253 (by decide) ?_
    refine pe_callVf dL_isAsset_254 oX_X7_real lk_RL_88 (sp_x_real hT hA hA8) (tw_k hT) rfl rfl (Nat.le_of_ble_eq_true rfl) (by decide) ?_
    rw [real_0 hA hA8 ha]
    refine pw_fconst1 dL_isAsset_257 ?_
    refine pw_fcmp dL_isAsset_258 ?_
    refine pw_if_gt (tgt := 277) dL_isAsset_259 (by decide) (fun c_259 => absurd c_259 (i_nlt' ((c_g hH.1 n_1 .g).1 (by rw [k_1]; exact hH.2.2)))) (fun c_259 => ?_)
    refine pw_aload_n dL_isAsset_262 rfl rfl ?_
    refine pw_iload_n dL_isAsset_263 rfl rfl ?_
    refine pw_iconst (v := 1) dL_isAsset_264 (by decide) ?_
    refine pe_callVf dL_isAsset_265 oX_X7_real lk_RL_88 (sp_x_real hT hA hA8) (tw_k hT) rfl rfl (Nat.le_of_ble_eq_true rfl) (by decide) ?_
    rw [real_1 hA hA8 ha]
    refine pw_fconst0 dL_isAsset_268 ?_
    refine pw_fcmp dL_isAsset_269 ?_
    refine pw_if_lt (tgt := 277) dL_isAsset_270 (by decide) (fun c_270 => absurd c_270 (i_nlt' ((c_g hO.1 n_0 .l).2.1 (by rw [k_0]; exact hO.2)))) (fun c_270 => ?_)
    refine pw_iconst (v := 1) dL_isAsset_273 (by decide) ?_
    refine pw_goto (tgt := 278) dL_isAsset_274 (by decide) ?_
    exact pw_zret dL_isAsset_278 rfl (by first | rfl | decide) ⟨rfl, rfl, rfl, rfl⟩
  by_cases hf : I (x + 1 + 5 + a) 4 = 0
  · refine pw_iconst (v := 0) dL_isAsset_0 (by decide) ?_
    refine pw_istore_n dL_isAsset_1 rfl (by decide) rfl ?_
    refine pw_aload_n dL_isAsset_2 rfl rfl ?_
    refine pw_iload_n dL_isAsset_3 rfl rfl ?_
    refine pw_iconst (v := 0) dL_isAsset_4 (by decide) ?_
    refine pe_callVi dL_isAsset_5 oX_X7_asset lk_RL_19 (sp_x_asset hT hA hA8 hn hn4) (tw_k hT) rfl rfl (Nat.le_of_ble_eq_true rfl) (by decide) ?_
    rw [asset_0 hA hA8 ha, if_pos hf]
    refine pw_if_eq (tgt := 20) dL_isAsset_8 (by decide) (fun c_8 => ?_) (fun c_8 => absurd rfl c_8)
    refine pw_iconst (v := 1) dL_isAsset_20 (by decide) ?_
    refine pw_goto (tgt := 25) dL_isAsset_21 (by decide) ?_
    refine pw_istore_n dL_isAsset_25 rfl (by decide) rfl ?_
    exact K
  · refine pw_iconst (v := 0) dL_isAsset_0 (by decide) ?_
    refine pw_istore_n dL_isAsset_1 rfl (by decide) rfl ?_
    refine pw_aload_n dL_isAsset_2 rfl rfl ?_
    refine pw_iload_n dL_isAsset_3 rfl rfl ?_
    refine pw_iconst (v := 0) dL_isAsset_4 (by decide) ?_
    refine pe_callVi dL_isAsset_5 oX_X7_asset lk_RL_19 (sp_x_asset hT hA hA8 hn hn4) (tw_k hT) rfl rfl (Nat.le_of_ble_eq_true rfl) (by decide) ?_
    rw [asset_0 hA hA8 ha, if_neg hf]
    refine pw_if_eq (tgt := 20) dL_isAsset_8 (by decide) (fun c_8 => absurd c_8 (by decide)) (fun c_8 => ?_)
    refine pw_aload_n dL_isAsset_11 rfl rfl ?_
    refine pw_iload_n dL_isAsset_12 rfl rfl ?_
    refine pw_iconst (v := 1) dL_isAsset_13 (by decide) ?_
    refine pe_callVi dL_isAsset_14 oX_X7_asset lk_RL_19 (sp_x_asset hT hA hA8 hn hn4) (tw_k hT) rfl rfl (Nat.le_of_ble_eq_true rfl) (by decide) ?_
    rw [asset_1 hA ha hA8, g5 a ha hf]
    refine pw_if_ne (tgt := 24) dL_isAsset_17 (by decide) (fun c_17 => absurd rfl c_17) (fun c_17 => ?_)
    refine pw_iconst (v := 1) dL_isAsset_20 (by decide) ?_
    refine pw_goto (tgt := 25) dL_isAsset_21 (by decide) ?_
    refine pw_istore_n dL_isAsset_25 rfl (by decide) rfl ?_
    exact K
