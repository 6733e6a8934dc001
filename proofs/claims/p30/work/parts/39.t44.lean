/-! ALL IS RIGHT -/
section BA
variable {I : pI} {F : pF} {p n nA nC h a x b : Nat}
theorem sumN_add {f g : Nat → Nat} : ∀ n, sumN (fun t => f t + g t) n = sumN f n + sumN g n
  | 0 => rfl
  | n + 1 => by
    rw [sumN, sumN, sumN, sumN_add n]
    omega
theorem sumN_0 : ∀ n, sumN (fun _ => 0) n = 0
  | 0 => rfl
  | n + 1 => by rw [sumN, sumN_0 n]
theorem sumN_1 {q c0 : Nat} : ∀ n, sumN (fun c => if c = c0 then q else 0) n = if c0 < n then q else 0
  | 0 => by rw [if_neg (by omega)]; rfl
  | n + 1 => by
    rw [sumN, sumN_1 n]
    by_cases e : n = c0
    · subst e
      rw [if_neg (by omega), if_pos rfl, if_pos (by omega)]
      omega
    · rw [if_neg e]
      by_cases e2 : c0 < n
      · rw [if_pos e2, if_pos (by omega)]; rfl
      · rw [if_neg e2, if_neg (by omega)]
theorem sumT_N {f : Nat → Nat} : ∀ n, sumT (fun c => nI (f c)) n = nI (sumN f n)
  | 0 => rfl
  | n + 1 => by rw [sumT, sumN, sumT_N n, nI_add]
def allN (I : pI) (p n : Nat) : Nat := sumN (fun t => if hgB I p t = true then (I (p + 18 + t) 2).toNatClampNeg else 0) n
theorem allC_N : ∀ {n : Nat}, (∀ t, t < n → ∃ q, q ≤ 6 ∧ I (p + 18 + t) 2 = nI q) → allBusyC I p n = nI (allN I p n)
  | 0, _ => rfl
  | n + 1, h => by
    have ih := allC_N (n := n) (fun t ht => h t (by omega))
    obtain ⟨q, hq, eq⟩ := h n (by omega)
    have e1 : allBusyC I p (n + 1) = allBusyC I p n + (if hgB I p n = true then I (p + 18 + n) 2 else 0) := rfl
    have e2 : allN I p (n + 1) = allN I p n + (if hgB I p n = true then (I (p + 18 + n) 2).toNatClampNeg else 0) := rfl
    rw [e1, e2, ih]
    by_cases hb : hgB I p n = true
    · rw [if_pos hb, if_pos hb, eq, nI_clamp (by omega), nI_add]
    · rw [if_neg hb, if_neg hb]
      exact Int32.add_zero _
theorem busy_all (hC5 : nC ≤ 5) : ∀ {n : Nat}, G2 p I x b nA nC n → sumN (fun c => busyN I p n c) nC = allN I p n
  | 0, _ => sumN_0 nC
  | n + 1, g => by
    have ih := busy_all hC5 (n := n) (fun t ht => g t (by omega))
    have e1 : (fun c => busyN I p (n + 1) c) = fun c => busyN I p n c + (if bzB I p c n = true then (I (p + 18 + n) 2).toNatClampNeg else 0) := rfl
    have e2 : allN I p (n + 1) = allN I p n + (if hgB I p n = true then (I (p + 18 + n) 2).toNatClampNeg else 0) := rfl
    rw [e1, sumN_add, ih, e2]
    congr 1
    obtain ⟨a, s, q, k, hh, fr, sl, st, ⟨y1, y2, y3, y4, y5, y6, y7, y8⟩, ⟨z0, z1, z2, z3, z4, z5, z6, z7, z10⟩, w1, w2, w3, w4, w5⟩ := g n (by omega)
    have hh := hg_of (p := p) (t := n) z7 y8
    by_cases e : 1 ≤ st ∧ st ≤ 3
    · rw [decide_eq_true e] at hh
      obtain ⟨c0, hc, ec, -⟩ := w3 e.1 (by omega)
      rw [hh, if_pos rfl]
      have e3 : sumN (fun c => if bzB I p c n = true then (I (p + 18 + n) 2).toNatClampNeg else 0) nC = sumN (fun c => if c = c0 then (I (p + 18 + n) 2).toNatClampNeg else 0) nC := sumN_c fun c hc2 => by
        unfold bzB
        rw [hh, ec]
        by_cases e4 : c = c0
        · subst e4
          simp
        · have : ¬ nI c0 = nI c := by rw [nI_eq (by omega) (by omega)]; omega
          simp [this, e4]
      rw [e3, sumN_1, if_pos hc]
    · rw [decide_eq_false e] at hh
      rw [hh, if_neg (by decide)]
      have e3 : sumN (fun c => if bzB I p c n = true then (I (p + 18 + n) 2).toNatClampNeg else 0) nC = sumN (fun _ => 0) nC := sumN_c fun c hc2 => by
        unfold bzB
        rw [hh]
        simp
      rw [e3, sumN_0]
theorem real_no (hA : I p 4 = nI nA) : realV F I p (nI nA) 0 = 2143289344 := by
  unfold realV
  rw [hA, if_neg (fun z => Int32.lt_irrefl z.2)]
end BA

set_option maxRecDepth 4000 in
theorem ar_A {Z : pZ} {σ : pT} {I : pI} {F : pF} {x nA nC n h : Nat} (hT : isTW σ x) (g : Gd (x + 1) I F nA nC n h) (kk : PW cL_areRight mL_areRight Z 29 [.ref x, .int 1, .int (nI n), pJ, pJ, pJ] [] σ I F (0, 0)) : PW cL_areRight mL_areRight Z 4 [.ref x, .int 1, .int 0, pJ, pJ, pJ] [] σ I F (0, 0) := by
  have g0 := g
  obtain ⟨⟨hA, hA8, hC, hC5, hn, hn4, h7, h8⟩, g2, g3, g4, g5, g6, g7⟩ := g
  have hW := G2_W g2
  have hKd := G2_K g2
  refine (dn (fun k => PW cL_areRight mL_areRight Z 4 [.ref x, .int 1, .int (nI k), pJ, pJ, pJ] [] σ I F (0, 0)) n ?_ ?_) 0 (Nat.zero_le _)
  · refine pw_iload_n dL_areRight_4 rfl rfl ?_
    refine pw_aload_n dL_areRight_5 rfl rfl ?_
    refine pw_iconst (v := 4) dL_areRight_6 (by decide) ?_
    refine pe_callVi dL_areRight_7 oX_X7_count lk_RL_13 (sp_x_count hT hA hA8 hn hn4) (tw_k hT) rfl rfl (Nat.le_of_ble_eq_true rfl) (by decide) ?_
    rw [count_4, hn]
    refine pw_icmp_ge (tgt := 29) dL_areRight_10 (by decide) (fun c_10 => ?_) (fun c_10 => absurd (Int32.le_refl _) c_10)
    exact kk
  · intro k hk ih
    refine pw_iload_n dL_areRight_4 rfl rfl ?_
    refine pw_aload_n dL_areRight_5 rfl rfl ?_
    refine pw_iconst (v := 4) dL_areRight_6 (by decide) ?_
    refine pe_callVi dL_areRight_7 oX_X7_count lk_RL_13 (sp_x_count hT hA hA8 hn hn4) (tw_k hT) rfl rfl (Nat.le_of_ble_eq_true rfl) (by decide) ?_
    rw [count_4, hn]
    refine pw_icmp_ge (tgt := 29) dL_areRight_10 (by decide) (fun c_10 => absurd c_10 (nI_ge hk (by omega))) (fun c_10 => ?_)
    refine pw_iload_n dL_areRight_13 rfl rfl ?_
    refine pw_if_eq (tgt := 29) dL_areRight_14 (by decide) (fun c_14 => absurd c_14 (by decide)) (fun c_14 => ?_)
    refine pw_aload_n dL_areRight_17 rfl rfl ?_
    refine pw_iload_n dL_areRight_18 rfl rfl ?_
    refine pe_callSi dL_areRight_19 oX_L_isTask lk_RL_93 (sp_isTask hT g0 hk) rfl rfl (Nat.le_of_ble_eq_true rfl) (by decide) ?_
    refine pw_istore_n dL_areRight_22 rfl (by decide) rfl ?_
    refine pw_iinc (v := nI (k + 1)) dL_areRight_23 rfl (nI_add _ _) rfl ?_
    refine pw_goto (tgt := 4) dL_areRight_26 (by decide) ?_
    exact ih

set_option maxRecDepth 4000 in
theorem ar_B {Z : pZ} {σ : pT} {I : pI} {F : pF} {x nA nC n h : Nat} (hT : isTW σ x) (g : Gd (x + 1) I F nA nC n h) (kk : PW cL_areRight mL_areRight Z 56 [.ref x, .int 1, .int (nI nA), pJ, pJ, pJ] [] σ I F (0, 0)) : PW cL_areRight mL_areRight Z 31 [.ref x, .int 1, .int 0, pJ, pJ, pJ] [] σ I F (0, 0) := by
  have g0 := g
  obtain ⟨⟨hA, hA8, hC, hC5, hn, hn4, h7, h8⟩, g2, g3, g4, g5, g6, g7⟩ := g
  have hW := G2_W g2
  have hKd := G2_K g2
  refine (dn (fun k => PW cL_areRight mL_areRight Z 31 [.ref x, .int 1, .int (nI k), pJ, pJ, pJ] [] σ I F (0, 0)) nA ?_ ?_) 0 (Nat.zero_le _)
  · refine pw_iload_n dL_areRight_31 rfl rfl ?_
    refine pw_aload_n dL_areRight_32 rfl rfl ?_
    refine pw_iconst (v := 1) dL_areRight_33 (by decide) ?_
    refine pe_callVi dL_areRight_34 oX_X7_count lk_RL_13 (sp_x_count hT hA hA8 hn hn4) (tw_k hT) rfl rfl (Nat.le_of_ble_eq_true rfl) (by decide) ?_
    rw [count_1, hA]
    refine pw_icmp_ge (tgt := 56) dL_areRight_37 (by decide) (fun c_37 => ?_) (fun c_37 => absurd (Int32.le_refl _) c_37)
    exact kk
  · intro k hk ih
    refine pw_iload_n dL_areRight_31 rfl rfl ?_
    refine pw_aload_n dL_areRight_32 rfl rfl ?_
    refine pw_iconst (v := 1) dL_areRight_33 (by decide) ?_
    refine pe_callVi dL_areRight_34 oX_X7_count lk_RL_13 (sp_x_count hT hA hA8 hn hn4) (tw_k hT) rfl rfl (Nat.le_of_ble_eq_true rfl) (by decide) ?_
    rw [count_1, hA]
    refine pw_icmp_ge (tgt := 56) dL_areRight_37 (by decide) (fun c_37 => absurd c_37 (nI_ge hk (by omega))) (fun c_37 => ?_)
    refine pw_iload_n dL_areRight_40 rfl rfl ?_
    refine pw_if_eq (tgt := 56) dL_areRight_41 (by decide) (fun c_41 => absurd c_41 (by decide)) (fun c_41 => ?_)
    refine pw_aload_n dL_areRight_44 rfl rfl ?_
    refine pw_iload_n dL_areRight_45 rfl rfl ?_
    refine pe_callSi dL_areRight_46 oX_L_isAsset lk_RL_97 (sp_isAsset hT g0 hk) rfl rfl (Nat.le_of_ble_eq_true rfl) (by decide) ?_
    refine pw_istore_n dL_areRight_49 rfl (by decide) rfl ?_
    refine pw_iinc (v := nI (k + 1)) dL_areRight_50 rfl (nI_add _ _) rfl ?_
    refine pw_goto (tgt := 31) dL_areRight_53 (by decide) ?_
    exact ih

set_option maxRecDepth 4000 in
theorem ar_D {Z : pZ} {σ : pT} {I : pI} {F : pF} {x nA nC n h : Nat} (hT : isTW σ x) (g : Gd (x + 1) I F nA nC n h) {k : Nat} {B : Int32} (hk : k < nC) (kk : PW cL_areRight mL_areRight Z 134 [.ref x, .int 1, .int B, .int (nI k), .int (nI (busyN I (x + 1) n k)), .int (nI n)] [] σ I F (0, 0)) : PW cL_areRight mL_areRight Z 79 [.ref x, .int 1, .int B, .int (nI k), .int 0, .int 0] [] σ I F (0, 0) := by
  have g0 := g
  obtain ⟨⟨hA, hA8, hC, hC5, hn, hn4, h7, h8⟩, g2, g3, g4, g5, g6, g7⟩ := g
  have hW := G2_W g2
  have hKd := G2_K g2
  have ek : busyC I (x + 1) n (nI k) = nI (busyN I (x + 1) n k) := busyC_N (G2_Q g2)
  rw [← ek] at kk
  refine (dn (fun j => PW cL_areRight mL_areRight Z 79 [.ref x, .int 1, .int B, .int (nI k), .int (sumT (fun t => if (decide (I (x + 1 + 18 + t) 8 = nI k) && decide (1 ≤ I (x + 1 + 18 + t) 7 ∧ I (x + 1 + 18 + t) 7 ≤ 3)) = true then I (x + 1 + 18 + t) 2 else 0) j), .int (nI j)] [] σ I F (0, 0)) n ?_ ?_) 0 (Nat.zero_le _)
  · refine pw_iload dL_areRight_79 rfl ?_
    refine pw_aload_n dL_areRight_81 rfl rfl ?_
    refine pw_iconst (v := 4) dL_areRight_82 (by decide) ?_
    refine pe_callVi dL_areRight_83 oX_X7_count lk_RL_13 (sp_x_count hT hA hA8 hn hn4) (tw_k hT) rfl rfl (Nat.le_of_ble_eq_true rfl) (by decide) ?_
    rw [count_4, hn]
    refine pw_icmp_ge (tgt := 134) dL_areRight_86 (by decide) (fun c_86 => ?_) (fun c_86 => absurd (Int32.le_refl _) c_86)
    exact kk
  · intro j hj ih
    obtain ⟨a, s, q, kd, hh, fr, sl, st, ⟨y1, y2, y3, y4, y5, y6, y7, y8⟩, ⟨z0, z1, z2, z3, z4, z5, z6, est, z10⟩, w1, w2, w3, w4, w5⟩ := g2 j hj
    refine pw_iload dL_areRight_79 rfl ?_
    refine pw_aload_n dL_areRight_81 rfl rfl ?_
    refine pw_iconst (v := 4) dL_areRight_82 (by decide) ?_
    refine pe_callVi dL_areRight_83 oX_X7_count lk_RL_13 (sp_x_count hT hA hA8 hn hn4) (tw_k hT) rfl rfl (Nat.le_of_ble_eq_true rfl) (by decide) ?_
    rw [count_4, hn]
    refine pw_icmp_ge (tgt := 134) dL_areRight_86 (by decide) (fun c_86 => absurd c_86 (nI_ge hj (by omega))) (fun c_86 => ?_)
    refine pw_iload dL_areRight_89 rfl ?_
    refine pw_aload_n dL_areRight_91 rfl rfl ?_
    refine pw_iload dL_areRight_92 rfl ?_
    refine pw_bipush (v := 8) dL_areRight_94 (by decide) ?_
    refine pe_callVi dL_areRight_96 oX_X7_task lk_RL_32 (sp_x_task hT hA hA8 hn hn4 hW hKd) (tw_k hT) rfl rfl (Nat.le_of_ble_eq_true rfl) (by decide) ?_
    rw [task_8 hn hn4 hj]
    refine pw_iload_n dL_areRight_99 rfl rfl ?_
    refine pw_icmp_ne (tgt := 124) dL_areRight_100 (by decide) (fun c_100 => ?_) (fun c_100 => ?_)
    · refine pw_iconst (v := 0) dL_areRight_124 (by decide) ?_
      refine pw_iadd dL_areRight_125 ?_
      refine pw_istore dL_areRight_126 (by decide) rfl ?_
      refine pw_iinc (v := nI (j + 1)) dL_areRight_128 rfl (nI_add _ _) rfl ?_
      refine pw_goto (tgt := 79) dL_areRight_131 (by decide) ?_
      have hP : (fun t => if (decide (I (x + 1 + 18 + t) 8 = nI k) && decide (1 ≤ I (x + 1 + 18 + t) 7 ∧ I (x + 1 + 18 + t) 7 ≤ 3)) = true then I (x + 1 + 18 + t) 2 else 0) j = 0 := by
        simp [c_100]
      rw [sum_t hP] at ih
      exact ih
    · refine pw_aload_n dL_areRight_103 rfl rfl ?_
      refine pw_iload dL_areRight_104 rfl ?_
      refine pw_iconst (v := 1) dL_areRight_106 (by decide) ?_
      refine pe_callVi dL_areRight_107 oX_X7_task lk_RL_32 (sp_x_task hT hA hA8 hn hn4 hW hKd) (tw_k hT) rfl rfl (Nat.le_of_ble_eq_true rfl) (by decide) ?_
      rw [task_1 hn hn4 hj, est]
      refine pw_iconst (v := 4) dL_areRight_110 (by decide) ?_
      refine pw_icmp_ge (tgt := 124) dL_areRight_111 (by decide) (fun c_111 => ?_) (fun c_111 => ?_)
      · refine pw_iconst (v := 0) dL_areRight_124 (by decide) ?_
        refine pw_iadd dL_areRight_125 ?_
        refine pw_istore dL_areRight_126 (by decide) rfl ?_
        refine pw_iinc (v := nI (j + 1)) dL_areRight_128 rfl (nI_add _ _) rfl ?_
        refine pw_goto (tgt := 79) dL_areRight_131 (by decide) ?_
        have hP : (fun t => if (decide (I (x + 1 + 18 + t) 8 = nI k) && decide (1 ≤ I (x + 1 + 18 + t) 7 ∧ I (x + 1 + 18 + t) 7 ≤ 3)) = true then I (x + 1 + 18 + t) 2 else 0) j = 0 := by
          have h0 := (nI_leI (a := 4) (by decide) (by omega)).mp c_111
          show (if (decide (I (x + 1 + 18 + j) 8 = nI k) && hgB I (x + 1) j) = true then I (x + 1 + 18 + j) 2 else 0) = 0
          rw [hg_of est (by omega), decide_eq_false (p := 1 ≤ st ∧ st ≤ 3) (by omega), Bool.and_false, if_neg (by decide)]
        rw [sum_t hP] at ih
        exact ih
      · refine pw_aload_n dL_areRight_114 rfl rfl ?_
        refine pw_iload dL_areRight_115 rfl ?_
        refine pw_iconst (v := 3) dL_areRight_117 (by decide) ?_
        refine pe_callVi dL_areRight_118 oX_X7_task lk_RL_32 (sp_x_task hT hA hA8 hn hn4 hW hKd) (tw_k hT) rfl rfl (Nat.le_of_ble_eq_true rfl) (by decide) ?_
        rw [task_3 hn hn4 hj]
        refine pw_goto (tgt := 125) dL_areRight_121 (by decide) ?_
        refine pw_iadd dL_areRight_125 ?_
        refine pw_istore dL_areRight_126 (by decide) rfl ?_
        refine pw_iinc (v := nI (j + 1)) dL_areRight_128 rfl (nI_add _ _) rfl ?_
        refine pw_goto (tgt := 79) dL_areRight_131 (by decide) ?_
        have hP : (fun t => if (decide (I (x + 1 + 18 + t) 8 = nI k) && decide (1 ≤ I (x + 1 + 18 + t) 7 ∧ I (x + 1 + 18 + t) 7 ≤ 3)) = true then I (x + 1 + 18 + t) 2 else 0) j = I (x + 1 + 18 + j) 2 := by
          have h0 : ¬ 4 ≤ st := fun z => c_111 (nI_le (a := 4) z (by omega))
          have h1 : 1 ≤ st := by
            rcases Nat.eq_zero_or_pos st with e | e
            · exfalso
              have h5 := w4 (Or.inl e)
              rw [c_100] at h5
              have h6 := nI_pos (n := k) (by omega)
              rw [h5] at h6
              exact h6 (by decide)
            · exact e
          show (if (decide (I (x + 1 + 18 + j) 8 = nI k) && hgB I (x + 1) j) = true then I (x + 1 + 18 + j) 2 else 0) = _
          rw [hg_of est (by omega), decide_eq_true (p := 1 ≤ st ∧ st ≤ 3) (by omega), decide_eq_true c_100]
          rfl
        rw [sum_t hP] at ih
        exact ih

set_option maxRecDepth 4000 in
theorem ar_C {Z : pZ} {σ : pT} {I : pI} {F : pF} {x nA nC n h : Nat} (hT : isTW σ x) (g : Gd (x + 1) I F nA nC n h) (kk : PW cL_areRight mL_areRight Z 173 [.ref x, .int 1, .int (sumT (fun c => nI (busyN I (x + 1) n c)) nC), .int (nI nC), pJ, pJ] [] σ I F (0, 0)) : PW cL_areRight mL_areRight Z 60 [.ref x, .int 1, .int 0, .int 0, pJ, pJ] [] σ I F (0, 0) := by
  have g0 := g
  obtain ⟨⟨hA, hA8, hC, hC5, hn, hn4, h7, h8⟩, g2, g3, g4, g5, g6, g7⟩ := g
  have hW := G2_W g2
  have hKd := G2_K g2
  refine (dn (fun k => PW cL_areRight mL_areRight Z 60 [.ref x, .int 1, .int (sumT (fun c => nI (busyN I (x + 1) n c)) k), .int (nI k), pJ, pJ] [] σ I F (0, 0)) nC ?_ ?_) 0 (Nat.zero_le _)
  · refine pw_iload_n dL_areRight_60 rfl rfl ?_
    refine pw_aload_n dL_areRight_61 rfl rfl ?_
    refine pw_iconst (v := 3) dL_areRight_62 (by decide) ?_
    refine pe_callVi dL_areRight_63 oX_X7_count lk_RL_13 (sp_x_count hT hA hA8 hn hn4) (tw_k hT) rfl rfl (Nat.le_of_ble_eq_true rfl) (by decide) ?_
    rw [count_3, hC]
    refine pw_icmp_ge (tgt := 173) dL_areRight_66 (by decide) (fun c_66 => ?_) (fun c_66 => absurd (Int32.le_refl _) c_66)
    exact kk
  · intro k hk ih
    obtain ⟨m, m1, m2, m3⟩ := g7 k hk
    refine pw_iload_n dL_areRight_60 rfl rfl ?_
    refine pw_aload_n dL_areRight_61 rfl rfl ?_
    refine pw_iconst (v := 3) dL_areRight_62 (by decide) ?_
    refine pe_callVi dL_areRight_63 oX_X7_count lk_RL_13 (sp_x_count hT hA hA8 hn hn4) (tw_k hT) rfl rfl (Nat.le_of_ble_eq_true rfl) (by decide) ?_
    rw [count_3, hC]
    refine pw_icmp_ge (tgt := 173) dL_areRight_66 (by decide) (fun c_66 => absurd c_66 (nI_ge hk (by omega))) (fun c_66 => ?_)
    refine pw_iload_n dL_areRight_69 rfl rfl ?_
    refine pw_if_eq (tgt := 173) dL_areRight_70 (by decide) (fun c_70 => absurd c_70 (by decide)) (fun c_70 => ?_)
    refine pw_iconst (v := 0) dL_areRight_73 (by decide) ?_
    refine pw_istore dL_areRight_74 (by decide) rfl ?_
    refine pw_iconst (v := 0) dL_areRight_76 (by decide) ?_
    refine pw_istore dL_areRight_77 (by decide) rfl ?_
    refine ar_D hT g0 hk ?_
    refine pw_aload_n dL_areRight_134 rfl rfl ?_
    refine pw_iload_n dL_areRight_135 rfl rfl ?_
    refine pw_iconst (v := 2) dL_areRight_136 (by decide) ?_
    refine pe_callVi dL_areRight_137 oX_X7_crew lk_RL_29 (sp_x_crew hT hC hC5 hn hn4) (tw_k hT) rfl rfl (Nat.le_of_ble_eq_true rfl) (by decide) ?_
    rw [crew_2 hC hC5 hk, busyC_N (G2_Q g2)]
    refine pw_iload dL_areRight_140 rfl ?_
    refine pw_icmp_ne (tgt := 160) dL_areRight_142 (by decide) (fun c_142 => absurd rfl c_142) (fun c_142 => ?_)
    refine pw_iload dL_areRight_145 rfl ?_
    refine pw_aload_n dL_areRight_147 rfl rfl ?_
    refine pw_iload_n dL_areRight_148 rfl rfl ?_
    refine pw_iconst (v := 0) dL_areRight_149 (by decide) ?_
    refine pe_callVi dL_areRight_150 oX_X7_crew lk_RL_29 (sp_x_crew hT hC hC5 hn hn4) (tw_k hT) rfl rfl (Nat.le_of_ble_eq_true rfl) (by decide) ?_
    rw [crew_0 hC hC5 hk, m2]
    refine pw_icmp_gt (tgt := 160) dL_areRight_153 (by decide) (fun c_153 => absurd c_153 (nI_nlt m3 (by omega))) (fun c_153 => ?_)
    refine pw_iconst (v := 1) dL_areRight_156 (by decide) ?_
    refine pw_goto (tgt := 161) dL_areRight_157 (by decide) ?_
    refine pw_istore_n dL_areRight_161 rfl (by decide) rfl ?_
    refine pw_iload_n dL_areRight_162 rfl rfl ?_
    refine pw_iload dL_areRight_163 rfl ?_
    refine pw_iadd dL_areRight_165 ?_
    refine pw_istore_n dL_areRight_166 rfl (by decide) rfl ?_
    refine pw_iinc (v := nI (k + 1)) dL_areRight_167 rfl (nI_add _ _) rfl ?_
    refine pw_goto (tgt := 60) dL_areRight_170 (by decide) ?_
    exact pw_weak (ls' := [.ref x, .int _, .int _, .int _, pJ, pJ]) rfl (wk_same (wk_same (wk_same (wk_same (wk_drop (wk_drop wk_nil)))))) ih

set_option maxRecDepth 4000 in
theorem sp_areRight {σ : pT} {I : pI} {F : pF} {x nA nC n h : Nat} (hT : isTW σ x) (g : Gd (x + 1) I F nA nC n h) : PE yL_areRight cL_areRight mL_areRight [.ref x] σ I F (some (.int 1)) I F := by
  have g0 := g
  obtain ⟨⟨hA, hA8, hC, hC5, hn, hn4, h7, h8⟩, g2, g3, g4, g5, g6, g7⟩ := g
  have hW := G2_W g2
  have hKd := G2_K g2
  have eB : sumT (fun c => nI (busyN I (x + 1) n c)) nC = allBusyC I (x + 1) n := by rw [sumT_N, busy_all hC5 g2, allC_N (G2_Q g2)]
  refine PE.of oP_L_areRight (catOK rfl) (Nat.le_of_ble_eq_true rfl) ?_
  show PW _ _ _ 0 [.ref x, pJ, pJ, pJ, pJ, pJ] [] _ _ _ _
  refine pw_iconst (v := 1) dL_areRight_0 (by decide) ?_
  refine pw_istore_n dL_areRight_1 rfl (by decide) rfl ?_
  refine pw_iconst (v := 0) dL_areRight_2 (by decide) ?_
  refine pw_istore_n dL_areRight_3 rfl (by decide) rfl ?_
  refine ar_A hT g0 ?_
  refine pw_iconst (v := 0) dL_areRight_29 (by decide) ?_
  refine pw_istore_n dL_areRight_30 rfl (by decide) rfl ?_
  refine ar_B hT g0 ?_
  refine pw_iconst (v := 0) dL_areRight_56 (by decide) ?_
  refine pw_istore_n dL_areRight_57 rfl (by decide) rfl ?_
  refine pw_iconst (v := 0) dL_areRight_58 (by decide) ?_
  refine pw_istore_n dL_areRight_59 rfl (by decide) rfl ?_
  refine ar_C hT g0 ?_
  refine pw_iload_n dL_areRight_173 rfl rfl ?_
  refine pw_if_eq (tgt := 215) dL_areRight_174 (by decide) (fun c_174 => absurd c_174 (by decide)) (fun c_174 => ?_)
  refine pw_iload_n dL_areRight_177 rfl rfl ?_
  refine pw_aload_n dL_areRight_178 rfl rfl ?_
  refine pw_bipush (v := 14) dL_areRight_179 (by decide) ?_
  refine pe_callVi dL_areRight_181 oX_X7_count lk_RL_13 (sp_x_count hT hA hA8 hn hn4) (tw_k hT) rfl rfl (Nat.le_of_ble_eq_true rfl) (by decide) ?_
  rw [count_14]
  refine pw_icmp_ne (tgt := 215) dL_areRight_184 (by decide) (fun c_184 => absurd eB c_184) (fun c_184 => ?_)
  refine pw_aload_n dL_areRight_187 rfl rfl ?_
  refine pw_aload_n dL_areRight_188 rfl rfl ?_
  refine pw_iconst (v := 1) dL_areRight_189 (by decide) ?_
  refine pe_callVi dL_areRight_190 oX_X7_count lk_RL_13 (sp_x_count hT hA hA8 hn hn4) (tw_k hT) rfl rfl (Nat.le_of_ble_eq_true rfl) (by decide) ?_
  rw [count_1, hA]
  refine pw_iconst (v := 0) dL_areRight_193 (by decide) ?_
  refine pe_callVf dL_areRight_194 oX_X7_real lk_RL_88 (sp_x_real hT hA hA8) (tw_k hT) rfl rfl (Nat.le_of_ble_eq_true rfl) (by decide) ?_
  rw [real_no hA]
  refine pw_aload_n dL_areRight_197 rfl rfl ?_
  refine pw_aload_n dL_areRight_198 rfl rfl ?_
  refine pw_iconst (v := 1) dL_areRight_199 (by decide) ?_
  refine pe_callVi dL_areRight_200 oX_X7_count lk_RL_13 (sp_x_count hT hA hA8 hn hn4) (tw_k hT) rfl rfl (Nat.le_of_ble_eq_true rfl) (by decide) ?_
  rw [count_1, hA]
  refine pw_iconst (v := 0) dL_areRight_203 (by decide) ?_
  refine pe_callVf dL_areRight_204 oX_X7_real lk_RL_88 (sp_x_real hT hA hA8) (tw_k hT) rfl rfl (Nat.le_of_ble_eq_true rfl) (by decide) ?_
  rw [real_no hA]
  refine pw_fcmp dL_areRight_207 ?_
  refine pw_if_eq (tgt := 215) dL_areRight_208 (by decide) (fun c_208 => absurd c_208 (by decide +kernel)) (fun c_208 => ?_)
  refine pw_iconst (v := 1) dL_areRight_211 (by decide) ?_
  refine pw_goto (tgt := 216) dL_areRight_212 (by decide) ?_
  exact pw_zret dL_areRight_216 rfl (by first | rfl | decide) ⟨rfl, rfl, rfl, rfl⟩
