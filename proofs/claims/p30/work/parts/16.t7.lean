/-! a plant copied -/
def Cpk (p r : Nat) (I : pI) (F : pF) (kA kC kT kB : Nat) (I' : pI) (F' : pF) : Prop :=
  (∀ i, (i < p ∨ p + 42 ≤ i) → I' i = I i ∧ F' i = F i) ∧
  (∀ a, a < kA → I' (p + 5 + a) 0 = I (r + 5 + a) 0 ∧ I' (p + 5 + a) 4 = I (r + 5 + a) 4 ∧ I' (p + 5 + a) 5 = I (r + 5 + a) 5 ∧ F' (p + 5 + a) 1 = F (r + 5 + a) 1 ∧ F' (p + 5 + a) 2 = F (r + 5 + a) 2 ∧ F' (p + 5 + a) 3 = F (r + 5 + a) 3) ∧
  (∀ c, c < kC → I' (p + 13 + c) 0 = I (r + 13 + c) 0 ∧ I' (p + 13 + c) 1 = I (r + 13 + c) 1) ∧
  (∀ t j, t < kT → j < 12 → I' (p + 18 + t) j = I (r + 18 + t) j) ∧
  (∀ k, k < kB → I' (p + 4) k = I (r + 4) k)
def Cpy (p r : Nat) (I : pI) (F : pF) (I' : pI) (F' : pF) : Prop := Cpk p r I F 8 5 24 5 I' F' ∧ I' p 4 = I r 4 ∧ I' p 5 = I r 5 ∧ I' p 6 = I r 6 ∧ I' p 7 = I r 7
theorem Cpk_0 {p r : Nat} {I : pI} {F : pF} : Cpk p r I F 0 0 0 0 I F := ⟨fun _ _ => ⟨rfl, rfl⟩, fun _ h => absurd h (Nat.not_lt_zero _), fun _ h => absurd h (Nat.not_lt_zero _), fun _ _ h => absurd h (Nat.not_lt_zero _), fun _ h => absurd h (Nat.not_lt_zero _)⟩
theorem Cpk_A {p r k : Nat} {I I' : pI} {F F' : pF} (h : Cpk p r I F k 0 0 0 I' F') (hk : k < 8) (hd : p + 42 ≤ r ∨ r + 42 ≤ p) : Cpk p r I F (k + 1) 0 0 0 (up2 (up2 (up2 I' (p + 5 + k) 0 (I' (r + 5 + k) 0)) (p + 5 + k) 4 (I' (r + 5 + k) 4)) (p + 5 + k) 5 (I' (r + 5 + k) 5)) (up2 (up2 (up2 F' (p + 5 + k) 1 (F' (r + 5 + k) 1)) (p + 5 + k) 2 (F' (r + 5 + k) 2)) (p + 5 + k) 3 (F' (r + 5 + k) 3)) := by
  obtain ⟨h1, h2, h3, h4, h5⟩ := h
  have e1 := (h1 (r + 5 + k) (by omega)).1
  have e2 := (h1 (r + 5 + k) (by omega)).2
  rw [e1, e2]
  refine ⟨fun i hi => ?_, fun a ha => ?_, fun c hc => absurd hc (Nat.not_lt_zero _), fun _ _ h => absurd h (Nat.not_lt_zero _), fun _ h => absurd h (Nat.not_lt_zero _)⟩
  · rw [up2_row (by omega), up2_row (by omega), up2_row (by omega), up2_row (by omega), up2_row (by omega), up2_row (by omega)]
    exact h1 i hi
  · by_cases hak : a = k
    · subst hak
      simp [up2]
    · have hne : ¬ p + 5 + a = p + 5 + k := by omega
      simp only [up2, hne, false_and, if_false]
      exact h2 a (by omega)
theorem Cpk_C {p r k : Nat} {I I' : pI} {F F' : pF} (h : Cpk p r I F 8 k 0 0 I' F') (hk : k < 5) (hd : p + 42 ≤ r ∨ r + 42 ≤ p) : Cpk p r I F 8 (k + 1) 0 0 (up2 (up2 I' (p + 13 + k) 0 (I' (r + 13 + k) 0)) (p + 13 + k) 1 (I' (r + 13 + k) 1)) F' := by
  obtain ⟨h1, h2, h3, h4, h5⟩ := h
  have e1 := (h1 (r + 13 + k) (by omega)).1
  rw [e1]
  refine ⟨fun i hi => ?_, fun a ha => ?_, fun c hc => ?_, fun _ _ h => absurd h (Nat.not_lt_zero _), fun _ h => absurd h (Nat.not_lt_zero _)⟩
  · rw [up2_row (by omega), up2_row (by omega)]
    exact h1 i hi
  · have hne : ¬ p + 5 + a = p + 13 + k := by omega
    simp only [up2, hne, false_and, if_false]
    exact h2 a ha
  · by_cases hak : c = k
    · subst hak
      simp [up2]
    · have hne : ¬ p + 13 + c = p + 13 + k := by omega
      simp only [up2, hne, false_and, if_false]
      exact h3 c (by omega)
theorem Cpk_T {p r k : Nat} {I I' : pI} {F F' : pF} (h : Cpk p r I F 8 5 k 0 I' F') (hk : k < 24) (hd : p + 42 ≤ r ∨ r + 42 ≤ p) : Cpk p r I F 8 5 (k + 1) 0 (up2 (up2 (up2 (up2 (up2 (up2 (up2 (up2 (up2 (up2 (up2 (up2 I' (p + 18 + k) 0 (I' (r + 18 + k) 0)) (p + 18 + k) 1 (I' (r + 18 + k) 1)) (p + 18 + k) 2 (I' (r + 18 + k) 2)) (p + 18 + k) 3 (I' (r + 18 + k) 3)) (p + 18 + k) 4 (I' (r + 18 + k) 4)) (p + 18 + k) 5 (I' (r + 18 + k) 5)) (p + 18 + k) 6 (I' (r + 18 + k) 6)) (p + 18 + k) 7 (I' (r + 18 + k) 7)) (p + 18 + k) 8 (I' (r + 18 + k) 8)) (p + 18 + k) 9 (I' (r + 18 + k) 9)) (p + 18 + k) 10 (I' (r + 18 + k) 10)) (p + 18 + k) 11 (I' (r + 18 + k) 11)) F' := by
  obtain ⟨h1, h2, h3, h4, h5⟩ := h
  have e1 := (h1 (r + 18 + k) (by omega)).1
  rw [e1]
  refine ⟨fun i hi => ?_, fun a ha => ?_, fun c hc => ?_, fun t j ht hj => ?_, fun _ h => absurd h (Nat.not_lt_zero _)⟩
  · rw [up2_row (by omega), up2_row (by omega), up2_row (by omega), up2_row (by omega), up2_row (by omega), up2_row (by omega), up2_row (by omega), up2_row (by omega), up2_row (by omega), up2_row (by omega), up2_row (by omega), up2_row (by omega)]
    exact h1 i hi
  · have hne : ¬ p + 5 + a = p + 18 + k := by omega
    simp only [up2, hne, false_and, if_false]
    exact h2 a ha
  · have hne : ¬ p + 13 + c = p + 18 + k := by omega
    simp only [up2, hne, false_and, if_false]
    exact h3 c hc
  · by_cases hak : t = k
    · subst hak
      rcases (show j = 0 ∨ j = 1 ∨ j = 2 ∨ j = 3 ∨ j = 4 ∨ j = 5 ∨ j = 6 ∨ j = 7 ∨ j = 8 ∨ j = 9 ∨ j = 10 ∨ j = 11 by omega) with rfl | rfl | rfl | rfl | rfl | rfl | rfl | rfl | rfl | rfl | rfl | rfl <;> simp [up2]
    · have hne : ¬ p + 18 + t = p + 18 + k := by omega
      simp only [up2, hne, false_and, if_false]
      exact h4 t j (by omega) hj
theorem Cpk_B {p r k : Nat} {I I' : pI} {F F' : pF} (h : Cpk p r I F 8 5 24 k I' F') (hk : k < 5) (hd : p + 42 ≤ r ∨ r + 42 ≤ p) : Cpk p r I F 8 5 24 (k + 1) (up2 I' (p + 4) k (I' (r + 4) k)) F' := by
  obtain ⟨h1, h2, h3, h4, h5⟩ := h
  have e1 := (h1 (r + 4) (by omega)).1
  rw [e1]
  refine ⟨fun i hi => ?_, fun a ha => ?_, fun c hc => ?_, fun t j ht hj => ?_, fun q hq => ?_⟩
  · rw [up2_row (by omega)]
    exact h1 i hi
  · rw [up2_ni (by omega), up2_ni (by omega), up2_ni (by omega)]
    exact h2 a ha
  · rw [up2_ni (by omega), up2_ni (by omega)]
    exact h3 c hc
  · rw [up2_ni (by omega)]
    exact h4 t j ht hj
  · by_cases hak : q = k
    · subst hak
      rw [up2_s]
    · rw [up2_nj hak]
      exact h5 q (by omega)
theorem Cpy_of {p r : Nat} {I I' : pI} {F F' : pF} (h : Cpk p r I F 8 5 24 5 I' F') (hd : p + 42 ≤ r ∨ r + 42 ≤ p) : Cpy p r I F (up2 (up2 (up2 (up2 I' p 4 (I' r 4)) p 5 (I' r 5)) p 6 (I' r 6)) p 7 (I' r 7)) F' := by
  obtain ⟨h1, h2, h3, h4, h5⟩ := h
  have e1 := (h1 r (by omega)).1
  rw [e1]
  refine ⟨⟨fun i hi => ?_, fun a ha => ?_, fun c hc => ?_, fun t j ht hj => ?_, fun q hq => ?_⟩, ?_, ?_, ?_, ?_⟩
  · rw [up2_row (by omega), up2_row (by omega), up2_row (by omega), up2_row (by omega)]
    exact h1 i hi
  · have hne : ¬ p + 5 + a = p := by omega
    simp only [up2, hne, false_and, if_false]
    exact h2 a ha
  · have hne : ¬ p + 13 + c = p := by omega
    simp only [up2, hne, false_and, if_false]
    exact h3 c hc
  · have hne : ¬ p + 18 + t = p := by omega
    simp only [up2, hne, false_and, if_false]
    exact h4 t j ht hj
  · have hne : ¬ p + 4 = p := by omega
    simp only [up2, hne, false_and, if_false]
    exact h5 q hq
  all_goals simp [up2]

set_option maxRecDepth 4000 in
theorem sp_copyFrom {σ : pT} {I : pI} {F : pF} {p r : Nat} (h : isPl σ p) (h2 : isPl σ r) (hd : p + 42 ≤ r ∨ r + 42 ≤ p) (hz : ∀ a, a < 8 → I (r + 5 + a) 4 = 0 ∨ I (r + 5 + a) 4 = 1) : PR yX5_copyFrom cX5_copyFrom mX5_copyFrom [.ref p, .ref r] σ I F fun v I' F' => v = none ∧ Cpy p r I F I' F' := by
  refine PR.of oP_X5_copyFrom (catOK rfl) (Nat.le_of_ble_eq_true rfl) ?_
  show PW _ _ _ 0 [.ref p, .ref r, pJ] [] _ _ _ _
  have L98 : ∀ k, k ≤ 5 → ∀ (I' : pI) (F' : pF), Cpk p r I F 8 5 24 k I' F' → PW cX5_copyFrom mX5_copyFrom (fM (qR σ (fun v I' F' => v = none ∧ Cpy p r I F I' F'))) 98 [.ref p, .ref r, .int (nI k)] [] σ I' F' (0, 0) := by
    refine dn (fun k => ∀ (I' : pI) (F' : pF), Cpk p r I F 8 5 24 k I' F' → PW cX5_copyFrom mX5_copyFrom (fM (qR σ (fun v I' F' => v = none ∧ Cpy p r I F I' F'))) 98 [.ref p, .ref r, .int (nI k)] [] σ I' F' (0, 0)) 5 ?_ ?_
    · intro I' F' hc
      refine pw_iload_n dX5_copyFrom_98 rfl rfl ?_
      refine pw_aload_n dX5_copyFrom_99 rfl rfl ?_
      refine pw_getR (x := (p + 4)) dX5_copyFrom_100 fd_RX5_29 (by decide) (pl_k h) rfl (pl_rB h) ?_
      refine pw_alenI dX5_copyFrom_103 (pl_kB h) ?_
      refine pw_icmp_ge (tgt := 125) dX5_copyFrom_104 (by decide) (fun c_104 => ?_) (fun c_104 => absurd (Int32.le_refl _) c_104)
      refine pw_aload_n dX5_copyFrom_125 rfl rfl ?_
      refine pw_aload_n dX5_copyFrom_126 rfl rfl ?_
      refine pw_getI dX5_copyFrom_127 fd_RX5_33 (by decide) (pl_k h2) rfl ?_
      refine pw_putI dX5_copyFrom_130 fd_RX5_33 (by decide) rfl ⟨rfl, rfl, rfl⟩ (pl_k h) ?_
      refine pw_aload_n dX5_copyFrom_133 rfl rfl ?_
      refine pw_aload_n dX5_copyFrom_134 rfl rfl ?_
      refine pw_getI dX5_copyFrom_135 fd_RX5_37 (by decide) (pl_k h2) rfl ?_
      refine pw_putI dX5_copyFrom_138 fd_RX5_37 (by decide) rfl ⟨rfl, rfl, rfl⟩ (pl_k h) ?_
      refine pw_aload_n dX5_copyFrom_141 rfl rfl ?_
      refine pw_aload_n dX5_copyFrom_142 rfl rfl ?_
      refine pw_getI dX5_copyFrom_143 fd_RX5_40 (by decide) (pl_k h2) rfl ?_
      refine pw_putI dX5_copyFrom_146 fd_RX5_40 (by decide) rfl ⟨rfl, rfl, rfl⟩ (pl_k h) ?_
      refine pw_aload_n dX5_copyFrom_149 rfl rfl ?_
      refine pw_aload_n dX5_copyFrom_150 rfl rfl ?_
      refine pw_getI dX5_copyFrom_151 fd_RX5_43 (by decide) (pl_k h2) rfl ?_
      refine pw_putI dX5_copyFrom_154 fd_RX5_43 (by decide) rfl ⟨rfl, rfl, rfl⟩ (pl_k h) ?_
      exact pw_vret dX5_copyFrom_157 rfl ⟨rfl, rfl, by simpa only [up2, show ¬ r = p by omega, false_and, if_false] using Cpy_of hc hd⟩
    · intro k hk ih
      intro I' F' hc
      refine pw_iload_n dX5_copyFrom_98 rfl rfl ?_
      refine pw_aload_n dX5_copyFrom_99 rfl rfl ?_
      refine pw_getR (x := (p + 4)) dX5_copyFrom_100 fd_RX5_29 (by decide) (pl_k h) rfl (pl_rB h) ?_
      refine pw_alenI dX5_copyFrom_103 (pl_kB h) ?_
      refine pw_icmp_ge (tgt := 125) dX5_copyFrom_104 (by decide) (fun c_104 => absurd c_104 (nI_ge (b := 5) (by omega) (by decide))) (fun c_104 => ?_)
      refine pw_aload_n dX5_copyFrom_107 rfl rfl ?_
      refine pw_getR (x := (p + 4)) dX5_copyFrom_108 fd_RX5_29 (by decide) (pl_k h) rfl (pl_rB h) ?_
      refine pw_iload_n dX5_copyFrom_111 rfl rfl ?_
      refine pw_aload_n dX5_copyFrom_112 rfl rfl ?_
      refine pw_getR (x := (r + 4)) dX5_copyFrom_113 fd_RX5_29 (by decide) (pl_k h2) rfl (pl_rB h2) ?_
      refine pw_iload_n dX5_copyFrom_116 rfl rfl ?_
      refine pw_ialdN (j := k) dX5_copyFrom_117 (pl_kB h2) (by omega) (by decide) ?_
      refine pw_iastN (j := k) dX5_copyFrom_118 (pl_kB h) (by omega) (by decide) ?_
      refine pw_iinc (v := nI (k + 1)) dX5_copyFrom_119 rfl (nI_add _ _) rfl ?_
      refine pw_goto (tgt := 98) dX5_copyFrom_122 (by decide) ?_
      exact ih _ _ (Cpk_B hc (by omega) hd)
  have L66 : ∀ k, k ≤ 24 → ∀ (I' : pI) (F' : pF), Cpk p r I F 8 5 k 0 I' F' → PW cX5_copyFrom mX5_copyFrom (fM (qR σ (fun v I' F' => v = none ∧ Cpy p r I F I' F'))) 66 [.ref p, .ref r, .int (nI k)] [] σ I' F' (0, 0) := by
    refine dn (fun k => ∀ (I' : pI) (F' : pF), Cpk p r I F 8 5 k 0 I' F' → PW cX5_copyFrom mX5_copyFrom (fM (qR σ (fun v I' F' => v = none ∧ Cpy p r I F I' F'))) 66 [.ref p, .ref r, .int (nI k)] [] σ I' F' (0, 0)) 24 ?_ ?_
    · intro I' F' hc
      refine pw_iload_n dX5_copyFrom_66 rfl rfl ?_
      refine pw_aload_n dX5_copyFrom_67 rfl rfl ?_
      refine pw_getR (x := (p + 3)) dX5_copyFrom_68 fd_RX5_25 (by decide) (pl_k h) rfl (pl_rT h) ?_
      refine pw_alenR dX5_copyFrom_71 (pl_kT h) (by decide) ?_
      refine pw_icmp_ge (tgt := 96) dX5_copyFrom_72 (by decide) (fun c_72 => ?_) (fun c_72 => absurd (Int32.le_refl _) c_72)
      refine pw_iconst (v := 0) dX5_copyFrom_96 (by decide) ?_
      refine pw_istore_n dX5_copyFrom_97 rfl (by decide) rfl ?_
      exact L98 0 (Nat.zero_le _) _ _ hc
    · intro k hk ih
      intro I' F' hc
      refine pw_iload_n dX5_copyFrom_66 rfl rfl ?_
      refine pw_aload_n dX5_copyFrom_67 rfl rfl ?_
      refine pw_getR (x := (p + 3)) dX5_copyFrom_68 fd_RX5_25 (by decide) (pl_k h) rfl (pl_rT h) ?_
      refine pw_alenR dX5_copyFrom_71 (pl_kT h) (by decide) ?_
      refine pw_icmp_ge (tgt := 96) dX5_copyFrom_72 (by decide) (fun c_72 => absurd c_72 (nI_ge (b := 24) (by omega) (by decide))) (fun c_72 => ?_)
      refine pw_aload_n dX5_copyFrom_75 rfl rfl ?_
      refine pw_getR (x := (p + 3)) dX5_copyFrom_76 fd_RX5_25 (by decide) (pl_k h) rfl (pl_rT h) ?_
      refine pw_iload_n dX5_copyFrom_79 rfl rfl ?_
      refine pw_aaldN (j := k) (x := (p + 18 + k)) dX5_copyFrom_80 (pl_kT h) (by omega) (by decide) (by decide) (pl_eT h (by omega)) ?_
      refine pw_aload_n dX5_copyFrom_81 rfl rfl ?_
      refine pw_getR (x := (r + 3)) dX5_copyFrom_82 fd_RX5_25 (by decide) (pl_k h2) rfl (pl_rT h2) ?_
      refine pw_iload_n dX5_copyFrom_85 rfl rfl ?_
      refine pw_aaldN (j := k) (x := (r + 18 + k)) dX5_copyFrom_86 (pl_kT h2) (by omega) (by decide) (by decide) (pl_eT h2 (by omega)) ?_
      refine pe_callVv dX5_copyFrom_87 oX_X6_copyFrom lk_RX5_56 (sp_T_copy (pl_oT h (by omega)) (pl_oT h2 (by omega)) (by omega)) (pl_oT h (by omega)) rfl rfl (Nat.le_of_ble_eq_true rfl) (by decide) ?_
      refine pw_iinc (v := nI (k + 1)) dX5_copyFrom_90 rfl (nI_add _ _) rfl ?_
      refine pw_goto (tgt := 66) dX5_copyFrom_93 (by decide) ?_
      exact ih _ _ (Cpk_T hc (by omega) hd)
  have L34 : ∀ k, k ≤ 5 → ∀ (I' : pI) (F' : pF), Cpk p r I F 8 k 0 0 I' F' → PW cX5_copyFrom mX5_copyFrom (fM (qR σ (fun v I' F' => v = none ∧ Cpy p r I F I' F'))) 34 [.ref p, .ref r, .int (nI k)] [] σ I' F' (0, 0) := by
    refine dn (fun k => ∀ (I' : pI) (F' : pF), Cpk p r I F 8 k 0 0 I' F' → PW cX5_copyFrom mX5_copyFrom (fM (qR σ (fun v I' F' => v = none ∧ Cpy p r I F I' F'))) 34 [.ref p, .ref r, .int (nI k)] [] σ I' F' (0, 0)) 5 ?_ ?_
    · intro I' F' hc
      refine pw_iload_n dX5_copyFrom_34 rfl rfl ?_
      refine pw_aload_n dX5_copyFrom_35 rfl rfl ?_
      refine pw_getR (x := (p + 2)) dX5_copyFrom_36 fd_RX5_19 (by decide) (pl_k h) rfl (pl_rC h) ?_
      refine pw_alenR dX5_copyFrom_39 (pl_kC h) (by decide) ?_
      refine pw_icmp_ge (tgt := 64) dX5_copyFrom_40 (by decide) (fun c_40 => ?_) (fun c_40 => absurd (Int32.le_refl _) c_40)
      refine pw_iconst (v := 0) dX5_copyFrom_64 (by decide) ?_
      refine pw_istore_n dX5_copyFrom_65 rfl (by decide) rfl ?_
      exact L66 0 (Nat.zero_le _) _ _ hc
    · intro k hk ih
      intro I' F' hc
      refine pw_iload_n dX5_copyFrom_34 rfl rfl ?_
      refine pw_aload_n dX5_copyFrom_35 rfl rfl ?_
      refine pw_getR (x := (p + 2)) dX5_copyFrom_36 fd_RX5_19 (by decide) (pl_k h) rfl (pl_rC h) ?_
      refine pw_alenR dX5_copyFrom_39 (pl_kC h) (by decide) ?_
      refine pw_icmp_ge (tgt := 64) dX5_copyFrom_40 (by decide) (fun c_40 => absurd c_40 (nI_ge (b := 5) (by omega) (by decide))) (fun c_40 => ?_)
      refine pw_aload_n dX5_copyFrom_43 rfl rfl ?_
      refine pw_getR (x := (p + 2)) dX5_copyFrom_44 fd_RX5_19 (by decide) (pl_k h) rfl (pl_rC h) ?_
      refine pw_iload_n dX5_copyFrom_47 rfl rfl ?_
      refine pw_aaldN (j := k) (x := (p + 13 + k)) dX5_copyFrom_48 (pl_kC h) (by omega) (by decide) (by decide) (pl_eC h (by omega)) ?_
      refine pw_aload_n dX5_copyFrom_49 rfl rfl ?_
      refine pw_getR (x := (r + 2)) dX5_copyFrom_50 fd_RX5_19 (by decide) (pl_k h2) rfl (pl_rC h2) ?_
      refine pw_iload_n dX5_copyFrom_53 rfl rfl ?_
      refine pw_aaldN (j := k) (x := (r + 13 + k)) dX5_copyFrom_54 (pl_kC h2) (by omega) (by decide) (by decide) (pl_eC h2 (by omega)) ?_
      refine pe_callVv dX5_copyFrom_55 oX_X1_copyFrom lk_RX5_53 (sp_C_copy (pl_oC h (by omega)) (pl_oC h2 (by omega)) (by omega)) (pl_oC h (by omega)) rfl rfl (Nat.le_of_ble_eq_true rfl) (by decide) ?_
      refine pw_iinc (v := nI (k + 1)) dX5_copyFrom_58 rfl (nI_add _ _) rfl ?_
      refine pw_goto (tgt := 34) dX5_copyFrom_61 (by decide) ?_
      exact ih _ _ (Cpk_C hc (by omega) hd)
  have L2 : ∀ k, k ≤ 8 → ∀ (I' : pI) (F' : pF), Cpk p r I F k 0 0 0 I' F' → PW cX5_copyFrom mX5_copyFrom (fM (qR σ (fun v I' F' => v = none ∧ Cpy p r I F I' F'))) 2 [.ref p, .ref r, .int (nI k)] [] σ I' F' (0, 0) := by
    refine dn (fun k => ∀ (I' : pI) (F' : pF), Cpk p r I F k 0 0 0 I' F' → PW cX5_copyFrom mX5_copyFrom (fM (qR σ (fun v I' F' => v = none ∧ Cpy p r I F I' F'))) 2 [.ref p, .ref r, .int (nI k)] [] σ I' F' (0, 0)) 8 ?_ ?_
    · intro I' F' hc
      refine pw_iload_n dX5_copyFrom_2 rfl rfl ?_
      refine pw_aload_n dX5_copyFrom_3 rfl rfl ?_
      refine pw_getR (x := (p + 1)) dX5_copyFrom_4 fd_RX5_11 (by decide) (pl_k h) rfl (pl_rA h) ?_
      refine pw_alenR dX5_copyFrom_7 (pl_kA h) (by decide) ?_
      refine pw_icmp_ge (tgt := 32) dX5_copyFrom_8 (by decide) (fun c_8 => ?_) (fun c_8 => absurd (Int32.le_refl _) c_8)
      refine pw_iconst (v := 0) dX5_copyFrom_32 (by decide) ?_
      refine pw_istore_n dX5_copyFrom_33 rfl (by decide) rfl ?_
      exact L34 0 (Nat.zero_le _) _ _ hc
    · intro k hk ih
      intro I' F' hc
      refine pw_iload_n dX5_copyFrom_2 rfl rfl ?_
      refine pw_aload_n dX5_copyFrom_3 rfl rfl ?_
      refine pw_getR (x := (p + 1)) dX5_copyFrom_4 fd_RX5_11 (by decide) (pl_k h) rfl (pl_rA h) ?_
      refine pw_alenR dX5_copyFrom_7 (pl_kA h) (by decide) ?_
      refine pw_icmp_ge (tgt := 32) dX5_copyFrom_8 (by decide) (fun c_8 => absurd c_8 (nI_ge (b := 8) (by omega) (by decide))) (fun c_8 => ?_)
      refine pw_aload_n dX5_copyFrom_11 rfl rfl ?_
      refine pw_getR (x := (p + 1)) dX5_copyFrom_12 fd_RX5_11 (by decide) (pl_k h) rfl (pl_rA h) ?_
      refine pw_iload_n dX5_copyFrom_15 rfl rfl ?_
      refine pw_aaldN (j := k) (x := (p + 5 + k)) dX5_copyFrom_16 (pl_kA h) (by omega) (by decide) (by decide) (pl_eA h (by omega)) ?_
      refine pw_aload_n dX5_copyFrom_17 rfl rfl ?_
      refine pw_getR (x := (r + 1)) dX5_copyFrom_18 fd_RX5_11 (by decide) (pl_k h2) rfl (pl_rA h2) ?_
      refine pw_iload_n dX5_copyFrom_21 rfl rfl ?_
      refine pw_aaldN (j := k) (x := (r + 5 + k)) dX5_copyFrom_22 (pl_kA h2) (by omega) (by decide) (by decide) (pl_eA h2 (by omega)) ?_
      refine pe_callVv dX5_copyFrom_23 oX_X0_copyFrom lk_RX5_49 (sp_A_copy (pl_oA h (by omega)) (pl_oA h2 (by omega)) (by rw [show I' (r + 5 + k) 4 = I (r + 5 + k) 4 from congrFun (hc.1 _ (by omega)).1 4]; exact hz k hk) (by omega)) (pl_oA h (by omega)) rfl rfl (Nat.le_of_ble_eq_true rfl) (by decide) ?_
      refine pw_iinc (v := nI (k + 1)) dX5_copyFrom_26 rfl (nI_add _ _) rfl ?_
      refine pw_goto (tgt := 2) dX5_copyFrom_29 (by decide) ?_
      exact ih _ _ (Cpk_A hc (by omega) hd)
  refine pw_iconst (v := 0) dX5_copyFrom_0 (by decide) ?_
  refine pw_istore_n dX5_copyFrom_1 rfl (by decide) rfl ?_
  exact L2 0 (Nat.zero_le _) _ _ Cpk_0

