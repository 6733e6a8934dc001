/-! UNDONE, AND KEPT -/
theorem fI_c {f g : Nat → Int32} {v : Int64} : ∀ {n : Nat}, (∀ k, k < n → f k = g k) → fI f n v = fI g n v
  | 0, _ => rfl
  | n + 1, h => by rw [fI, fI, fI_c (n := n) (fun k hk => h k (by omega)), h n (by omega)]
theorem fO_c {f g : Nat → Int64 → Int64} : ∀ {n : Nat} {v : Int64}, (∀ k, k < n → f k = g k) → fO f n v = fO g n v
  | 0, _, _ => rfl
  | n + 1, v, h => by rw [fO, fO, fO_c (n := n) (fun k hk => h k (by omega)), h n (by omega)]
theorem lcmp_0 (v : Int64) : lg_cmp v v = 0 := by
  unfold lg_cmp
  rw [if_neg (Int64.lt_irrefl), if_pos rfl]
section UK
variable {x p nA nC n h o z : Nat} {I I' I0 : pI} {F F' F0 : pF}
theorem cg_view (e : pE (x + 1) (x + 1) I F I' F') (g : Gd (x + 1) I F nA nC n h) : viewV I' F' x nA nC n = viewV I F x nA nC n := by
  obtain ⟨⟨hA, hA8, hC, hC5, hn, hn4, h7, h8⟩, g2, -⟩ := id g
  unfold viewV
  have e1 : vwC I' x nA n = vwC I x nA n := fI_c fun k hk => cg_countV e hA8 hn4 hk
  have e2 : ∀ v, fO (vwA I' F' x n) nA v = fO (vwA I F x n) nA v := fun v => fO_c fun a ha => by
    funext v
    unfold vwA
    rw [fI_c (f := fun k => assetV I' F' (x + 1) n (nI a) (nI k)) (g := fun k => assetV I F (x + 1) n (nI a) (nI k)) (fun k hk => cg_assetV e hA hA8 hn4), cg_tags e.1 hn4, fI_c (f := fun p => tagAtV I' (x + 1) n (nI a) (nI p)) (g := fun p => tagAtV I (x + 1) n (nI a) (nI p)) (fun k hk => cg_tagAtV e hn4), cg_hoursV e hA hA8]
  have e3 : ∀ v, fO (vwK I' x n) nC v = fO (vwK I x n) nC v := fun v => fO_c fun a ha => by
    funext v
    exact fI_c fun k hk => cg_crewV e hC hC5 hn4
  have e4 : ∀ v, fO (vwT I' x n) n v = fO (vwT I x n) n v := fun v => fO_c fun a ha => by
    funext v
    exact fI_c fun k hk => cg_taskV e hn hn4 (Gd_W8 g) (G2_K g2)
  rw [e1, e2, e3, e4]
theorem Gd_idx {nA' nC' n' h' : Nat} (e : pE p p I F I' F') (g : Gd p I F nA nC n h) (g' : Gd p I' F' nA' nC' n' h') : nA' = nA ∧ nC' = nC ∧ n' = n := by
  obtain ⟨⟨a1, a2, a3, a4, a5, a6, a7, a8⟩, -⟩ := g
  obtain ⟨⟨b1, b2, b3, b4, b5, b6, b7, b8⟩, -⟩ := g'
  rw [e0 e.1 (by decide) (by decide)] at b1 b3 b5
  exact ⟨(nI_eq (by omega) (by omega)).mp (b1.symm.trans a1), (nI_eq (by omega) (by omega)).mp (b3.symm.trans a3), (nI_eq (by omega) (by omega)).mp (b5.symm.trans a5)⟩
theorem undo_st (hH : Hs x I o z) (hz : 0 < z) (hp : pE (x + 127 + 2 + 42 * ((o + (z - 1)) % 4)) (x + 1) I0 F0 I F) (hc : Cpy (x + 1) (x + 127 + 2 + 42 * ((o + (z - 1)) % 4)) (up2 I (x + 127) 2 (nI (z - 1))) F I' F') : pE (x + 1) (x + 1) I0 F0 I' F' ∧ Hs x I' o (z - 1) := by
  have hm : (o + (z - 1)) % 4 < 4 := Nat.mod_lt _ (by decide)
  have e1 : pE (x + 127 + 2 + 42 * ((o + (z - 1)) % 4)) (x + 127 + 2 + 42 * ((o + (z - 1)) % 4)) I F (up2 I (x + 127) 2 (nI (z - 1))) F := pE_row fun i i1 i2 => ⟨up2_row (by omega), rfl⟩
  refine ⟨pE_tr (pE_tr hp e1) (pE_cpy hc), ?_⟩
  have hr : ∀ i, x + 85 ≤ i → I' i = up2 I (x + 127) 2 (nI (z - 1)) i := fun i i1 => (Cpy_fr hc (by omega)).1
  obtain ⟨h1, h2, h3, h4, h5, h6⟩ := hH
  refine ⟨?_, h2, ?_, by omega, fun i hi => RepB_eq (h5 i hi) (fun j j1 j2 => ?_), RepB_eq h6 (fun j j1 j2 => ?_)⟩
  · rw [hr _ (by omega), up2_nj (by decide)]; exact h1
  · rw [hr _ (by omega), up2_s]
  · rw [hr _ (by omega), up2_row (by omega)]
  · rw [hr _ (by omega), up2_row (by omega)]
theorem keep_st {I1 : pI} (hS : St x I F nA nC n h o z) (hc : Cpy (x + 85) (x + 1) I F I1 F') : St x (up2 I1 x 3 1) F' nA nC n h o z ∧ pE (x + 1) (x + 1) I F (up2 I1 x 3 1) F' ∧ pE (x + 85) (x + 1) I F (up2 I1 x 3 1) F' := by
  have hr : ∀ i, i < x + 85 ∨ x + 127 ≤ i → I1 i = I i ∧ F' i = F i := fun i hi => Cpy_fr hc (by omega)
  have e1 : pE (x + 1) (x + 1) I F (up2 I1 x 3 1) F' := pE_row fun i i1 i2 => ⟨(up2_row (by omega)).trans (hr i (by omega)).1, (hr i (by omega)).2⟩
  have e2 := pE_cpy hc
  have e3 : pE (x + 85) (x + 85) I1 F' (up2 I1 x 3 1) F' := pE_row fun i i1 i2 => ⟨up2_row (by omega), rfl⟩
  have e4 := pE_tr e2 e3
  obtain ⟨h1, h2, h3, h4, h5, h6⟩ := hS.2
  refine ⟨⟨Gd_cg e1 hS.1, ?_, h2, ?_, h4, fun i hi => RepB_eq (h5 i hi) (fun j j1 j2 => ?_), RepB_pE e4 hS.1.2.2.1⟩, e1, e4⟩
  · rw [up2_row (by omega), (hr _ (by omega)).1]; exact h1
  · rw [up2_row (by omega), (hr _ (by omega)).1]; exact h3
  · rw [up2_row (by omega), (hr _ (by omega)).1]
theorem rest_st {nA' nC' n' h' : Nat} {I2 I3 I4 : pI} {F2 F3 F4 : pF} {v : Option Value} (hS : St x I2 F2 nA' nC' n' h' o z) (g : Gd (x + 1) I F nA nC n h) (hk : pE (x + 85) (x + 1) I F I2 F2) (c1 : Cpy (x + 43) (x + 1) I2 F2 I3 F3) (c2 : Cpy (x + 1) (x + 85) I3 F3 I4 F4) (hq : recQ x o z (I4 (x + 1) 7) I4 F4 v I' F') : v = some (.int (nI h)) ∧ pE (x + 1) (x + 1) I F I' F' ∧ ∃ o' z', St x I' F' nA nC n h o' z' := by
  have r1 : ∀ i, i < x + 43 ∨ x + 85 ≤ i → I3 i = I2 i ∧ F3 i = F2 i := fun i hi => Cpy_fr c1 (by omega)
  have r2 : ∀ i, x + 43 ≤ i → I4 i = I3 i ∧ F4 i = F3 i := fun i hi => Cpy_fr c2 (by omega)
  have e1 : pE (x + 85) (x + 85) I2 F2 I3 F3 := pE_row fun i i1 i2 => r1 i (by omega)
  have e2 : pE (x + 1) (x + 1) I F I4 F4 := pE_tr (pE_tr hk e1) (pE_cpy c2)
  have g4 := Gd_cg e2 g
  have hH : Hs x I4 o z := Hs_row hS.2 fun i i1 i2 => (r2 i (by omega)).1.trans (r1 i (by omega)).1
  have hb : RepB (x + 43) I4 := RepB_eq (RepB_pE (pE_cpy c1) hS.1.2.2.1) fun j j1 j2 => (r2 j (by omega)).1
  have h7 := g4.1.2.2.2.2.2.2.1
  have h8 := g4.1.2.2.2.2.2.2.2
  rw [h7] at hq
  obtain ⟨hv, o', z', q1, -, -, -, q5⟩ := rec_st hH hb (nI_pos (by omega)) hq
  have e3 : pE (x + 1) (x + 1) I4 F4 I' F' := pE_row fun i i1 i2 => q5 i (by omega)
  exact ⟨hv, pE_tr e2 e3, o', z', Gd_cg e3 g4, q1⟩
end UK

set_option maxRecDepth 4000 in
theorem sp_isUndone {σ : pT} {I I0 : pI} {F F0 : pF} {x nA nC n h o z nA' nC' n' h' o' z' : Nat} {w a b : Int32} (hT : isTW σ x) (s0 : St x I0 F0 nA nC n h o z) (s1 : St x I F nA' nC' n' h' o' z') (hz : 0 < z') (hp : pE (x + 127 + 2 + 42 * ((o' + (z' - 1)) % 4)) (x + 1) I0 F0 I F) (hR : pE (x + 1) (x + 1) (turnF x nA nC n w a b I0 I0 F0).2.1 (turnF x nA nC n w a b I0 I0 F0).2.2 I F) (hg : ¬ (turnF x nA nC n w a b I0 I0 F0).1 < 0) : PR yL_isUndone cL_isUndone mL_isUndone [.ref x, .int w, .int a, .int b, .int (turnF x nA nC n w a b I0 I0 F0).1, .long (viewV I0 F0 x nA nC n)] σ I F (fun v I' F' => v = some (.int 1) ∧ ∃ nA2 nC2 n2 h2 o2 z2, St x I' F' nA2 nC2 n2 h2 o2 z2 ∧ slS I0 (x + 1) n ≤ slS I' (x + 1) n2) := by
  have hz4 := s1.2.2.2.2.1
  generalize hgot : (turnF x nA nC n w a b I0 I0 F0).1 = got at hg ⊢
  refine PM.of2 (as := [.ref x, .int w, .int a, .int b, .int got]) (x := .long (viewV I0 F0 x nA nC n)) oP_L_isUndone (catOK rfl) rfl (Nat.le_of_ble_eq_true rfl) ?_
  show PW _ _ _ 0 [.ref x, .int w, .int a, .int b, .int got, .long (viewV I0 F0 x nA nC n), pJ, pJ, pJ, pJ] [] _ _ _ _
  refine pw_aload_n dL_isUndone_0 rfl rfl ?_
  refine pe_callSl dL_isUndone_1 oX_L_view lk_RL_100 (sp_view hT s1.1.1.1 s1.1.1.2.1 s1.1.1.2.2.1 s1.1.1.2.2.2.1 s1.1.1.2.2.2.2.1 s1.1.1.2.2.2.2.2.1 (G2_W s1.1.2.1) (G2_K s1.1.2.1)) rfl rfl (Nat.le_of_ble_eq_true rfl) (by decide) ?_
  refine pw_lstore dL_isUndone_4 (by decide) rfl ?_
  refine pw_aload_n dL_isUndone_6 rfl rfl ?_
  refine pw_bipush (v := 15) dL_isUndone_7 (by decide) ?_
  refine pe_callVi dL_isUndone_9 oX_X7_count lk_RL_13 (sp_x_count (nA := nA') (n := n') hT (St_cOK s1).1 (St_cOK s1).2.1 (St_cOK s1).2.2.2.2.1 (St_cOK s1).2.2.2.2.2.1) (tw_k hT) rfl rfl (Nat.le_of_ble_eq_true rfl) (by decide) ?_
  rw [count_15, s1.2.2.2.1]
  refine pw_istore dL_isUndone_12 (by decide) rfl ?_
  refine pw_aload_n dL_isUndone_14 rfl rfl ?_
  refine pr_callV dL_isUndone_15 oX_X7_undo lk_RL_104 (sp_x_undo hT s1.2.1 s1.2.2.1 s1.2.2.2.1 s1.2.2.2.2.1 s1.2.2.2.2.2.1) (tw_k hT) rfl rfl (Nat.le_of_ble_eq_true rfl) (by decide) (fun v I1 F1 hq => ?_)
  rcases hq with ⟨hz0, -⟩ | ⟨-, rfl, hc⟩
  · omega
  obtain ⟨e1, hH1⟩ := undo_st s1.2 hz hp hc
  have s2 : St x I1 F1 nA nC n h o' (z' - 1) := ⟨Gd_cg e1 s0.1, hH1⟩
  refine pw_iload dL_isUndone_18 rfl ?_
  refine pw_iconst (v := 1) dL_isUndone_20 (by decide) ?_
  refine pw_isub dL_isUndone_21 ?_
  rw [pk_m1s hz]
  refine pw_icmp_ne (tgt := 72) dL_isUndone_22 (by decide) (fun c_22 => absurd rfl c_22) (fun c_22 => ?_)
  refine pw_aload_n dL_isUndone_25 rfl rfl ?_
  refine pe_callSl dL_isUndone_26 oX_L_view lk_RL_100 (sp_view hT s2.1.1.1 s2.1.1.2.1 s2.1.1.2.2.1 s2.1.1.2.2.2.1 s2.1.1.2.2.2.2.1 s2.1.1.2.2.2.2.2.1 (G2_W s2.1.2.1) (G2_K s2.1.2.1)) rfl rfl (Nat.le_of_ble_eq_true rfl) (by decide) ?_
  rw [cg_view e1 s0.1]
  refine pw_lload dL_isUndone_29 rfl ?_
  refine pw_lcmp dL_isUndone_31 ?_
  rw [lcmp_0]
  refine pw_if_ne (tgt := 72) dL_isUndone_32 (by decide) (fun c_32 => absurd rfl c_32) (fun c_32 => ?_)
  refine pw_aload_n dL_isUndone_35 rfl rfl ?_
  refine pw_iload_n dL_isUndone_36 rfl rfl ?_
  refine pw_iload_n dL_isUndone_37 rfl rfl ?_
  refine pw_iload_n dL_isUndone_38 rfl rfl ?_
  refine pr_callS dL_isUndone_39 oX_L_turn lk_RL_108 (sp_turn hT (St_cOK s2)) rfl rfl (Nat.le_of_ble_eq_true rfl) (by decide) (fun v I2 F2 hq => ?_)
  rw [turn_cg s0.1 e1] at hq
  obtain ⟨hv, k2, -, -, k5⟩ := act_st s2 ac_turn hq
  obtain ⟨c1, c2⟩ := ac_turn.2 I0 F0 I1 F1 h s0.1 e1
  rw [c1, hgot] at hv k5
  subst hv
  rcases k5 with ⟨hn, -⟩ | ⟨-, nA2, nC2, n2, h2, o2, z2, s3, l1, l2, -, -⟩
  · exact absurd hn hg
  have e2 : pE (x + 1) (x + 1) I F I2 F2 := pE_tr (pE_sy hR) (pE_tr c2 k2)
  obtain ⟨q1, q2, q3⟩ := Gd_idx e2 s1.1 s3.1
  subst q1 q2 q3
  have ez : z2 = z' := by
    rw [l2, if_pos (by omega)]
    omega
  subst ez
  have l3 : slS I1 (x + 1) n = slS I0 (x + 1) n := slS_cg e1.1 s0.1.1.2.2.2.2.2.1
  refine pw_iload dL_isUndone_42 rfl ?_
  refine pw_icmp_ne (tgt := 72) dL_isUndone_44 (by decide) (fun c_44 => absurd rfl c_44) (fun c_44 => ?_)
  refine pw_aload_n dL_isUndone_47 rfl rfl ?_
  refine pe_callSl dL_isUndone_48 oX_L_view lk_RL_100 (sp_view hT s3.1.1.1 s3.1.1.2.1 s3.1.1.2.2.1 s3.1.1.2.2.2.1 s3.1.1.2.2.2.2.1 s3.1.1.2.2.2.2.2.1 (G2_W s3.1.2.1) (G2_K s3.1.2.1)) rfl rfl (Nat.le_of_ble_eq_true rfl) (by decide) ?_
  rw [cg_view e2 s1.1]
  refine pw_lload dL_isUndone_51 rfl ?_
  refine pw_lcmp dL_isUndone_53 ?_
  rw [lcmp_0]
  refine pw_if_ne (tgt := 72) dL_isUndone_54 (by decide) (fun c_54 => absurd rfl c_54) (fun c_54 => ?_)
  refine pw_aload_n dL_isUndone_57 rfl rfl ?_
  refine pw_bipush (v := 15) dL_isUndone_58 (by decide) ?_
  refine pe_callVi dL_isUndone_60 oX_X7_count lk_RL_13 (sp_x_count (nA := _) (n := _) hT (St_cOK s3).1 (St_cOK s3).2.1 (St_cOK s3).2.2.2.2.1 (St_cOK s3).2.2.2.2.2.1) (tw_k hT) rfl rfl (Nat.le_of_ble_eq_true rfl) (by decide) ?_
  rw [count_15, s3.2.2.2.1]
  refine pw_iload dL_isUndone_63 rfl ?_
  refine pw_icmp_ne (tgt := 72) dL_isUndone_65 (by decide) (fun c_65 => absurd rfl c_65) (fun c_65 => ?_)
  refine pw_iconst (v := 1) dL_isUndone_68 (by decide) ?_
  refine pw_goto (tgt := 73) dL_isUndone_69 (by decide) ?_
  exact pw_zret dL_isUndone_73 rfl (by first | rfl | decide) ⟨rfl, rfl, _, _, _, _, _, _, s3, by rw [← l3]; exact l1⟩

set_option maxRecDepth 4000 in
theorem sp_isKept {σ : pT} {I : pI} {F : pF} {x nA nC n h o z : Nat} {a b : Int32} (hT : isTW σ x) (s0 : St x I F nA nC n h o z) : PR yL_isKept cL_isKept mL_isKept [.ref x, .int a, .int b] σ I F (fun v I' F' => v = some (.int 1) ∧ ∃ o' z', St x I' F' nA nC n h o' z' ∧ slS I (x + 1) n = slS I' (x + 1) n) := by
  refine PR.of oP_L_isKept (catOK rfl) (Nat.le_of_ble_eq_true rfl) ?_
  show PW _ _ _ 0 [.ref x, .int a, .int b, pJ, pJ] [] _ _ _ _
  refine pw_aload_n dL_isKept_0 rfl rfl ?_
  refine pe_callSl dL_isKept_1 oX_L_view lk_RL_100 (sp_view hT s0.1.1.1 s0.1.1.2.1 s0.1.1.2.2.1 s0.1.1.2.2.2.1 s0.1.1.2.2.2.2.1 s0.1.1.2.2.2.2.2.1 (G2_W s0.1.2.1) (G2_K s0.1.2.1)) rfl rfl (Nat.le_of_ble_eq_true rfl) (by decide) ?_
  refine pw_lstore_n dL_isKept_4 rfl (by decide) rfl ?_
  refine pw_aload_n dL_isKept_5 rfl rfl ?_
  refine pr_callV dL_isKept_6 oX_X7_keep lk_RL_112 (sp_x_keep hT s0.1.2.2.1) (tw_k hT) rfl rfl (Nat.le_of_ble_eq_true rfl) (by decide) (fun v I0 F1 hq => ?_)
  obtain ⟨rfl, I1, hc, rfl⟩ := hq
  obtain ⟨s1, e1, k1⟩ := keep_st s0 hc
  have k3 : up2 I1 x 3 1 x 3 = 1 := up2_s
  rw [s0.1.1.2.2.2.2.2.2.1]
  generalize up2 I1 x 3 1 = J1 at s1 e1 k1 k3 ⊢
  refine pw_aload_n dL_isKept_9 rfl rfl ?_
  refine pw_iconst (v := 0) dL_isKept_10 (by decide) ?_
  refine pe_callVi dL_isKept_11 oX_X7_count lk_RL_13 (sp_x_count (nA := _) (n := _) hT (St_cOK s1).1 (St_cOK s1).2.1 (St_cOK s1).2.2.2.2.1 (St_cOK s1).2.2.2.2.2.1) (tw_k hT) rfl rfl (Nat.le_of_ble_eq_true rfl) (by decide) ?_
  rw [count_0, s1.1.1.2.2.2.2.2.2.1]
  refine pw_icmp_eq (tgt := 19) dL_isKept_14 (by decide) (fun c_14 => ?_) (fun c_14 => absurd rfl c_14)
  refine pw_aload_n dL_isKept_19 rfl rfl ?_
  refine pw_iload_n dL_isKept_20 rfl rfl ?_
  refine pw_bipush (v := 15) dL_isKept_21 (by decide) ?_
  refine pe_callSi dL_isKept_23 oX_L_up lk_RL_61 (sp_up (by decide)) rfl rfl (Nat.le_of_ble_eq_true rfl) (by decide) ?_
  refine pw_iload_n dL_isKept_26 rfl rfl ?_
  refine pw_iload_n dL_isKept_27 rfl rfl ?_
  refine pr_callS dL_isKept_28 oX_L_turn lk_RL_108 (sp_turn hT (St_cOK s1)) rfl rfl (Nat.le_of_ble_eq_true rfl) (by decide) (fun v I2 F2 hq => ?_)
  obtain ⟨hv, -, rk, rx, k5⟩ := act_st s1 ac_turn hq
  have s2 : ∃ nA2 nC2 n2 h2 o2 z2, St x I2 F2 nA2 nC2 n2 h2 o2 z2 := by
    rcases k5 with ⟨-, s2, -⟩ | ⟨-, nA2, nC2, n2, h2, o2, z2, s2, -⟩
    · exact ⟨_, _, _, _, _, _, s2⟩
    · exact ⟨_, _, _, _, _, _, s2⟩
  obtain ⟨nA2, nC2, n2, h2, o2, z2, s2⟩ := s2
  subst hv
  have k4 : pE (x + 85) (x + 1) I F I2 F2 := pE_tr k1 (pE_row fun i i1 i2 => rk i (by omega) (by omega))
  have k6 : ¬ I2 x 3 = 0 := by rw [rx, k3]; decide
  refine pw_pop dL_isKept_31 ?_
  refine pw_aload_n dL_isKept_32 rfl rfl ?_
  refine pr_callV dL_isKept_33 oX_X7_restore lk_RL_115 (sp_x_restore hT s2.2.1 s2.2.2.1 s2.2.2.2.1 s2.2.2.2.2.1 s2.1.2.2.1 s2.2.2.2.2.2.2) (tw_k hT) rfl rfl (Nat.le_of_ble_eq_true rfl) (by decide) (fun v I5 F5 hq => ?_)
  rcases hq with ⟨hz0, -⟩ | ⟨-, I3, F3, I4, F4, c1, c2, hq⟩
  · exact absurd hz0 k6
  obtain ⟨rfl, e5, o5, z5, s5⟩ := rest_st s2 s0.1 k4 c1 c2 hq
  refine pw_aload_n dL_isKept_36 rfl rfl ?_
  refine pw_iconst (v := 0) dL_isKept_37 (by decide) ?_
  refine pe_callVi dL_isKept_38 oX_X7_count lk_RL_13 (sp_x_count (nA := _) (n := _) hT (St_cOK s5).1 (St_cOK s5).2.1 (St_cOK s5).2.2.2.2.1 (St_cOK s5).2.2.2.2.2.1) (tw_k hT) rfl rfl (Nat.le_of_ble_eq_true rfl) (by decide) ?_
  rw [count_0, s5.1.1.2.2.2.2.2.2.1]
  refine pw_icmp_ne (tgt := 57) dL_isKept_41 (by decide) (fun c_41 => absurd rfl c_41) (fun c_41 => ?_)
  refine pw_aload_n dL_isKept_44 rfl rfl ?_
  refine pe_callSl dL_isKept_45 oX_L_view lk_RL_100 (sp_view hT s5.1.1.1 s5.1.1.2.1 s5.1.1.2.2.1 s5.1.1.2.2.2.1 s5.1.1.2.2.2.2.1 s5.1.1.2.2.2.2.2.1 (G2_W s5.1.2.1) (G2_K s5.1.2.1)) rfl rfl (Nat.le_of_ble_eq_true rfl) (by decide) ?_
  rw [cg_view e5 s0.1]
  refine pw_lload_n dL_isKept_48 rfl rfl ?_
  refine pw_lcmp dL_isKept_49 ?_
  rw [lcmp_0]
  refine pw_if_ne (tgt := 57) dL_isKept_50 (by decide) (fun c_50 => absurd rfl c_50) (fun c_50 => ?_)
  refine pw_iconst (v := 1) dL_isKept_53 (by decide) ?_
  refine pw_goto (tgt := 58) dL_isKept_54 (by decide) ?_
  exact pw_zret dL_isKept_58 rfl (by first | rfl | decide) ⟨rfl, rfl, _, _, s5, (slS_cg e5.1 s0.1.1.2.2.2.2.2.1).symm⟩
