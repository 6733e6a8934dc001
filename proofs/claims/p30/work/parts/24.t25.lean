/-! the object made, and the start -/
def Fr (x s k : Nat) (σ σ' : pT) (I I' : pI) : Prop := (∀ i, i ≤ s → i ≠ x → σ'.2.1 i = σ.2.1 i ∧ σ'.2.2 i = σ.2.2 i ∧ I' i = I i) ∧ ∀ j, j ≠ k → σ'.2.2 x j = σ.2.2 x j
def Apl (x j o : Nat) (σ : pT) (I : pI) : Prop := σ.2.2 x j = some (x + o) ∧ isPl σ (x + o) ∧ plZ (x + o) I
def Ahi (x : Nat) (σ : pT) (I : pI) : Prop := σ.2.2 x 4 = some (x + 127) ∧ isHi σ (x + 127) ∧ hiZ (x + 127) I
def Aor (x : Nat) (σ : pT) (I : pI) : Prop := σ.2.2 x 5 = some (x + 297) ∧ isOr σ (x + 297) ∧ ∀ t, I (x + 297) t = 0
def Bx (x s : Nat) (σ0 : pT) (I0 : pI) (F0 : pF) (σ : pT) (I : pI) (F : pF) : Prop := σ.1 = s ∧ (σ.2.1 x).1 = 8 ∧ (∀ t, I x t = 0) ∧ ext x σ0 σ I0 I F0 F
section TW
variable {x s k j o s' kd n : Nat} {σ0 σ σ' σc : pT} {I0 I I' Ic : pI} {F0 F Fc : pF}
theorem fr_pl (h : Apl x j o σ I) (hf : Fr x s k σ σ' I I') (hj : j ≠ k) (ho : 1 ≤ o) (hs : x + o + 41 ≤ s) : Apl x j o σ' I' := by
  obtain ⟨h1, h2, h3, h4, h5⟩ := h
  obtain ⟨f1, f2⟩ := hf
  refine ⟨(f2 j hj).trans h1, isPl_fr h2 (fun i h6 h7 => ?_), fun t => ?_, fun t => ?_, RepB_eq h5 (fun i h6 h7 => (f1 i (by omega) (by omega)).2.2)⟩
  · obtain ⟨a, b, c⟩ := f1 i (by omega) (by omega)
    exact ⟨a, b⟩
  · rw [(f1 _ (by omega) (by omega)).2.2]; exact h3 t
  · rw [(f1 _ (by omega) (by omega)).2.2]; exact h4 t
theorem fr_hi (h : Ahi x σ I) (hf : Fr x s k σ σ' I I') (hj : 4 ≠ k) (hs : x + 296 ≤ s) : Ahi x σ' I' := by
  obtain ⟨h1, h2, h3, h4⟩ := h
  obtain ⟨f1, f2⟩ := hf
  refine ⟨(f2 _ hj).trans h1, isHi_fr h2 (fun i h6 h7 => ?_), fun t => ?_, fun i hi => RepB_eq (h4 i hi) (fun i h6 h7 => (f1 i (by omega) (by omega)).2.2)⟩
  · obtain ⟨a, b, c⟩ := f1 i (by omega) (by omega)
    exact ⟨a, b⟩
  · rw [(f1 _ (by omega) (by omega)).2.2]; exact h3 t
theorem tw_fr (hb : Bx x s σ0 I0 F0 σ I F) (hx : x ≤ s) (he : ext (σ.1 + 1) (σnew σ kd n) σc (Inew σ I) Ic (Fnew σ F) Fc) : Fr x s k σ (σc.1, σc.2.1, up2 σc.2.2 x k (some (σ.1 + 1))) I Ic := by
  have h1 := hb.1
  refine ⟨fun i hi hne => ?_, fun j hj => ?_⟩
  · obtain ⟨b1, b2, b3, b4⟩ := he i (by omega)
    exact ⟨b1.trans (upr_n (by omega)), (up2_row hne).trans (b2.trans (upr_n (by omega))), b3.trans (upr_n (by omega))⟩
  · show up2 σc.2.2 x k (some (σ.1 + 1)) x j = _
    rw [up2_nj hj, (he x (by omega)).2.1]
    exact congrFun (upr_n (by omega)) j
theorem tw_b (hb : Bx x s σ0 I0 F0 σ I F) (hx : x ≤ s) (he : ext (σ.1 + 1) (σnew σ kd n) σc (Inew σ I) Ic (Fnew σ F) Fc) (h1 : σc.1 = s') : Bx x s' σ0 I0 F0 (σc.1, σc.2.1, up2 σc.2.2 x k (some (σ.1 + 1))) Ic Fc := by
  obtain ⟨g1, g2, g3, g4⟩ := hb
  refine ⟨h1, ?_, fun t => ?_, fun i hi => ?_⟩
  · show (σc.2.1 x).1 = 8
    rw [(he x (by omega)).1]
    show (upr σ.2.1 (σ.1 + 1) (kd, n) x).1 = 8
    rw [upr_n (by omega)]
    exact g2
  · rw [(he x (by omega)).2.2.1]
    show upr I (σ.1 + 1) (fun _ => 0) x t = 0
    rw [upr_n (by omega)]
    exact g3 t
  · obtain ⟨b1, b2, b3, b4⟩ := he i (by omega)
    obtain ⟨c1, c2, c3, c4⟩ := g4 i hi
    exact ⟨b1.trans ((upr_n (by omega)).trans c1), (up2_row (by omega)).trans (b2.trans ((upr_n (by omega)).trans c2)), b3.trans ((upr_n (by omega)).trans c3), b4.trans ((upr_n (by omega)).trans c4)⟩
theorem tw_bk (hb : Bx x s σ0 I0 F0 σ I F) (hx : x ≤ s) (he : ext (σ.1 + 1) (σnew σ kd n) σc (Inew σ I) Ic (Fnew σ F) Fc) : (σc.2.1 x).1 = 8 := (tw_b (k := 0) hb hx he rfl).2.1
theorem tw_put (hb : Bx x s σ0 I0 F0 σ I F) : Bx x s σ0 I0 F0 σ (up2 I x k 0) F := by
  obtain ⟨g1, g2, g3, g4⟩ := hb
  refine ⟨g1, g2, fun t => ?_, fun i hi => ?_⟩
  · by_cases ht : t = k
    · subst ht
      exact up2_s
    · rw [up2_nj ht]
      exact g3 t
  · obtain ⟨b1, b2, b3, b4⟩ := g4 i hi
    exact ⟨b1, b2, (up2_row (by omega)).trans b3, b4⟩
theorem fr_put {v : Int32} : Fr x s k σ σ I (up2 I x j v) := ⟨fun i _ h => ⟨rfl, rfl, up2_row h⟩, fun _ _ => rfl⟩
theorem new_pl (e : σ.1 + 1 = x + o) (ho : 1 ≤ o) (hpl : isPl σc (σ.1 + 1)) (hz : plZ (σ.1 + 1) Ic) : Apl x k o (σc.1, σc.2.1, up2 σc.2.2 x k (some (σ.1 + 1))) Ic := by
  rw [e] at hpl hz ⊢
  exact ⟨up2_s, isPl_fr hpl (fun i h1 h2 => ⟨rfl, up2_row (by omega)⟩), hz⟩
theorem new_hi (e : σ.1 + 1 = x + 127) (hpl : isHi σc (σ.1 + 1)) (hz : hiZ (σ.1 + 1) Ic) : Ahi x (σc.1, σc.2.1, up2 σc.2.2 x 4 (some (σ.1 + 1))) Ic := by
  rw [e] at hpl hz ⊢
  exact ⟨up2_s, isHi_fr hpl (fun i h1 h2 => ⟨rfl, up2_row (by omega)⟩), hz⟩
theorem new_or (e : σ.1 + 1 = x + 297) (hpl : isOr σc (σ.1 + 1)) (hz : ∀ t, Ic (σ.1 + 1) t = 0) : Aor x (σc.1, σc.2.1, up2 σc.2.2 x 5 (some (σ.1 + 1))) Ic := by
  rw [e] at hpl hz ⊢
  exact ⟨up2_s, isOr_fr hpl (fun i h1 h2 => ⟨rfl, up2_row (by omega)⟩), hz⟩
end TW
def twZ (x : Nat) (I : pI) : Prop := (∀ t, I x t = 0) ∧ plZ (x + 1) I ∧ plZ (x + 43) I ∧ plZ (x + 85) I ∧ hiZ (x + 127) I ∧ ∀ t, I (x + 297) t = 0

set_option maxRecDepth 4000 in
theorem sp_i7 {σ0 : pT} {I0 : pI} {F0 : pF} {x : Nat} (hp : σ0.1 = x) (hk : (σ0.2.1 x).1 = 8) (hz : ∀ t, I0 x t = 0) : PM yX7_init cX7_init mX7_init (319, 3200) [.ref x] σ0 I0 F0 (nwQ x 319 σ0 I0 F0 (fun σ I => isTW σ x ∧ twZ x I)) := by
  refine PM.of oP_X7_init (catOK rfl) (Nat.le_of_ble_eq_true rfl) ?_
  show PW _ _ _ 0 [.ref x] [] _ _ _ _
  have b0 : Bx x (x + 0) σ0 I0 F0 σ0 I0 F0 := ⟨hp, hk, hz, fun _ _ => ⟨rfl, rfl, rfl, rfl⟩⟩
  refine pw_aload_n dX7_init_0 rfl rfl ?_
  refine pw_objInit dX7_init_1 lk_RX7_1 oi_inst oi_code ⟨by decide, by decide⟩ ?_
  refine pw_aload_n dX7_init_4 rfl rfl ?_
  refine pw_new (ci := 5) dX7_init_5 (by decide) fd_RX5_11 cl_RX7_7 in_RX5 ii_RX5 (by constructor <;> (try simp only [fN_0, fN_1, fN_2, fN_3, fN_4, fN_5, fN_6]) <;> (try dsimp only) <;> omega) ?_
  refine pw_dup dX7_init_8 rfl ?_
  refine pw_callI dX7_init_9 oX_X5_init lk_RX7_9 (sp_i5 (p := σ0.1 + 1) rfl (by show (upr σ0.2.1 (σ0.1 + 1) (5 + 1, 8) (σ0.1 + 1)).1 = _; rw [upr_s]) (fun t => by show upr I0 (σ0.1 + 1) (fun _ => 0) (σ0.1 + 1) t = 0; rw [upr_s])) rfl rfl (Nat.le_of_ble_eq_true rfl) (by decide) (by constructor <;> (try simp only [fN_0, fN_1, fN_2, fN_3, fN_4, fN_5, fN_6]) <;> (try dsimp only) <;> omega) (fun v s1 J1 G1 hq => ?_)
  obtain ⟨rfl, h1_0, he_0, hpl_0, hzl_0⟩ := hq
  have e_0 : σ0.1 + 1 = x + 1 := by have := b0.1; omega
  refine pw_putFR dX7_init_12 fd_RX7_10 (by decide) rfl rfl rfl rfl (tw_bk b0 (by omega) he_0) ?_
  have f_0 := tw_fr (k := 0) b0 (by omega) he_0
  have b1 := tw_b (k := 0) (s' := x + 42) b0 (by omega) he_0 (by omega)
  have a0_1 := new_pl (k := 0) e_0 (by decide) hpl_0 hzl_0
  generalize hsg_0 : ((s1.1, s1.2.1, up2 s1.2.2 x 0 (some (σ0.1 + 1))) : pT) = σ1 at *
  refine pw_aload_n dX7_init_15 rfl rfl ?_
  refine pw_new (ci := 5) dX7_init_16 (by decide) fd_RX5_11 cl_RX7_7 in_RX5 ii_RX5 (by constructor <;> (try simp only [fN_0, fN_1, fN_2, fN_3, fN_4, fN_5, fN_6]) <;> (try dsimp only) <;> omega) ?_
  refine pw_dup dX7_init_19 rfl ?_
  refine pw_callI dX7_init_20 oX_X5_init lk_RX7_9 (sp_i5 (p := σ1.1 + 1) rfl (by show (upr σ1.2.1 (σ1.1 + 1) (5 + 1, 8) (σ1.1 + 1)).1 = _; rw [upr_s]) (fun t => by show upr J1 (σ1.1 + 1) (fun _ => 0) (σ1.1 + 1) t = 0; rw [upr_s])) rfl rfl (Nat.le_of_ble_eq_true rfl) (by decide) (by constructor <;> (try simp only [fN_0, fN_1, fN_2, fN_3, fN_4, fN_5, fN_6]) <;> (try dsimp only) <;> omega) (fun v s2 J2 G2 hq => ?_)
  obtain ⟨rfl, h1_1, he_1, hpl_1, hzl_1⟩ := hq
  have e_1 : σ1.1 + 1 = x + 43 := by have := b1.1; omega
  refine pw_putFR dX7_init_23 fd_RX7_16 (by decide) rfl rfl rfl rfl (tw_bk b1 (by omega) he_1) ?_
  have f_1 := tw_fr (k := 1) b1 (by omega) he_1
  have a0_2 := fr_pl a0_1 f_1 (by decide) (by decide) (by omega)
  have b2 := tw_b (k := 1) (s' := x + 84) b1 (by omega) he_1 (by omega)
  have a1_2 := new_pl (k := 1) e_1 (by decide) hpl_1 hzl_1
  generalize hsg_1 : ((s2.1, s2.2.1, up2 s2.2.2 x 1 (some (σ1.1 + 1))) : pT) = σ2 at *
  refine pw_aload_n dX7_init_26 rfl rfl ?_
  refine pw_new (ci := 5) dX7_init_27 (by decide) fd_RX5_11 cl_RX7_7 in_RX5 ii_RX5 (by constructor <;> (try simp only [fN_0, fN_1, fN_2, fN_3, fN_4, fN_5, fN_6]) <;> (try dsimp only) <;> omega) ?_
  refine pw_dup dX7_init_30 rfl ?_
  refine pw_callI dX7_init_31 oX_X5_init lk_RX7_9 (sp_i5 (p := σ2.1 + 1) rfl (by show (upr σ2.2.1 (σ2.1 + 1) (5 + 1, 8) (σ2.1 + 1)).1 = _; rw [upr_s]) (fun t => by show upr J2 (σ2.1 + 1) (fun _ => 0) (σ2.1 + 1) t = 0; rw [upr_s])) rfl rfl (Nat.le_of_ble_eq_true rfl) (by decide) (by constructor <;> (try simp only [fN_0, fN_1, fN_2, fN_3, fN_4, fN_5, fN_6]) <;> (try dsimp only) <;> omega) (fun v s3 J3 G3 hq => ?_)
  obtain ⟨rfl, h1_2, he_2, hpl_2, hzl_2⟩ := hq
  have e_2 : σ2.1 + 1 = x + 85 := by have := b2.1; omega
  refine pw_putFR dX7_init_34 fd_RX7_19 (by decide) rfl rfl rfl rfl (tw_bk b2 (by omega) he_2) ?_
  have f_2 := tw_fr (k := 2) b2 (by omega) he_2
  have a0_3 := fr_pl a0_2 f_2 (by decide) (by decide) (by omega)
  have a1_3 := fr_pl a1_2 f_2 (by decide) (by decide) (by omega)
  have b3 := tw_b (k := 2) (s' := x + 126) b2 (by omega) he_2 (by omega)
  have a2_3 := new_pl (k := 2) e_2 (by decide) hpl_2 hzl_2
  generalize hsg_2 : ((s3.1, s3.2.1, up2 s3.2.2 x 2 (some (σ2.1 + 1))) : pT) = σ3 at *
  refine pw_aload_n dX7_init_37 rfl rfl ?_
  refine pw_iconst (v := 0) dX7_init_38 (by decide) ?_
  refine pw_putI dX7_init_39 fd_RX7_22 (by decide) rfl ⟨by decide, by decide, rfl⟩ b3.2.1 ?_
  have bb := tw_put (k := 3) b3
  have fp : Fr x (x + 126) 9 σ3 σ3 J3 (up2 J3 x 3 0) := fr_put
  have a0_90 := fr_pl a0_3 fp (by decide) (by decide) (by omega)
  have a1_90 := fr_pl a1_3 fp (by decide) (by decide) (by omega)
  have a2_90 := fr_pl a2_3 fp (by decide) (by decide) (by omega)
  clear b3
  have b3 := bb
  clear a0_3
  have a0_3 := a0_90
  clear a1_3
  have a1_3 := a1_90
  clear a2_3
  have a2_3 := a2_90
  refine pw_aload_n dX7_init_42 rfl rfl ?_
  refine pw_new (ci := 2) dX7_init_43 (by decide) fd_RX2_11 cl_RX7_26 in_RX2 ii_RX2 (by constructor <;> (try simp only [fN_0, fN_1, fN_2, fN_3, fN_4, fN_5, fN_6]) <;> (try dsimp only) <;> omega) ?_
  refine pw_dup dX7_init_46 rfl ?_
  refine pw_callI dX7_init_47 oX_X2_init lk_RX7_28 (sp_i2 (q := σ3.1 + 1) rfl (by show (upr σ3.2.1 (σ3.1 + 1) (2 + 1, 3) (σ3.1 + 1)).1 = _; rw [upr_s]) (fun t => by show upr (up2 J3 x 3 0) (σ3.1 + 1) (fun _ => 0) (σ3.1 + 1) t = 0; rw [upr_s])) rfl rfl (Nat.le_of_ble_eq_true rfl) (by decide) (by constructor <;> (try simp only [fN_0, fN_1, fN_2, fN_3, fN_4, fN_5, fN_6]) <;> (try dsimp only) <;> omega) (fun v s4 J4 G4 hq => ?_)
  obtain ⟨rfl, h1_3, he_3, hpl_3, hzl_3⟩ := hq
  have e_3 : σ3.1 + 1 = x + 127 := by have := b3.1; omega
  refine pw_putFR dX7_init_50 fd_RX7_29 (by decide) rfl rfl rfl rfl (tw_bk b3 (by omega) he_3) ?_
  have f_3 := tw_fr (k := 4) b3 (by omega) he_3
  have a0_4 := fr_pl a0_3 f_3 (by decide) (by decide) (by omega)
  have a1_4 := fr_pl a1_3 f_3 (by decide) (by decide) (by omega)
  have a2_4 := fr_pl a2_3 f_3 (by decide) (by decide) (by omega)
  have b4 := tw_b (k := 4) (s' := x + 296) b3 (by omega) he_3 (by omega)
  have a3_4 := new_hi e_3 hpl_3 hzl_3
  generalize hsg_3 : ((s4.1, s4.2.1, up2 s4.2.2 x 4 (some (σ3.1 + 1))) : pT) = σ4 at *
  refine pw_aload_n dX7_init_53 rfl rfl ?_
  refine pw_new (ci := 4) dX7_init_54 (by decide) fd_RX4_9 cl_RX7_33 in_RX4 ii_RX4 (by constructor <;> (try simp only [fN_0, fN_1, fN_2, fN_3, fN_4, fN_5, fN_6]) <;> (try dsimp only) <;> omega) ?_
  refine pw_dup dX7_init_57 rfl ?_
  refine pw_callI dX7_init_58 oX_X4_init lk_RX7_35 (sp_i4 (q := σ4.1 + 1) rfl (by show (upr σ4.2.1 (σ4.1 + 1) (4 + 1, 5) (σ4.1 + 1)).1 = _; rw [upr_s]) (fun t => by show upr J4 (σ4.1 + 1) (fun _ => 0) (σ4.1 + 1) t = 0; rw [upr_s])) rfl rfl (Nat.le_of_ble_eq_true rfl) (by decide) (by constructor <;> (try simp only [fN_0, fN_1, fN_2, fN_3, fN_4, fN_5, fN_6]) <;> (try dsimp only) <;> omega) (fun v s5 J5 G5 hq => ?_)
  obtain ⟨rfl, h1_4, he_4, hpl_4, hzl_4⟩ := hq
  have e_4 : σ4.1 + 1 = x + 297 := by have := b4.1; omega
  refine pw_putFR dX7_init_61 fd_RX7_36 (by decide) rfl rfl rfl rfl (tw_bk b4 (by omega) he_4) ?_
  have f_4 := tw_fr (k := 5) b4 (by omega) he_4
  have a0_5 := fr_pl a0_4 f_4 (by decide) (by decide) (by omega)
  have a1_5 := fr_pl a1_4 f_4 (by decide) (by decide) (by omega)
  have a2_5 := fr_pl a2_4 f_4 (by decide) (by decide) (by omega)
  have a3_5 := fr_hi a3_4 f_4 (by decide) (by omega)
  have b5 := tw_b (k := 5) (s' := x + 319) b4 (by omega) he_4 (by omega)
  have a4_5 := new_or e_4 hpl_4 hzl_4
  generalize hsg_4 : ((s5.1, s5.2.1, up2 s5.2.2 x 5 (some (σ4.1 + 1))) : pT) = σ5 at *
  exact pw_vret dX7_init_64 rfl ⟨rfl, b5.1, b5.2.2.2, ⟨b5.2.1, a0_5.1, a1_5.1, a2_5.1, a3_5.1, a4_5.1, a0_5.2.1, a1_5.2.1, a2_5.2.1, a3_5.2.1, a4_5.2.1⟩, b5.2.2.1, a0_5.2.2, a1_5.2.2, a2_5.2.2, a3_5.2.2, a4_5.2.2⟩

