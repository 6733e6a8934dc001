/-! what an act leaves alone -/
def lcl {α : Type} (p : Nat) (I I' : Nat → α) : Prop := ∀ i, (i < p ∨ p + 42 ≤ i) → I' i = I i
theorem lcl_0 {α : Type} {p : Nat} {I : Nat → α} : lcl p I I := fun _ _ => rfl
theorem lcl_u {α : Type} {p q k : Nat} {x : α} {I I' : Nat → Nat → α} (h : lcl p I I') (h1 : p ≤ q) (h2 : q < p + 42) : lcl p I (up2 I' q k x) := fun i hi => (up2_row (by omega)).trans (h i hi)
theorem lc_newAsset {I : pI} {F : pF} {p nA : Nat} {r w : Int32} : lcl p I (newAssetR I F p nA r w).2.1 ∧ lcl p F (newAssetR I F p nA r w).2.2 := by
  unfold newAssetR
  split
  · split
    · exact ⟨lcl_u (lcl_u (lcl_u (lcl_u lcl_0 (by omega) (by omega)) (by omega) (by omega)) (by omega) (by omega)) (by omega) (by omega), lcl_u (lcl_u (lcl_u lcl_0 (by omega) (by omega)) (by omega) (by omega)) (by omega) (by omega)⟩
    · exact ⟨lcl_0, lcl_0⟩
  · exact ⟨lcl_0, lcl_0⟩
theorem lc_newCrew {I : pI} {F : pF} {p nC : Nat} {r w : Int32} : lcl p I (newCrewR I F p nC r w).2.1 ∧ lcl p F (newCrewR I F p nC r w).2.2 := by
  unfold newCrewR
  split
  · split
    · exact ⟨lcl_u (lcl_u (lcl_u lcl_0 (by omega) (by omega)) (by omega) (by omega)) (by omega) (by omega), lcl_0⟩
    · exact ⟨lcl_0, lcl_0⟩
  · exact ⟨lcl_0, lcl_0⟩
theorem tn_lt {a x : Int32} {n : Nat} (h : 0 ≤ a ∧ a < x) (hx : x = nI n) (hn : n < 2 ^ 31) : a.toNatClampNeg < n := by
  obtain ⟨t, ht, rfl⟩ := has_nat (decide_eq_true h) hx hn
  rw [nI_clamp (by omega)]
  exact ht
theorem lc_setLink {I : pI} {F : pF} {p nA : Nat} {a o z : Int32} (hA : I p 4 = nI nA) (hA8 : nA ≤ 8) : lcl p I (setLinkR I F p a o z).2.1 ∧ lcl p F (setLinkR I F p a o z).2.2 := by
  unfold setLinkR
  split
  · rename_i h
    have h1 := tn_lt h.1 hA (by omega)
    have h2 := tn_lt h.2 hA (by omega)
    split
    · exact ⟨lcl_0, lcl_0⟩
    · split
      · exact ⟨lcl_0, lcl_0⟩
      · exact ⟨lcl_u (lcl_u lcl_0 (by omega) (by omega)) (by omega) (by omega), lcl_0⟩
  · exact ⟨lcl_0, lcl_0⟩
theorem lc_setBar {I : pI} {F : pF} {p : Nat} {a o z : Int32} : lcl p I (setBarR I F p a o z).2.1 ∧ lcl p F (setBarR I F p a o z).2.2 := by
  unfold setBarR
  split
  · split
    · exact ⟨lcl_0, lcl_0⟩
    · refine ⟨?_, lcl_0⟩
      show lcl p I (barI2 _ _ _ _)
      unfold barI2
      split
      · exact lcl_u lcl_0 (by omega) (by omega)
      · exact lcl_u (lcl_u lcl_0 (by omega) (by omega)) (by omega) (by omega)
  · exact ⟨lcl_0, lcl_0⟩
theorem lc_newTask {I : pI} {F : pF} {p n : Nat} {a s c d e f : Int32} : lcl p I (newTaskR I F p n a s c d e f).2.1 ∧ lcl p F (newTaskR I F p n a s c d e f).2.2 := by
  unfold newTaskR
  split
  · split
    · split
      · refine ⟨lcl_u (fun i hi => funext fun j => taskI_fr (by omega)) (by omega) (by omega), lcl_0⟩
      · exact ⟨lcl_0, lcl_0⟩
    · exact ⟨lcl_0, lcl_0⟩
  · exact ⟨lcl_0, lcl_0⟩
theorem lc_start {I : pI} {F : pF} {p nA n : Nat} {a : Int32} (hA : I p 4 = nI nA) (hA8 : nA ≤ 8) : lcl p I (startR I F p nA n a).2.1 ∧ lcl p F (startR I F p nA n a).2.2 := by
  unfold startR
  split
  · rename_i h
    have h1 := tn_lt h hA (by omega)
    split
    · split
      · exact ⟨lcl_u lcl_0 (by omega) (by omega), lcl_0⟩
      · exact ⟨lcl_0, lcl_0⟩
    · exact ⟨lcl_0, lcl_0⟩
  · exact ⟨lcl_0, lcl_0⟩
theorem lc_stop {I : pI} {F : pF} {p nA : Nat} {a : Int32} (hA : I p 4 = nI nA) (hA8 : nA ≤ 8) : lcl p I (stopR I F p nA a).2.1 ∧ lcl p F (stopR I F p nA a).2.2 := by
  unfold stopR
  split
  · rename_i h
    have h1 := tn_lt h hA (by omega)
    split
    · exact ⟨lcl_0, lcl_0⟩
    · exact ⟨lcl_u lcl_0 (by omega) (by omega), lcl_0⟩
  · exact ⟨lcl_0, lcl_0⟩
theorem lc_hang {I : pI} {F : pF} {p n : Nat} {a c : Int32} (hn : I p 6 = nI n) (hn4 : n ≤ 24) : lcl p I (hangR I F p n a c).2.1 ∧ lcl p F (hangR I F p n a c).2.2 := by
  unfold hangR
  split
  · rename_i h
    have h1 := tn_lt h.1 hn (by omega)
    split
    · exact ⟨lcl_u (lcl_u (lcl_u lcl_0 (by omega) (by omega)) (by omega) (by omega)) (by omega) (by omega), lcl_0⟩
    · exact ⟨lcl_0, lcl_0⟩
  · exact ⟨lcl_0, lcl_0⟩
theorem lc_begin {I : pI} {F : pF} {p n : Nat} {a : Int32} (hn : I p 6 = nI n) (hn4 : n ≤ 24) : lcl p I (beginR I F p n a).2.1 ∧ lcl p F (beginR I F p n a).2.2 := by
  unfold beginR
  split
  · rename_i h
    have h1 := tn_lt h hn (by omega)
    split
    · exact ⟨lcl_u (lcl_u lcl_0 (by omega) (by omega)) (by omega) (by omega), lcl_0⟩
    · exact ⟨lcl_0, lcl_0⟩
  · exact ⟨lcl_0, lcl_0⟩
theorem lc_lift {I : pI} {F : pF} {p n : Nat} {a c : Int32} (hn : I p 6 = nI n) (hn4 : n ≤ 24) : lcl p I (liftR I F p n a c).2.1 ∧ lcl p F (liftR I F p n a c).2.2 := by
  unfold liftR
  split
  · rename_i h
    have h1 := tn_lt h.1 hn (by omega)
    split
    · refine ⟨?_, lcl_0⟩
      show lcl p I (liftI _ _ _)
      unfold liftI
      split
      · exact lcl_u lcl_0 (by omega) (by omega)
      · exact lcl_u (lcl_u lcl_0 (by omega) (by omega)) (by omega) (by omega)
    · exact ⟨lcl_0, lcl_0⟩
  · exact ⟨lcl_0, lcl_0⟩
theorem lc_cancel {I : pI} {F : pF} {p n : Nat} {a : Int32} (hn : I p 6 = nI n) (hn4 : n ≤ 24) : lcl p I (cancelR I F p a).2.1 ∧ lcl p F (cancelR I F p a).2.2 := by
  unfold cancelR
  split
  · rename_i h
    have h1 := tn_lt h hn (by omega)
    split
    · exact ⟨lcl_u lcl_0 (by omega) (by omega), lcl_0⟩
    · exact ⟨lcl_0, lcl_0⟩
  · exact ⟨lcl_0, lcl_0⟩
theorem runOne_fr {I : pI} {q i j : Nat} {F : pF} (h : i ≠ q ∨ (j ≠ 2 ∧ j ≠ 3)) : runOne I q F i j = F i j := by
  unfold runOne
  rw [up2_n (by omega), up2_n (by omega)]
theorem runAF_fr {I : pI} {p : Nat} {F : pF} {i j : Nat} : ∀ k, (i < p + 5 ∨ p + 5 + k ≤ i ∨ (j ≠ 2 ∧ j ≠ 3)) → runAF I p k F i j = F i j
  | 0, _ => rfl
  | k + 1, h => by
    unfold runAF
    split
    · exact runAF_fr k (by omega)
    · rw [runOne_fr (by omega)]
      exact runAF_fr k (by omega)
theorem wk1_F {p k nA : Nat} {W : pI × pF × Nat} (hW : ∃ a, a < nA ∧ W.1 (p + 18 + k) 0 = nI a) (hA8 : nA ≤ 8) {i : Nat} (hi : i < p ∨ p + 42 ≤ i) : (wk1 p k W).2.1 i = W.2.1 i := by
  obtain ⟨a, h1, h2⟩ := hW
  unfold wk1
  split
  · split
    · rfl
    · show mendF W.2.1 _ i = _
      rw [h2, nI_clamp (by omega)]
      exact up2_row (by omega)
  · rfl
theorem wkN_F {p nA n : Nat} {I : pI} {F : pF} (hW : ∀ t, t < n → ∃ a, a < nA ∧ I (p + 18 + t) 0 = nI a) (hA8 : nA ≤ 8) {i : Nat} (hi : i < p ∨ p + 42 ≤ i) : ∀ k, k ≤ n → (wkN p k I F).2.1 i = F i
  | 0, _ => rfl
  | k + 1, hk => by
    show (wk1 p k (wkN p k I F)).2.1 i = F i
    obtain ⟨a, h1, h2⟩ := hW k (by omega)
    rw [wk1_F (nA := nA) ⟨a, h1, (wkN_fr k (by omega)).trans h2⟩ hA8 hi]
    exact wkN_F hW hA8 hi k (by omega)
theorem psN_F {p nA n : Nat} {I : pI} {F : pF} (hW : ∀ t, t < n → ∃ a, a < nA ∧ I (p + 18 + t) 0 = nI a) (hA8 : nA ≤ 8) {i : Nat} (hi : i < p ∨ p + 42 ≤ i) : ∀ k, (psN p nA n k I F).2.1 i = F i
  | 0 => rfl
  | k + 1 => by
    show (wkN p n (psN p nA n k I F).1 (runAF (psN p nA n k I F).1 p nA (psN p nA n k I F).2.1)).2.1 i = F i
    rw [wkN_F (nA := nA) (fun t ht => by obtain ⟨a, h1, h2⟩ := hW t ht; exact ⟨a, h1, (psN_fr (by omega) k).trans h2⟩) hA8 hi n (Nat.le_refl _)]
    rw [show runAF (psN p nA n k I F).1 p nA (psN p nA n k I F).2.1 i = (psN p nA n k I F).2.1 i from funext fun j => runAF_fr nA (by omega)]
    exact psN_F hW hA8 hi k
theorem lc_pass {I : pI} {F : pF} {p nA n : Nat} {x : Int32} (hn4 : n ≤ 24) (hW : ∀ t, t < n → ∃ a, a < nA ∧ I (p + 18 + t) 0 = nI a) (hA8 : nA ≤ 8) : lcl p I (passR I F p nA n x).2.1 ∧ lcl p F (passR I F p nA n x).2.2 := by
  unfold passR
  split
  · split
    · exact ⟨fun i hi => funext fun j => psN_fr (by omega) _, fun i hi => psN_F hW hA8 hi _⟩
    · exact ⟨lcl_0, lcl_0⟩
  · exact ⟨lcl_0, lcl_0⟩
/-! the object's own counts, and that they stay when other cells change -/
def cOK (x : Nat) (I : pI) (nA nC n o z : Nat) : Prop :=
  I (x + 1) 4 = nI nA ∧ nA ≤ 8 ∧ I (x + 1) 5 = nI nC ∧ nC ≤ 5 ∧ I (x + 1) 6 = nI n ∧ n ≤ 24 ∧ (∀ t, t < n → ∃ a, a < nA ∧ I (x + 1 + 18 + t) 0 = nI a) ∧ (∀ t, t < n → ∃ k, k < 5 ∧ I (x + 1 + 18 + t) 3 = nI k) ∧ (∀ a, a < 8 → I (x + 1 + 5 + a) 4 = 0 ∨ I (x + 1 + 5 + a) 4 = 1) ∧ I (x + 127) 1 = nI o ∧ o < 4 ∧ I (x + 127) 2 = nI z ∧ z ≤ 4
theorem cOK_fr {x : Nat} {I I1 : pI} {nA nC n o z : Nat} (h : cOK x I nA nC n o z) (hf : ∀ i, (i < x + 43 ∨ x + 85 ≤ i) → I1 i = I i) : cOK x I1 nA nC n o z := by
  obtain ⟨h1, h2, h3, h4, h5, h6, h7, h8, h9, h10, h11, h12, h13⟩ := h
  refine ⟨?_, h2, ?_, h4, ?_, h6, fun t ht => ?_, fun t ht => ?_, fun a ha => ?_, ?_, h11, ?_, h13⟩
  · rw [hf _ (by omega)]; exact h1
  · rw [hf _ (by omega)]; exact h3
  · rw [hf _ (by omega)]; exact h5
  · rw [hf _ (by omega)]; exact h7 t ht
  · rw [hf _ (by omega)]; exact h8 t ht
  · rw [hf _ (by omega)]; exact h9 a ha
  · rw [hf _ (by omega)]; exact h10
  · rw [hf _ (by omega)]; exact h12
def recQ (x o z : Nat) (r : Int32) (I : pI) (F : pF) (v : Option Value) (I' : pI) (F' : pF) : Prop :=
  v = some (.int r) ∧ ((r < 0 ∧ I' = I ∧ F' = F) ∨ (¬ r < 0 ∧ ∃ I1, Cpy (x + 127 + 2 + 42 * ((o + z) % 4)) (x + 43) I F I1 F' ∧ I' = (if z < 4 then up2 I1 (x + 127) 2 (nI (z + 1)) else up2 I1 (x + 127) 1 (nI ((o + 1) % 4)))))
def actQ (x o z : Nat) (I : pI) (F : pF) (R : pI → pF → Int32 × pI × pF) (v : Option Value) (I' : pI) (F' : pF) : Prop :=
  ∃ I1 F1, Cpy (x + 43) (x + 1) I F I1 F1 ∧ recQ x o z (R I1 F1).1 (R I1 F1).2.1 (R I1 F1).2.2 v I' F'
theorem bef_b {x : Nat} {I I1 I2 : pI} {F F1 : pF} (hc : Cpy (x + 43) (x + 1) I F I1 F1) (hb : ∀ a, a < 8 → I (x + 1 + 5 + a) 4 = 0 ∨ I (x + 1 + 5 + a) 4 = 1) (hl : lcl (x + 1) I1 I2) : ∀ a, a < 8 → I2 (x + 43 + 5 + a) 4 = 0 ∨ I2 (x + 43 + 5 + a) 4 = 1 := by
  intro a ha
  rw [hl _ (by omega), (hc.1.2.1 a ha).2.1]
  exact hb a ha

set_option maxRecDepth 4000 in
theorem sp_recorded {σ : pT} {I : pI} {F : pF} {x o z : Nat} {r : Int32} (h : isTW σ x) (ho : I (x + 127) 1 = nI o) (ho4 : o < 4) (hz : I (x + 127) 2 = nI z) (hz4 : z ≤ 4) (hb : ∀ a, a < 8 → I (x + 43 + 5 + a) 4 = 0 ∨ I (x + 43 + 5 + a) 4 = 1) : PR yX7_recorded cX7_recorded mX7_recorded [.ref x, .int r] σ I F (recQ x o z r I F) := by
  refine PR.of oP_X7_recorded (catOK rfl) (Nat.le_of_ble_eq_true rfl) ?_
  show PW _ _ _ 0 [.ref x, .int r] [] _ _ _ _
  refine pw_iload_n dX7_recorded_0 rfl rfl ?_
  refine pw_if_lt (tgt := 15) dX7_recorded_1 (by decide) (fun c_1 => ?_) (fun c_1 => ?_)
  · refine pw_iload_n dX7_recorded_15 rfl rfl ?_
    exact pw_iret dX7_recorded_16 rfl ⟨rfl, rfl, Or.inl ⟨c_1, rfl, rfl⟩⟩
  · refine pw_aload_n dX7_recorded_4 rfl rfl ?_
    refine pw_getR (x := (x + 127)) dX7_recorded_5 fd_RX7_29 (by decide) (tw_k h) rfl (tw_r4 h) ?_
    refine pw_aload_n dX7_recorded_8 rfl rfl ?_
    refine pw_getR (x := (x + 43)) dX7_recorded_9 fd_RX7_16 (by decide) (tw_k h) rfl (tw_r1 h) ?_
    refine pr_callV dX7_recorded_12 oX_X2_add lk_RX7_265 (sp_add (tw_hi h) (tw_bef h) (by omega) ho ho4 hz hz4 hb) (hi_k (tw_hi h)) rfl rfl (Nat.le_of_ble_eq_true rfl) (by decide) (fun v I1 F1 hq => ?_)
    obtain ⟨rfl, I2, hc, rfl⟩ := hq
    refine pw_iload_n dX7_recorded_15 rfl rfl ?_
    exact pw_iret dX7_recorded_16 rfl ⟨rfl, rfl, Or.inr ⟨c_1, _, hc, rfl⟩⟩

set_option maxRecDepth 4000 in
theorem sp_x_addAsset {σ : pT} {I : pI} {F : pF} {x nA nC n o z : Nat} {a b : Int32} (h : isTW σ x) (hk : cOK x I nA nC n o z) : PR yX7_addAsset cX7_addAsset mX7_addAsset [.ref x, .int a, .int b] σ I F (actQ x o z I F (fun I F => newAssetR I F (x + 1) nA a b)) := by
  have hb0 := hk.2.2.2.2.2.2.2.2.1
  refine PR.of oP_X7_addAsset (catOK rfl) (Nat.le_of_ble_eq_true rfl) ?_
  show PW _ _ _ 0 [.ref x, .int a, .int b] [] _ _ _ _
  refine pw_aload_n dX7_addAsset_0 rfl rfl ?_
  refine pw_getR (x := (x + 43)) dX7_addAsset_1 fd_RX7_16 (by decide) (tw_k h) rfl (tw_r1 h) ?_
  refine pw_aload_n dX7_addAsset_4 rfl rfl ?_
  refine pw_getR (x := (x + 1)) dX7_addAsset_5 fd_RX7_10 (by decide) (tw_k h) rfl (tw_r0 h) ?_
  refine pr_callV dX7_addAsset_8 oX_X5_copyFrom lk_RX7_40 (sp_copyFrom (tw_bef h) (tw_now h) (by omega) hb0) (pl_k (tw_bef h)) rfl rfl (Nat.le_of_ble_eq_true rfl) (by decide) (fun v I1 F1 hq => ?_)
  obtain ⟨rfl, hc⟩ := hq
  have hk1 := cOK_fr hk (fun i hi => (Cpy_fr hc (by omega)).1)
  obtain ⟨hA, hA8, hC, hC5, hn, hn4, hW, hKd, hb, ho, ho4, hz, hz4⟩ := hk1
  have hl := lc_newAsset (I := I1) (F := F1) (p := x + 1) (nA := nA) (r := a) (w := b)
  refine pw_aload_n dX7_addAsset_11 rfl rfl ?_
  refine pw_aload_n dX7_addAsset_12 rfl rfl ?_
  refine pw_getR (x := (x + 1)) dX7_addAsset_13 fd_RX7_10 (by decide) (tw_k h) rfl (tw_r0 h) ?_
  refine pw_iload_n dX7_addAsset_16 rfl rfl ?_
  refine pw_iload_n dX7_addAsset_17 rfl rfl ?_
  refine pe_callVi dX7_addAsset_18 oX_X5_newAsset lk_RX7_44 (sp_newAsset (tw_now h) hA hA8) (pl_k (tw_now h)) rfl rfl (Nat.le_of_ble_eq_true rfl) (by decide) ?_
  refine pr_callV dX7_addAsset_21 oX_X7_recorded lk_RX7_48 (sp_recorded h ((congrFun (hl.1 _ (by omega)) 1).trans ho) ho4 ((congrFun (hl.1 _ (by omega)) 2).trans hz) hz4 (bef_b hc hb0 hl.1)) (tw_k h) rfl rfl (Nat.le_of_ble_eq_true rfl) (by decide) (fun v I2 F2 hq => ?_)
  have hv := hq.1
  subst hv
  exact pw_iret dX7_addAsset_24 rfl ⟨rfl, I1, F1, hc, hq⟩

set_option maxRecDepth 4000 in
theorem sp_x_link {σ : pT} {I : pI} {F : pF} {x nA nC n o z : Nat} {a b c : Int32} (h : isTW σ x) (hk : cOK x I nA nC n o z) : PR yX7_link cX7_link mX7_link [.ref x, .int a, .int b, .int c] σ I F (actQ x o z I F (fun I F => setLinkR I F (x + 1) a b c)) := by
  have hb0 := hk.2.2.2.2.2.2.2.2.1
  refine PR.of oP_X7_link (catOK rfl) (Nat.le_of_ble_eq_true rfl) ?_
  show PW _ _ _ 0 [.ref x, .int a, .int b, .int c] [] _ _ _ _
  refine pw_aload_n dX7_link_0 rfl rfl ?_
  refine pw_getR (x := (x + 43)) dX7_link_1 fd_RX7_16 (by decide) (tw_k h) rfl (tw_r1 h) ?_
  refine pw_aload_n dX7_link_4 rfl rfl ?_
  refine pw_getR (x := (x + 1)) dX7_link_5 fd_RX7_10 (by decide) (tw_k h) rfl (tw_r0 h) ?_
  refine pr_callV dX7_link_8 oX_X5_copyFrom lk_RX7_40 (sp_copyFrom (tw_bef h) (tw_now h) (by omega) hb0) (pl_k (tw_bef h)) rfl rfl (Nat.le_of_ble_eq_true rfl) (by decide) (fun v I1 F1 hq => ?_)
  obtain ⟨rfl, hc⟩ := hq
  have hk1 := cOK_fr hk (fun i hi => (Cpy_fr hc (by omega)).1)
  obtain ⟨hA, hA8, hC, hC5, hn, hn4, hW, hKd, hb, ho, ho4, hz, hz4⟩ := hk1
  have hl := lc_setLink (F := F1) (a := a) (o := b) (z := c) hA hA8
  refine pw_aload_n dX7_link_11 rfl rfl ?_
  refine pw_aload_n dX7_link_12 rfl rfl ?_
  refine pw_getR (x := (x + 1)) dX7_link_13 fd_RX7_10 (by decide) (tw_k h) rfl (tw_r0 h) ?_
  refine pw_iload_n dX7_link_16 rfl rfl ?_
  refine pw_iload_n dX7_link_17 rfl rfl ?_
  refine pw_iload_n dX7_link_18 rfl rfl ?_
  refine pe_callVi dX7_link_19 oX_X5_setLink lk_RX7_52 (sp_setLink (tw_now h) hA hA8) (pl_k (tw_now h)) rfl rfl (Nat.le_of_ble_eq_true rfl) (by decide) ?_
  refine pr_callV dX7_link_22 oX_X7_recorded lk_RX7_48 (sp_recorded h ((congrFun (hl.1 _ (by omega)) 1).trans ho) ho4 ((congrFun (hl.1 _ (by omega)) 2).trans hz) hz4 (bef_b hc hb0 hl.1)) (tw_k h) rfl rfl (Nat.le_of_ble_eq_true rfl) (by decide) (fun v I2 F2 hq => ?_)
  have hv := hq.1
  subst hv
  exact pw_iret dX7_link_25 rfl ⟨rfl, I1, F1, hc, hq⟩

set_option maxRecDepth 4000 in
theorem sp_x_bar {σ : pT} {I : pI} {F : pF} {x nA nC n o z : Nat} {a b c : Int32} (h : isTW σ x) (hk : cOK x I nA nC n o z) : PR yX7_bar cX7_bar mX7_bar [.ref x, .int a, .int b, .int c] σ I F (actQ x o z I F (fun I F => setBarR I F (x + 1) a b c)) := by
  have hb0 := hk.2.2.2.2.2.2.2.2.1
  refine PR.of oP_X7_bar (catOK rfl) (Nat.le_of_ble_eq_true rfl) ?_
  show PW _ _ _ 0 [.ref x, .int a, .int b, .int c] [] _ _ _ _
  refine pw_aload_n dX7_bar_0 rfl rfl ?_
  refine pw_getR (x := (x + 43)) dX7_bar_1 fd_RX7_16 (by decide) (tw_k h) rfl (tw_r1 h) ?_
  refine pw_aload_n dX7_bar_4 rfl rfl ?_
  refine pw_getR (x := (x + 1)) dX7_bar_5 fd_RX7_10 (by decide) (tw_k h) rfl (tw_r0 h) ?_
  refine pr_callV dX7_bar_8 oX_X5_copyFrom lk_RX7_40 (sp_copyFrom (tw_bef h) (tw_now h) (by omega) hb0) (pl_k (tw_bef h)) rfl rfl (Nat.le_of_ble_eq_true rfl) (by decide) (fun v I1 F1 hq => ?_)
  obtain ⟨rfl, hc⟩ := hq
  have hk1 := cOK_fr hk (fun i hi => (Cpy_fr hc (by omega)).1)
  obtain ⟨hA, hA8, hC, hC5, hn, hn4, hW, hKd, hb, ho, ho4, hz, hz4⟩ := hk1
  have hl := lc_setBar (I := I1) (F := F1) (p := x + 1) (a := a) (o := b) (z := c)
  refine pw_aload_n dX7_bar_11 rfl rfl ?_
  refine pw_aload_n dX7_bar_12 rfl rfl ?_
  refine pw_getR (x := (x + 1)) dX7_bar_13 fd_RX7_10 (by decide) (tw_k h) rfl (tw_r0 h) ?_
  refine pw_iload_n dX7_bar_16 rfl rfl ?_
  refine pw_iload_n dX7_bar_17 rfl rfl ?_
  refine pw_iload_n dX7_bar_18 rfl rfl ?_
  refine pe_callVi dX7_bar_19 oX_X5_setBar lk_RX7_56 (sp_setBar (tw_now h)) (pl_k (tw_now h)) rfl rfl (Nat.le_of_ble_eq_true rfl) (by decide) ?_
  refine pr_callV dX7_bar_22 oX_X7_recorded lk_RX7_48 (sp_recorded h ((congrFun (hl.1 _ (by omega)) 1).trans ho) ho4 ((congrFun (hl.1 _ (by omega)) 2).trans hz) hz4 (bef_b hc hb0 hl.1)) (tw_k h) rfl rfl (Nat.le_of_ble_eq_true rfl) (by decide) (fun v I2 F2 hq => ?_)
  have hv := hq.1
  subst hv
  exact pw_iret dX7_bar_25 rfl ⟨rfl, I1, F1, hc, hq⟩

set_option maxRecDepth 4000 in
theorem sp_x_addCrew {σ : pT} {I : pI} {F : pF} {x nA nC n o z : Nat} {a b : Int32} (h : isTW σ x) (hk : cOK x I nA nC n o z) : PR yX7_addCrew cX7_addCrew mX7_addCrew [.ref x, .int a, .int b] σ I F (actQ x o z I F (fun I F => newCrewR I F (x + 1) nC a b)) := by
  have hb0 := hk.2.2.2.2.2.2.2.2.1
  refine PR.of oP_X7_addCrew (catOK rfl) (Nat.le_of_ble_eq_true rfl) ?_
  show PW _ _ _ 0 [.ref x, .int a, .int b] [] _ _ _ _
  refine pw_aload_n dX7_addCrew_0 rfl rfl ?_
  refine pw_getR (x := (x + 43)) dX7_addCrew_1 fd_RX7_16 (by decide) (tw_k h) rfl (tw_r1 h) ?_
  refine pw_aload_n dX7_addCrew_4 rfl rfl ?_
  refine pw_getR (x := (x + 1)) dX7_addCrew_5 fd_RX7_10 (by decide) (tw_k h) rfl (tw_r0 h) ?_
  refine pr_callV dX7_addCrew_8 oX_X5_copyFrom lk_RX7_40 (sp_copyFrom (tw_bef h) (tw_now h) (by omega) hb0) (pl_k (tw_bef h)) rfl rfl (Nat.le_of_ble_eq_true rfl) (by decide) (fun v I1 F1 hq => ?_)
  obtain ⟨rfl, hc⟩ := hq
  have hk1 := cOK_fr hk (fun i hi => (Cpy_fr hc (by omega)).1)
  obtain ⟨hA, hA8, hC, hC5, hn, hn4, hW, hKd, hb, ho, ho4, hz, hz4⟩ := hk1
  have hl := lc_newCrew (I := I1) (F := F1) (p := x + 1) (nC := nC) (r := a) (w := b)
  refine pw_aload_n dX7_addCrew_11 rfl rfl ?_
  refine pw_aload_n dX7_addCrew_12 rfl rfl ?_
  refine pw_getR (x := (x + 1)) dX7_addCrew_13 fd_RX7_10 (by decide) (tw_k h) rfl (tw_r0 h) ?_
  refine pw_iload_n dX7_addCrew_16 rfl rfl ?_
  refine pw_iload_n dX7_addCrew_17 rfl rfl ?_
  refine pe_callVi dX7_addCrew_18 oX_X5_newCrew lk_RX7_59 (sp_newCrew (tw_now h) hC hC5) (pl_k (tw_now h)) rfl rfl (Nat.le_of_ble_eq_true rfl) (by decide) ?_
  refine pr_callV dX7_addCrew_21 oX_X7_recorded lk_RX7_48 (sp_recorded h ((congrFun (hl.1 _ (by omega)) 1).trans ho) ho4 ((congrFun (hl.1 _ (by omega)) 2).trans hz) hz4 (bef_b hc hb0 hl.1)) (tw_k h) rfl rfl (Nat.le_of_ble_eq_true rfl) (by decide) (fun v I2 F2 hq => ?_)
  have hv := hq.1
  subst hv
  exact pw_iret dX7_addCrew_24 rfl ⟨rfl, I1, F1, hc, hq⟩

set_option maxRecDepth 4000 in
theorem sp_x_addTask {σ : pT} {I : pI} {F : pF} {x nA nC n o z : Nat} {a b c d e f : Int32} (h : isTW σ x) (hk : cOK x I nA nC n o z) : PR yX7_addTask cX7_addTask mX7_addTask [.ref x, .int a, .int b, .int c, .int d, .int e, .int f] σ I F (actQ x o z I F (fun I F => newTaskR I F (x + 1) n a b c d e f)) := by
  have hb0 := hk.2.2.2.2.2.2.2.2.1
  refine PR.of oP_X7_addTask (catOK rfl) (Nat.le_of_ble_eq_true rfl) ?_
  show PW _ _ _ 0 [.ref x, .int a, .int b, .int c, .int d, .int e, .int f] [] _ _ _ _
  refine pw_aload_n dX7_addTask_0 rfl rfl ?_
  refine pw_getR (x := (x + 43)) dX7_addTask_1 fd_RX7_16 (by decide) (tw_k h) rfl (tw_r1 h) ?_
  refine pw_aload_n dX7_addTask_4 rfl rfl ?_
  refine pw_getR (x := (x + 1)) dX7_addTask_5 fd_RX7_10 (by decide) (tw_k h) rfl (tw_r0 h) ?_
  refine pr_callV dX7_addTask_8 oX_X5_copyFrom lk_RX7_40 (sp_copyFrom (tw_bef h) (tw_now h) (by omega) hb0) (pl_k (tw_bef h)) rfl rfl (Nat.le_of_ble_eq_true rfl) (by decide) (fun v I1 F1 hq => ?_)
  obtain ⟨rfl, hc⟩ := hq
  have hk1 := cOK_fr hk (fun i hi => (Cpy_fr hc (by omega)).1)
  obtain ⟨hA, hA8, hC, hC5, hn, hn4, hW, hKd, hb, ho, ho4, hz, hz4⟩ := hk1
  have hl := lc_newTask (I := I1) (F := F1) (p := x + 1) (n := n) (a := a) (s := b) (c := c) (d := d) (e := e) (f := f)
  refine pw_aload_n dX7_addTask_11 rfl rfl ?_
  refine pw_aload_n dX7_addTask_12 rfl rfl ?_
  refine pw_getR (x := (x + 1)) dX7_addTask_13 fd_RX7_10 (by decide) (tw_k h) rfl (tw_r0 h) ?_
  refine pw_iload_n dX7_addTask_16 rfl rfl ?_
  refine pw_iload_n dX7_addTask_17 rfl rfl ?_
  refine pw_iload_n dX7_addTask_18 rfl rfl ?_
  refine pw_iload dX7_addTask_19 rfl ?_
  refine pw_iload dX7_addTask_21 rfl ?_
  refine pw_iload dX7_addTask_23 rfl ?_
  refine pe_callVi dX7_addTask_25 oX_X5_newTask lk_RX7_62 (sp_newTask (tw_now h) hn hn4 hA hA8) (pl_k (tw_now h)) rfl rfl (Nat.le_of_ble_eq_true rfl) (by decide) ?_
  refine pr_callV dX7_addTask_28 oX_X7_recorded lk_RX7_48 (sp_recorded h ((congrFun (hl.1 _ (by omega)) 1).trans ho) ho4 ((congrFun (hl.1 _ (by omega)) 2).trans hz) hz4 (bef_b hc hb0 hl.1)) (tw_k h) rfl rfl (Nat.le_of_ble_eq_true rfl) (by decide) (fun v I2 F2 hq => ?_)
  have hv := hq.1
  subst hv
  exact pw_iret dX7_addTask_31 rfl ⟨rfl, I1, F1, hc, hq⟩

set_option maxRecDepth 4000 in
theorem sp_x_run {σ : pT} {I : pI} {F : pF} {x nA nC n o z : Nat} {a : Int32} (h : isTW σ x) (hk : cOK x I nA nC n o z) : PR yX7_run cX7_run mX7_run [.ref x, .int a] σ I F (actQ x o z I F (fun I F => startR I F (x + 1) nA n a)) := by
  have hb0 := hk.2.2.2.2.2.2.2.2.1
  refine PR.of oP_X7_run (catOK rfl) (Nat.le_of_ble_eq_true rfl) ?_
  show PW _ _ _ 0 [.ref x, .int a] [] _ _ _ _
  refine pw_aload_n dX7_run_0 rfl rfl ?_
  refine pw_getR (x := (x + 43)) dX7_run_1 fd_RX7_16 (by decide) (tw_k h) rfl (tw_r1 h) ?_
  refine pw_aload_n dX7_run_4 rfl rfl ?_
  refine pw_getR (x := (x + 1)) dX7_run_5 fd_RX7_10 (by decide) (tw_k h) rfl (tw_r0 h) ?_
  refine pr_callV dX7_run_8 oX_X5_copyFrom lk_RX7_40 (sp_copyFrom (tw_bef h) (tw_now h) (by omega) hb0) (pl_k (tw_bef h)) rfl rfl (Nat.le_of_ble_eq_true rfl) (by decide) (fun v I1 F1 hq => ?_)
  obtain ⟨rfl, hc⟩ := hq
  have hk1 := cOK_fr hk (fun i hi => (Cpy_fr hc (by omega)).1)
  obtain ⟨hA, hA8, hC, hC5, hn, hn4, hW, hKd, hb, ho, ho4, hz, hz4⟩ := hk1
  have hl := lc_start (F := F1) (n := n) (a := a) hA hA8
  refine pw_aload_n dX7_run_11 rfl rfl ?_
  refine pw_aload_n dX7_run_12 rfl rfl ?_
  refine pw_getR (x := (x + 1)) dX7_run_13 fd_RX7_10 (by decide) (tw_k h) rfl (tw_r0 h) ?_
  refine pw_iload_n dX7_run_16 rfl rfl ?_
  refine pe_callVi dX7_run_17 oX_X5_startAsset lk_RX7_66 (sp_startAsset (tw_now h) hn hn4 hA hA8) (pl_k (tw_now h)) rfl rfl (Nat.le_of_ble_eq_true rfl) (by decide) ?_
  refine pr_callV dX7_run_20 oX_X7_recorded lk_RX7_48 (sp_recorded h ((congrFun (hl.1 _ (by omega)) 1).trans ho) ho4 ((congrFun (hl.1 _ (by omega)) 2).trans hz) hz4 (bef_b hc hb0 hl.1)) (tw_k h) rfl rfl (Nat.le_of_ble_eq_true rfl) (by decide) (fun v I2 F2 hq => ?_)
  have hv := hq.1
  subst hv
  exact pw_iret dX7_run_23 rfl ⟨rfl, I1, F1, hc, hq⟩

set_option maxRecDepth 4000 in
theorem sp_x_stop {σ : pT} {I : pI} {F : pF} {x nA nC n o z : Nat} {a : Int32} (h : isTW σ x) (hk : cOK x I nA nC n o z) : PR yX7_stop cX7_stop mX7_stop [.ref x, .int a] σ I F (actQ x o z I F (fun I F => stopR I F (x + 1) nA a)) := by
  have hb0 := hk.2.2.2.2.2.2.2.2.1
  refine PR.of oP_X7_stop (catOK rfl) (Nat.le_of_ble_eq_true rfl) ?_
  show PW _ _ _ 0 [.ref x, .int a] [] _ _ _ _
  refine pw_aload_n dX7_stop_0 rfl rfl ?_
  refine pw_getR (x := (x + 43)) dX7_stop_1 fd_RX7_16 (by decide) (tw_k h) rfl (tw_r1 h) ?_
  refine pw_aload_n dX7_stop_4 rfl rfl ?_
  refine pw_getR (x := (x + 1)) dX7_stop_5 fd_RX7_10 (by decide) (tw_k h) rfl (tw_r0 h) ?_
  refine pr_callV dX7_stop_8 oX_X5_copyFrom lk_RX7_40 (sp_copyFrom (tw_bef h) (tw_now h) (by omega) hb0) (pl_k (tw_bef h)) rfl rfl (Nat.le_of_ble_eq_true rfl) (by decide) (fun v I1 F1 hq => ?_)
  obtain ⟨rfl, hc⟩ := hq
  have hk1 := cOK_fr hk (fun i hi => (Cpy_fr hc (by omega)).1)
  obtain ⟨hA, hA8, hC, hC5, hn, hn4, hW, hKd, hb, ho, ho4, hz, hz4⟩ := hk1
  have hl := lc_stop (F := F1) (a := a) hA hA8
  refine pw_aload_n dX7_stop_11 rfl rfl ?_
  refine pw_aload_n dX7_stop_12 rfl rfl ?_
  refine pw_getR (x := (x + 1)) dX7_stop_13 fd_RX7_10 (by decide) (tw_k h) rfl (tw_r0 h) ?_
  refine pw_iload_n dX7_stop_16 rfl rfl ?_
  refine pe_callVi dX7_stop_17 oX_X5_stopAsset lk_RX7_69 (sp_stopAsset (tw_now h) hA hA8) (pl_k (tw_now h)) rfl rfl (Nat.le_of_ble_eq_true rfl) (by decide) ?_
  refine pr_callV dX7_stop_20 oX_X7_recorded lk_RX7_48 (sp_recorded h ((congrFun (hl.1 _ (by omega)) 1).trans ho) ho4 ((congrFun (hl.1 _ (by omega)) 2).trans hz) hz4 (bef_b hc hb0 hl.1)) (tw_k h) rfl rfl (Nat.le_of_ble_eq_true rfl) (by decide) (fun v I2 F2 hq => ?_)
  have hv := hq.1
  subst hv
  exact pw_iret dX7_stop_23 rfl ⟨rfl, I1, F1, hc, hq⟩

set_option maxRecDepth 4000 in
theorem sp_x_hang {σ : pT} {I : pI} {F : pF} {x nA nC n o z : Nat} {a b : Int32} (h : isTW σ x) (hk : cOK x I nA nC n o z) : PR yX7_hang cX7_hang mX7_hang [.ref x, .int a, .int b] σ I F (actQ x o z I F (fun I F => hangR I F (x + 1) n a b)) := by
  have hb0 := hk.2.2.2.2.2.2.2.2.1
  refine PR.of oP_X7_hang (catOK rfl) (Nat.le_of_ble_eq_true rfl) ?_
  show PW _ _ _ 0 [.ref x, .int a, .int b] [] _ _ _ _
  refine pw_aload_n dX7_hang_0 rfl rfl ?_
  refine pw_getR (x := (x + 43)) dX7_hang_1 fd_RX7_16 (by decide) (tw_k h) rfl (tw_r1 h) ?_
  refine pw_aload_n dX7_hang_4 rfl rfl ?_
  refine pw_getR (x := (x + 1)) dX7_hang_5 fd_RX7_10 (by decide) (tw_k h) rfl (tw_r0 h) ?_
  refine pr_callV dX7_hang_8 oX_X5_copyFrom lk_RX7_40 (sp_copyFrom (tw_bef h) (tw_now h) (by omega) hb0) (pl_k (tw_bef h)) rfl rfl (Nat.le_of_ble_eq_true rfl) (by decide) (fun v I1 F1 hq => ?_)
  obtain ⟨rfl, hc⟩ := hq
  have hk1 := cOK_fr hk (fun i hi => (Cpy_fr hc (by omega)).1)
  obtain ⟨hA, hA8, hC, hC5, hn, hn4, hW, hKd, hb, ho, ho4, hz, hz4⟩ := hk1
  have hl := lc_hang (F := F1) (a := a) (c := b) hn hn4
  refine pw_aload_n dX7_hang_11 rfl rfl ?_
  refine pw_aload_n dX7_hang_12 rfl rfl ?_
  refine pw_getR (x := (x + 1)) dX7_hang_13 fd_RX7_10 (by decide) (tw_k h) rfl (tw_r0 h) ?_
  refine pw_iload_n dX7_hang_16 rfl rfl ?_
  refine pw_iload_n dX7_hang_17 rfl rfl ?_
  refine pe_callVi dX7_hang_18 oX_X5_hangTag lk_RX7_72 (sp_hangTag (tw_now h) hn hn4 hA hA8 hC hC5 hW) (pl_k (tw_now h)) rfl rfl (Nat.le_of_ble_eq_true rfl) (by decide) ?_
  refine pr_callV dX7_hang_21 oX_X7_recorded lk_RX7_48 (sp_recorded h ((congrFun (hl.1 _ (by omega)) 1).trans ho) ho4 ((congrFun (hl.1 _ (by omega)) 2).trans hz) hz4 (bef_b hc hb0 hl.1)) (tw_k h) rfl rfl (Nat.le_of_ble_eq_true rfl) (by decide) (fun v I2 F2 hq => ?_)
  have hv := hq.1
  subst hv
  exact pw_iret dX7_hang_24 rfl ⟨rfl, I1, F1, hc, hq⟩

set_option maxRecDepth 4000 in
theorem sp_x_begin {σ : pT} {I : pI} {F : pF} {x nA nC n o z : Nat} {a : Int32} (h : isTW σ x) (hk : cOK x I nA nC n o z) : PR yX7_begin cX7_begin mX7_begin [.ref x, .int a] σ I F (actQ x o z I F (fun I F => beginR I F (x + 1) n a)) := by
  have hb0 := hk.2.2.2.2.2.2.2.2.1
  refine PR.of oP_X7_begin (catOK rfl) (Nat.le_of_ble_eq_true rfl) ?_
  show PW _ _ _ 0 [.ref x, .int a] [] _ _ _ _
  refine pw_aload_n dX7_begin_0 rfl rfl ?_
  refine pw_getR (x := (x + 43)) dX7_begin_1 fd_RX7_16 (by decide) (tw_k h) rfl (tw_r1 h) ?_
  refine pw_aload_n dX7_begin_4 rfl rfl ?_
  refine pw_getR (x := (x + 1)) dX7_begin_5 fd_RX7_10 (by decide) (tw_k h) rfl (tw_r0 h) ?_
  refine pr_callV dX7_begin_8 oX_X5_copyFrom lk_RX7_40 (sp_copyFrom (tw_bef h) (tw_now h) (by omega) hb0) (pl_k (tw_bef h)) rfl rfl (Nat.le_of_ble_eq_true rfl) (by decide) (fun v I1 F1 hq => ?_)
  obtain ⟨rfl, hc⟩ := hq
  have hk1 := cOK_fr hk (fun i hi => (Cpy_fr hc (by omega)).1)
  obtain ⟨hA, hA8, hC, hC5, hn, hn4, hW, hKd, hb, ho, ho4, hz, hz4⟩ := hk1
  have hl := lc_begin (F := F1) (a := a) hn hn4
  refine pw_aload_n dX7_begin_11 rfl rfl ?_
  refine pw_aload_n dX7_begin_12 rfl rfl ?_
  refine pw_getR (x := (x + 1)) dX7_begin_13 fd_RX7_10 (by decide) (tw_k h) rfl (tw_r0 h) ?_
  refine pw_iload_n dX7_begin_16 rfl rfl ?_
  refine pe_callVi dX7_begin_17 oX_X5_beginTask lk_RX7_75 (sp_beginTask (tw_now h) hn hn4 hA hA8 hW hKd) (pl_k (tw_now h)) rfl rfl (Nat.le_of_ble_eq_true rfl) (by decide) ?_
  refine pr_callV dX7_begin_20 oX_X7_recorded lk_RX7_48 (sp_recorded h ((congrFun (hl.1 _ (by omega)) 1).trans ho) ho4 ((congrFun (hl.1 _ (by omega)) 2).trans hz) hz4 (bef_b hc hb0 hl.1)) (tw_k h) rfl rfl (Nat.le_of_ble_eq_true rfl) (by decide) (fun v I2 F2 hq => ?_)
  have hv := hq.1
  subst hv
  exact pw_iret dX7_begin_23 rfl ⟨rfl, I1, F1, hc, hq⟩

set_option maxRecDepth 4000 in
theorem sp_x_lift {σ : pT} {I : pI} {F : pF} {x nA nC n o z : Nat} {a b : Int32} (h : isTW σ x) (hk : cOK x I nA nC n o z) : PR yX7_lift cX7_lift mX7_lift [.ref x, .int a, .int b] σ I F (actQ x o z I F (fun I F => liftR I F (x + 1) n a b)) := by
  have hb0 := hk.2.2.2.2.2.2.2.2.1
  refine PR.of oP_X7_lift (catOK rfl) (Nat.le_of_ble_eq_true rfl) ?_
  show PW _ _ _ 0 [.ref x, .int a, .int b] [] _ _ _ _
  refine pw_aload_n dX7_lift_0 rfl rfl ?_
  refine pw_getR (x := (x + 43)) dX7_lift_1 fd_RX7_16 (by decide) (tw_k h) rfl (tw_r1 h) ?_
  refine pw_aload_n dX7_lift_4 rfl rfl ?_
  refine pw_getR (x := (x + 1)) dX7_lift_5 fd_RX7_10 (by decide) (tw_k h) rfl (tw_r0 h) ?_
  refine pr_callV dX7_lift_8 oX_X5_copyFrom lk_RX7_40 (sp_copyFrom (tw_bef h) (tw_now h) (by omega) hb0) (pl_k (tw_bef h)) rfl rfl (Nat.le_of_ble_eq_true rfl) (by decide) (fun v I1 F1 hq => ?_)
  obtain ⟨rfl, hc⟩ := hq
  have hk1 := cOK_fr hk (fun i hi => (Cpy_fr hc (by omega)).1)
  obtain ⟨hA, hA8, hC, hC5, hn, hn4, hW, hKd, hb, ho, ho4, hz, hz4⟩ := hk1
  have hl := lc_lift (F := F1) (a := a) (c := b) hn hn4
  refine pw_aload_n dX7_lift_11 rfl rfl ?_
  refine pw_aload_n dX7_lift_12 rfl rfl ?_
  refine pw_getR (x := (x + 1)) dX7_lift_13 fd_RX7_10 (by decide) (tw_k h) rfl (tw_r0 h) ?_
  refine pw_iload_n dX7_lift_16 rfl rfl ?_
  refine pw_iload_n dX7_lift_17 rfl rfl ?_
  refine pe_callVi dX7_lift_18 oX_X5_liftTag lk_RX7_78 (sp_liftTag (nA := nA) (tw_now h) hn hn4 hC hC5) (pl_k (tw_now h)) rfl rfl (Nat.le_of_ble_eq_true rfl) (by decide) ?_
  refine pr_callV dX7_lift_21 oX_X7_recorded lk_RX7_48 (sp_recorded h ((congrFun (hl.1 _ (by omega)) 1).trans ho) ho4 ((congrFun (hl.1 _ (by omega)) 2).trans hz) hz4 (bef_b hc hb0 hl.1)) (tw_k h) rfl rfl (Nat.le_of_ble_eq_true rfl) (by decide) (fun v I2 F2 hq => ?_)
  have hv := hq.1
  subst hv
  exact pw_iret dX7_lift_24 rfl ⟨rfl, I1, F1, hc, hq⟩

set_option maxRecDepth 4000 in
theorem sp_x_cancel {σ : pT} {I : pI} {F : pF} {x nA nC n o z : Nat} {a : Int32} (h : isTW σ x) (hk : cOK x I nA nC n o z) : PR yX7_cancel cX7_cancel mX7_cancel [.ref x, .int a] σ I F (actQ x o z I F (fun I F => cancelR I F (x + 1) a)) := by
  have hb0 := hk.2.2.2.2.2.2.2.2.1
  refine PR.of oP_X7_cancel (catOK rfl) (Nat.le_of_ble_eq_true rfl) ?_
  show PW _ _ _ 0 [.ref x, .int a] [] _ _ _ _
  refine pw_aload_n dX7_cancel_0 rfl rfl ?_
  refine pw_getR (x := (x + 43)) dX7_cancel_1 fd_RX7_16 (by decide) (tw_k h) rfl (tw_r1 h) ?_
  refine pw_aload_n dX7_cancel_4 rfl rfl ?_
  refine pw_getR (x := (x + 1)) dX7_cancel_5 fd_RX7_10 (by decide) (tw_k h) rfl (tw_r0 h) ?_
  refine pr_callV dX7_cancel_8 oX_X5_copyFrom lk_RX7_40 (sp_copyFrom (tw_bef h) (tw_now h) (by omega) hb0) (pl_k (tw_bef h)) rfl rfl (Nat.le_of_ble_eq_true rfl) (by decide) (fun v I1 F1 hq => ?_)
  obtain ⟨rfl, hc⟩ := hq
  have hk1 := cOK_fr hk (fun i hi => (Cpy_fr hc (by omega)).1)
  obtain ⟨hA, hA8, hC, hC5, hn, hn4, hW, hKd, hb, ho, ho4, hz, hz4⟩ := hk1
  have hl := lc_cancel (F := F1) (a := a) hn hn4
  refine pw_aload_n dX7_cancel_11 rfl rfl ?_
  refine pw_aload_n dX7_cancel_12 rfl rfl ?_
  refine pw_getR (x := (x + 1)) dX7_cancel_13 fd_RX7_10 (by decide) (tw_k h) rfl (tw_r0 h) ?_
  refine pw_iload_n dX7_cancel_16 rfl rfl ?_
  refine pe_callVi dX7_cancel_17 oX_X5_cancelTask lk_RX7_81 (sp_cancelTask (tw_now h) hn hn4) (pl_k (tw_now h)) rfl rfl (Nat.le_of_ble_eq_true rfl) (by decide) ?_
  refine pr_callV dX7_cancel_20 oX_X7_recorded lk_RX7_48 (sp_recorded h ((congrFun (hl.1 _ (by omega)) 1).trans ho) ho4 ((congrFun (hl.1 _ (by omega)) 2).trans hz) hz4 (bef_b hc hb0 hl.1)) (tw_k h) rfl rfl (Nat.le_of_ble_eq_true rfl) (by decide) (fun v I2 F2 hq => ?_)
  have hv := hq.1
  subst hv
  exact pw_iret dX7_cancel_23 rfl ⟨rfl, I1, F1, hc, hq⟩

set_option maxRecDepth 4000 in
theorem sp_x_pass {σ : pT} {I : pI} {F : pF} {x nA nC n o z : Nat} {a : Int32} (h : isTW σ x) (hk : cOK x I nA nC n o z) : PR yX7_pass cX7_pass mX7_pass [.ref x, .int a] σ I F (actQ x o z I F (fun I F => passR I F (x + 1) nA n a)) := by
  have hb0 := hk.2.2.2.2.2.2.2.2.1
  refine PR.of oP_X7_pass (catOK rfl) (Nat.le_of_ble_eq_true rfl) ?_
  show PW _ _ _ 0 [.ref x, .int a] [] _ _ _ _
  refine pw_aload_n dX7_pass_0 rfl rfl ?_
  refine pw_getR (x := (x + 43)) dX7_pass_1 fd_RX7_16 (by decide) (tw_k h) rfl (tw_r1 h) ?_
  refine pw_aload_n dX7_pass_4 rfl rfl ?_
  refine pw_getR (x := (x + 1)) dX7_pass_5 fd_RX7_10 (by decide) (tw_k h) rfl (tw_r0 h) ?_
  refine pr_callV dX7_pass_8 oX_X5_copyFrom lk_RX7_40 (sp_copyFrom (tw_bef h) (tw_now h) (by omega) hb0) (pl_k (tw_bef h)) rfl rfl (Nat.le_of_ble_eq_true rfl) (by decide) (fun v I1 F1 hq => ?_)
  obtain ⟨rfl, hc⟩ := hq
  have hk1 := cOK_fr hk (fun i hi => (Cpy_fr hc (by omega)).1)
  obtain ⟨hA, hA8, hC, hC5, hn, hn4, hW, hKd, hb, ho, ho4, hz, hz4⟩ := hk1
  have hl := lc_pass (F := F1) (x := a) hn4 hW hA8
  refine pw_aload_n dX7_pass_11 rfl rfl ?_
  refine pw_aload_n dX7_pass_12 rfl rfl ?_
  refine pw_getR (x := (x + 1)) dX7_pass_13 fd_RX7_10 (by decide) (tw_k h) rfl (tw_r0 h) ?_
  refine pw_iload_n dX7_pass_16 rfl rfl ?_
  refine pe_callVi dX7_pass_17 oX_X5_passHours lk_RX7_84 (sp_passHours (tw_now h) hn hn4 hA hA8 hW) (pl_k (tw_now h)) rfl rfl (Nat.le_of_ble_eq_true rfl) (by decide) ?_
  refine pr_callV dX7_pass_20 oX_X7_recorded lk_RX7_48 (sp_recorded h ((congrFun (hl.1 _ (by omega)) 1).trans ho) ho4 ((congrFun (hl.1 _ (by omega)) 2).trans hz) hz4 (bef_b hc hb0 hl.1)) (tw_k h) rfl rfl (Nat.le_of_ble_eq_true rfl) (by decide) (fun v I2 F2 hq => ?_)
  have hv := hq.1
  subst hv
  exact pw_iret dX7_pass_23 rfl ⟨rfl, I1, F1, hc, hq⟩

