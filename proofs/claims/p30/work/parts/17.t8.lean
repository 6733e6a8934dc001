/-! the history -/
theorem rem4 (a : Nat) (h : a < 2 ^ 31) : nI a - nI a / 4 * 4 = nI (a % 4) := pk_rem (d := 4) h (by decide) (by decide)
theorem Cpy_fr {p r : Nat} {I I' : pI} {F F' : pF} (h : Cpy p r I F I' F') {i : Nat} (hi : i < p ∨ p + 42 ≤ i) : I' i = I i ∧ F' i = F i := h.1.1 i hi

set_option maxRecDepth 4000 in
theorem sp_add {σ : pT} {I : pI} {F : pF} {q s o z : Nat} (h : isHi σ q) (hs : isPl σ s) (hd : s + 42 ≤ q) (ho : I q 1 = nI o) (ho4 : o < 4) (hz : I q 2 = nI z) (hz4 : z ≤ 4) (hb : ∀ a, a < 8 → I (s + 5 + a) 4 = 0 ∨ I (s + 5 + a) 4 = 1) : PR yX2_add cX2_add mX2_add [.ref q, .ref s] σ I F fun v I' F' => v = none ∧ ∃ I1, Cpy (q + 2 + 42 * ((o + z) % 4)) s I F I1 F' ∧ I' = (if z < 4 then up2 I1 q 2 (nI (z + 1)) else up2 I1 q 1 (nI ((o + 1) % 4))) := by
  refine PR.of oP_X2_add (catOK rfl) (Nat.le_of_ble_eq_true rfl) ?_
  show PW _ _ _ 0 [.ref q, .ref s] [] _ _ _ _
  refine pw_aload_n dX2_add_0 rfl rfl ?_
  refine pw_getR (x := (q + 1)) dX2_add_1 fd_RX2_11 (by decide) (hi_k h) rfl (hi_rs h) ?_
  refine pw_aload_n dX2_add_4 rfl rfl ?_
  refine pw_getI dX2_add_5 fd_RX2_17 (by decide) (hi_k h) rfl ?_
  rw [ho]
  refine pw_aload_n dX2_add_8 rfl rfl ?_
  refine pw_getI dX2_add_9 fd_RX2_21 (by decide) (hi_k h) rfl ?_
  rw [hz]
  refine pw_iadd dX2_add_12 ?_
  rw [nI_add]
  refine pw_iconst (v := 4) dX2_add_13 (by decide) ?_
  refine pw_irem dX2_add_14 (by decide) ?_
  rw [rem4 _ (by omega)]
  refine pw_aaldN (j := ((o + z) % 4)) (x := (q + 2 + 42 * ((o + z) % 4))) dX2_add_15 (hi_ks h) (by omega) (by decide) (by decide) (hi_ep h (by omega)) ?_
  refine pw_aload_n dX2_add_16 rfl rfl ?_
  refine pr_callV dX2_add_17 oX_X5_copyFrom lk_RX2_25 (sp_copyFrom (hi_op h (by omega)) hs (by omega) hb) (pl_k (hi_op h (by omega))) rfl rfl (Nat.le_of_ble_eq_true rfl) (by decide) (fun v I1 F1 hq => ?_)
  obtain ⟨rfl, hc⟩ := hq
  refine pw_aload_n dX2_add_20 rfl rfl ?_
  refine pw_getI dX2_add_21 fd_RX2_21 (by decide) (hi_k h) rfl ?_
  rw [(congrFun (Cpy_fr hc (i := q) (by omega)).1 2).trans hz]
  refine pw_iconst (v := 4) dX2_add_24 (by decide) ?_
  refine pw_icmp_ge (tgt := 41) dX2_add_25 (by decide) (fun c_25 => ?_) (fun c_25 => ?_)
  · have hzz : ¬ z < 4 := fun w => nI_ge (b := 4) w (by decide) c_25
    refine pw_aload_n dX2_add_41 rfl rfl ?_
    refine pw_aload_n dX2_add_42 rfl rfl ?_
    refine pw_getI dX2_add_43 fd_RX2_17 (by decide) (hi_k h) rfl ?_
    rw [(congrFun (Cpy_fr hc (i := q) (by omega)).1 1).trans ho]
    refine pw_iconst (v := 1) dX2_add_46 (by decide) ?_
    refine pw_iadd dX2_add_47 ?_
    rw [nI_1]
    refine pw_iconst (v := 4) dX2_add_48 (by decide) ?_
    refine pw_irem dX2_add_49 (by decide) ?_
    rw [rem4 _ (by omega)]
    refine pw_putI dX2_add_50 fd_RX2_17 (by decide) rfl ⟨rfl, rfl, rfl⟩ (hi_k h) ?_
    exact pw_vret dX2_add_53 rfl ⟨rfl, rfl, _, hc, by rw [if_neg hzz]⟩
  · have hzz : z < 4 := Nat.not_le.mp fun w => c_25 (nI_le (a := 4) w (by omega))
    refine pw_aload_n dX2_add_28 rfl rfl ?_
    refine pw_dup dX2_add_29 rfl ?_
    refine pw_getI dX2_add_30 fd_RX2_21 (by decide) (hi_k h) rfl ?_
    rw [(congrFun (Cpy_fr hc (i := q) (by omega)).1 2).trans hz]
    refine pw_iconst (v := 1) dX2_add_33 (by decide) ?_
    refine pw_iadd dX2_add_34 ?_
    rw [nI_1]
    refine pw_putI dX2_add_35 fd_RX2_21 (by decide) rfl ⟨rfl, rfl, rfl⟩ (hi_k h) ?_
    refine pw_goto (tgt := 53) dX2_add_38 (by decide) ?_
    exact pw_vret dX2_add_53 rfl ⟨rfl, rfl, _, hc, by rw [if_pos hzz]⟩

theorem pk_m1s {z : Nat} (h : 0 < z) : nI z - 1 = nI (z - 1) := by
  obtain ⟨k, rfl⟩ : ∃ k, z = k + 1 := ⟨z - 1, by omega⟩
  exact nI_pred k
set_option maxRecDepth 4000 in
theorem sp_takeBack {σ : pT} {I : pI} {F : pF} {q s o z : Nat} (h : isHi σ q) (hs : isPl σ s) (hd : s + 42 ≤ q) (ho : I q 1 = nI o) (ho4 : o < 4) (hz : I q 2 = nI z) (hz4 : z ≤ 4) (hb : ∀ i, i < 4 → ∀ a, a < 8 → I (q + 2 + 42 * i + 5 + a) 4 = 0 ∨ I (q + 2 + 42 * i + 5 + a) 4 = 1) : PR yX2_takeBack cX2_takeBack mX2_takeBack [.ref q, .ref s] σ I F fun v I' F' => (z = 0 ∧ v = some (.int (-5)) ∧ I' = I ∧ F' = F) ∨ (0 < z ∧ v = some (.int (nI (z - 1))) ∧ Cpy s (q + 2 + 42 * ((o + (z - 1)) % 4)) (up2 I q 2 (nI (z - 1))) F I' F') := by
  refine PR.of oP_X2_takeBack (catOK rfl) (Nat.le_of_ble_eq_true rfl) ?_
  show PW _ _ _ 0 [.ref q, .ref s] [] _ _ _ _
  refine pw_aload_n dX2_takeBack_0 rfl rfl ?_
  refine pw_getI dX2_takeBack_1 fd_RX2_21 (by decide) (hi_k h) rfl ?_
  rw [hz]
  refine pw_if_gt (tgt := 10) dX2_takeBack_4 (by decide) (fun c_4 => ?_) (fun c_4 => ?_)
  · have hz0 : 0 < z := Nat.pos_of_ne_zero (fun w => by subst w; exact absurd c_4 (by decide))
    refine pw_aload_n dX2_takeBack_10 rfl rfl ?_
    refine pw_dup dX2_takeBack_11 rfl ?_
    refine pw_getI dX2_takeBack_12 fd_RX2_21 (by decide) (hi_k h) rfl ?_
    rw [hz]
    refine pw_iconst (v := 1) dX2_takeBack_15 (by decide) ?_
    refine pw_isub dX2_takeBack_16 ?_
    rw [pk_m1s hz0]
    refine pw_putI dX2_takeBack_17 fd_RX2_21 (by decide) rfl ⟨rfl, rfl, rfl⟩ (hi_k h) ?_
    refine pw_aload_n dX2_takeBack_20 rfl rfl ?_
    refine pw_aload_n dX2_takeBack_21 rfl rfl ?_
    refine pw_getR (x := (q + 1)) dX2_takeBack_22 fd_RX2_11 (by decide) (hi_k h) rfl (hi_rs h) ?_
    refine pw_aload_n dX2_takeBack_25 rfl rfl ?_
    refine pw_getI dX2_takeBack_26 fd_RX2_17 (by decide) (hi_k h) rfl ?_
    rw [up2_nj (by decide), ho]
    refine pw_aload_n dX2_takeBack_29 rfl rfl ?_
    refine pw_getI dX2_takeBack_30 fd_RX2_21 (by decide) (hi_k h) rfl ?_
    rw [up2_s]
    refine pw_iadd dX2_takeBack_33 ?_
    rw [nI_add]
    refine pw_iconst (v := 4) dX2_takeBack_34 (by decide) ?_
    refine pw_irem dX2_takeBack_35 (by decide) ?_
    rw [rem4 _ (by omega)]
    refine pw_aaldN (j := ((o + (z - 1)) % 4)) (x := (q + 2 + 42 * ((o + (z - 1)) % 4))) dX2_takeBack_36 (hi_ks h) (by omega) (by decide) (by decide) (hi_ep h (by omega)) ?_
    refine pr_callV dX2_takeBack_37 oX_X5_copyFrom lk_RX2_25 (sp_copyFrom hs (hi_op h (by omega)) (by omega) (fun a ha => by rw [up2_ni (by omega)]; exact hb _ (by omega) a ha)) (pl_k hs) rfl rfl (Nat.le_of_ble_eq_true rfl) (by decide) (fun v I1 F1 hq => ?_)
    obtain ⟨rfl, hc⟩ := hq
    refine pw_aload_n dX2_takeBack_40 rfl rfl ?_
    refine pw_getI dX2_takeBack_41 fd_RX2_21 (by decide) (hi_k h) rfl ?_
    rw [(congrFun (Cpy_fr hc (i := q) (by omega)).1 2).trans up2_s]
    exact pw_iret dX2_takeBack_44 rfl ⟨rfl, Or.inr ⟨hz0, rfl, hc⟩⟩
  · have hz0 : z = 0 := Nat.eq_zero_of_not_pos (fun w => c_4 (nI_lt (a := 0) w (by omega)))
    refine pw_bipush (v := (-5)) dX2_takeBack_7 (by decide) ?_
    exact pw_iret dX2_takeBack_9 rfl ⟨rfl, Or.inl ⟨hz0, rfl, rfl, rfl⟩⟩

/-! the text -/
def appR (I : pI) (F : pF) (q l : Nat) (c : Int32) : Int32 × pI × pF := if l < 60 then (nI (l + 1), up2 (up2 I (q + 1) l (vp_nar .char c)) q 1 (nI (l + 1)), F) else (-3, I, F)
/-- a digit at place a -/
def digB (x : Nat → Int32) (l a : Nat) : Bool := decide (a < l) && (decide (48 ≤ x a) && decide (x a ≤ 57))
def sgnB (x : Nat → Int32) (l a : Nat) (g : Int32) : Bool := decide (a < l) && decide (x a = g)

