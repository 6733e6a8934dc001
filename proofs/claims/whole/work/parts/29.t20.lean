/-! where the text cannot go on -/
def fltV : Option Nat → Int32
  | some z => nI z
  | none => -5
def aft (x : Nat → Int32) (l n a : Nat) : Option Nat := if l ≤ a then none else if sgnB x l a 59 = true then (rdV x l n (a + 1)).2 else some a
theorem rd_aft {x : Nat → Int32} {l n a : Nat} (h : (ordV x l a).1 = true) : (rdV x l (n + 1) a).2 = aft x l n (ordV x l a).2.1 := by
  unfold aft
  by_cases h1 : l ≤ (ordV x l a).2.1
  · rw [rd_2 h h1, if_pos h1]
  · rw [if_neg h1]
    by_cases h2 : sgnB x l (ordV x l a).2.1 59 = true
    · rw [rd_3 h h1 h2, if_pos h2]
    · rw [rd_4 h h1 (by simpa using h2), if_neg h2]
theorem ord_ge {x : Nat → Int32} {l a : Nat} (h : ¬ a < l) : ordV x l a = (false, a, 0, 0, 0) := by rw [ordV, if_neg h]
theorem ord_two {x : Nat → Int32} {l a : Nat} (h : (ordV x l a).1 = true) : a + 2 ≤ (ordV x l a).2.1 := by
  unfold ordV at h ⊢
  split at h
  · rename_i h0
    rw [if_pos h0]
    split at h
    · rename_i h1
      rw [if_pos h1]
      split at h
      · rename_i h2
        rw [if_pos h2]
        have h9 := (numV_le h2).2
        split at h
        · rename_i h3
          rw [if_pos h3]
          split at h
          · rename_i h4
            rw [if_pos h4]
            show a + 2 ≤ (numV x l (a + 1)).2 + 2
            omega
          · cases h
        · cases h
      · cases h
    · rename_i h1
      rw [if_neg h1]
      split at h
      · rename_i h2
        rw [if_pos h2]
        split at h
        · rename_i h3
          rw [if_pos h3]
          have h9 := (numV_le h3).2
          show a + 2 ≤ (numV x l (a + 1)).2
          omega
        · cases h
      · rename_i h2
        rw [if_neg h2]
        split at h
        · rename_i h3
          rw [if_pos h3]
          split at h
          · rename_i h4
            rw [if_pos h4]
            exact Nat.le_refl _
          · cases h
        · cases h
  · cases h
theorem ord_lt {x : Nat → Int32} {l a : Nat} (h : (ordV x l a).1 = true) : a < l := by
  by_cases h1 : a < l
  · exact h1
  · rw [ord_ge h1] at h
    cases h
def fltQ (m l : Nat) (I : pI) (F : pF) (v : Option Value) (I' : pI) (F' : pF) : Prop := v = some (.int (fltV (rdV (I (m + 7)) l 20 0).2)) ∧ F' = F ∧ mEq m I I'
theorem flt_ret {m l : Nat} {I I' : pI} {F : pF} {σ : pT} {e : Int32} {z : Option Nat} (h1 : (rdV (I (m + 7)) l 20 0).2 = z) (h2 : mEq m I I') (h3 : e = fltV z) : σ = σ ∧ fltQ m l I F (some (.int e)) I' F := by
  unfold fltQ
  rw [h1, h3]
  exact ⟨rfl, rfl, rfl, h2⟩

theorem rd_some {x : Nat → Int32} {l n a : Nat} (h : (ordV x l a).1 = false) : (rdV x l (n + 1) a).2 = some (ordV x l a).2.1 := by rw [rd_1 h]
theorem rd_some2 {x : Nat → Int32} {l k a : Nat} (h : (ordV x l (a + 1)).1 = false) (hk : k ≤ 20) (h3 : k < 20 ∨ l ≤ a + 1) : (rdV x l (20 - k) (a + 1)).2 = some (ordV x l (a + 1)).2.1 := by
  rcases Nat.lt_or_ge k 20 with h4 | h4
  · rw [show 20 - k = (20 - (k + 1)) + 1 by omega]
    exact rd_some h
  · rw [show 20 - k = 0 by omega, ord_ge (by omega)]
    rfl
set_option maxRecDepth 4000 in
theorem sp_faultOf {σ : pT} {I : pI} {F : pF} {m l : Nat} (h : isMo σ m) (hl : I m 9 = nI l) (hl6 : l ≤ 60)  : PR yX8_faultOf cX8_faultOf mX8_faultOf [.ref m] σ I F (fltQ m l I F) := by
  refine PR.of oP_X8_faultOf (catOK rfl) (Nat.le_of_ble_eq_true rfl) ?_
  show PW _ _ _ 0 [.ref m] [] _ _ _ _
  have L17 : ∀ k, k ≤ 20 → ∀ (I' : pI) (a : Nat), mEq m I I' → I' m 10 = nI a → a ≤ 60 → 3 * k ≤ a + 1 → aft (I (m + 7)) l (20 - k) a = (rdV (I (m + 7)) l 20 0).2 → PW cX8_faultOf mX8_faultOf (fM (qR σ ((fltQ m l I F)))) 17 [.ref m] [] σ I' F (0, 0) := by
    refine dn (fun k => ∀ (I' : pI) (a : Nat), mEq m I I' → I' m 10 = nI a → a ≤ 60 → 3 * k ≤ a + 1 → aft (I (m + 7)) l (20 - k) a = (rdV (I (m + 7)) l 20 0).2 → PW cX8_faultOf mX8_faultOf (fM (qR σ ((fltQ m l I F)))) 17 [.ref m] [] σ I' F (0, 0)) 20 ?_ ?_
    · intro I' a hm ha ha6 hk3 hx
      have hX : I' (m + 7) = I (m + 7) := mEq_r hm (by omega)
      have hX2 : up2 I' m 10 (nI (a + 1)) (m + 7) = I (m + 7) := (up2_row (by omega)).trans hX
      refine pw_aload_n dX8_faultOf_17 rfl rfl ?_
      refine pw_getI dX8_faultOf_18 fd_RX8_177 (by decide) (mo_k h) rfl ?_
      rw [ha]
      refine pw_aload_n dX8_faultOf_21 rfl rfl ?_
      refine pw_getI dX8_faultOf_22 fd_RX8_174 (by decide) (mo_k h) rfl ?_
      rw [(hm m 9 (by omega)).trans hl]
      refine pw_icmp_ge (tgt := 49) dX8_faultOf_25 (by decide) (fun c_25 => ?_) (fun c_25 => ?_)
      · have h25 : ¬ a < l := fun z => nI_ge z (by omega) c_25
        refine pw_bipush (v := (-5)) dX8_faultOf_49 (by decide) ?_
        exact pw_iret dX8_faultOf_51 rfl (flt_ret (z := none) (by rw [← hx, aft, if_pos (by omega)]) hm rfl)
      · have h25 : a < l := Nat.not_le.mp fun z => c_25 (nI_le z (by omega))
        refine pw_aload_n dX8_faultOf_28 rfl rfl ?_
        refine pw_bipush (v := 59) dX8_faultOf_29 (by decide) ?_
        refine pe_callVi dX8_faultOf_31 oX_X8_passesSign lk_RX8_195 (sp_passesSign (a := a) h ((hm m 9 (by omega)).trans hl) hl6 ha (by omega)) (mo_k h) rfl rfl (Nat.le_of_ble_eq_true rfl) (by decide) ?_
        rw [hX]
        refine pw_ifB_eq (tgt := 44) dX8_faultOf_34 (by decide) (fun c_34 => ?_) (fun c_34 => ?_)
        · rw [if_neg (fun z => by rw [z] at c_34; cases c_34)]
          refine pw_aload_n dX8_faultOf_44 rfl rfl ?_
          refine pw_getI dX8_faultOf_45 fd_RX8_177 (by decide) (mo_k h) rfl ?_
          exact pw_iret dX8_faultOf_48 rfl (flt_ret (z := some a) (by rw [← hx, aft, if_neg (by omega), if_neg (fun z => by rw [z] at c_34; cases c_34)]) hm ha)
        · rw [if_pos c_34]
          refine pw_aload_n dX8_faultOf_37 rfl rfl ?_
          refine pr_callV dX8_faultOf_38 oX_X8_passesOrder lk_RX8_201 (sp_passesOrder (a := a + 1) h (by rw [up2_nj (by decide)]; exact (hm m 9 (by omega)).trans hl) hl6 up2_s (by omega)) (mo_k h) rfl rfl (Nat.le_of_ble_eq_true rfl) (by decide) (fun v I1 F1 hq => ?_)
          unfold poQ at hq
          rw [hX2] at hq
          obtain ⟨rfl, rfl, hm2, ha2, -⟩ := hq
          refine pw_ifB_ne (tgt := 17) dX8_faultOf_41 (by decide) (fun c_41 => absurd (ord_lt c_41) (by omega)) (fun c_41 => ?_)
          refine pw_aload_n dX8_faultOf_44 rfl rfl ?_
          refine pw_getI dX8_faultOf_45 fd_RX8_177 (by decide) (mo_k h) rfl ?_
          exact pw_iret dX8_faultOf_48 rfl (flt_ret (z := some (ordV (I (m + 7)) l (a + 1)).2.1) (by rw [← hx, aft, if_neg (by omega), if_pos c_34, rd_some2 c_41 (by omega) (by omega)]) (mEq_t (mEq_u hm (by decide)) hm2) ha2)
    · intro k hk ih
      intro I' a hm ha ha6 hk3 hx
      have hX : I' (m + 7) = I (m + 7) := mEq_r hm (by omega)
      have hX2 : up2 I' m 10 (nI (a + 1)) (m + 7) = I (m + 7) := (up2_row (by omega)).trans hX
      refine pw_aload_n dX8_faultOf_17 rfl rfl ?_
      refine pw_getI dX8_faultOf_18 fd_RX8_177 (by decide) (mo_k h) rfl ?_
      rw [ha]
      refine pw_aload_n dX8_faultOf_21 rfl rfl ?_
      refine pw_getI dX8_faultOf_22 fd_RX8_174 (by decide) (mo_k h) rfl ?_
      rw [(hm m 9 (by omega)).trans hl]
      refine pw_icmp_ge (tgt := 49) dX8_faultOf_25 (by decide) (fun c_25 => ?_) (fun c_25 => ?_)
      · have h25 : ¬ a < l := fun z => nI_ge z (by omega) c_25
        refine pw_bipush (v := (-5)) dX8_faultOf_49 (by decide) ?_
        exact pw_iret dX8_faultOf_51 rfl (flt_ret (z := none) (by rw [← hx, aft, if_pos (by omega)]) hm rfl)
      · have h25 : a < l := Nat.not_le.mp fun z => c_25 (nI_le z (by omega))
        refine pw_aload_n dX8_faultOf_28 rfl rfl ?_
        refine pw_bipush (v := 59) dX8_faultOf_29 (by decide) ?_
        refine pe_callVi dX8_faultOf_31 oX_X8_passesSign lk_RX8_195 (sp_passesSign (a := a) h ((hm m 9 (by omega)).trans hl) hl6 ha (by omega)) (mo_k h) rfl rfl (Nat.le_of_ble_eq_true rfl) (by decide) ?_
        rw [hX]
        refine pw_ifB_eq (tgt := 44) dX8_faultOf_34 (by decide) (fun c_34 => ?_) (fun c_34 => ?_)
        · rw [if_neg (fun z => by rw [z] at c_34; cases c_34)]
          refine pw_aload_n dX8_faultOf_44 rfl rfl ?_
          refine pw_getI dX8_faultOf_45 fd_RX8_177 (by decide) (mo_k h) rfl ?_
          exact pw_iret dX8_faultOf_48 rfl (flt_ret (z := some a) (by rw [← hx, aft, if_neg (by omega), if_neg (fun z => by rw [z] at c_34; cases c_34)]) hm ha)
        · rw [if_pos c_34]
          refine pw_aload_n dX8_faultOf_37 rfl rfl ?_
          refine pr_callV dX8_faultOf_38 oX_X8_passesOrder lk_RX8_201 (sp_passesOrder (a := a + 1) h (by rw [up2_nj (by decide)]; exact (hm m 9 (by omega)).trans hl) hl6 up2_s (by omega)) (mo_k h) rfl rfl (Nat.le_of_ble_eq_true rfl) (by decide) (fun v I1 F1 hq => ?_)
          unfold poQ at hq
          rw [hX2] at hq
          obtain ⟨rfl, rfl, hm2, ha2, -⟩ := hq
          refine pw_ifB_ne (tgt := 17) dX8_faultOf_41 (by decide) (fun c_41 => ?_) (fun c_41 => ?_)
          · exact ih _ _ (mEq_t (mEq_u hm (by decide)) hm2) ha2 (ord_le hl6 (by have := sgn_lt c_34; omega)) (by have := ord_two c_41; omega) (by rw [aft, if_neg (by omega), if_pos c_34, show 20 - k = (20 - (k + 1)) + 1 by omega, rd_aft c_41] at hx; exact hx)
          · refine pw_aload_n dX8_faultOf_44 rfl rfl ?_
            refine pw_getI dX8_faultOf_45 fd_RX8_177 (by decide) (mo_k h) rfl ?_
            exact pw_iret dX8_faultOf_48 rfl (flt_ret (z := some (ordV (I (m + 7)) l (a + 1)).2.1) (by rw [← hx, aft, if_neg (by omega), if_pos c_34, rd_some2 c_41 (by omega) (by omega)]) (mEq_t (mEq_u hm (by decide)) hm2) ha2)
  refine pw_aload_n dX8_faultOf_0 rfl rfl ?_
  refine pw_iconst (v := 0) dX8_faultOf_1 (by decide) ?_
  refine pw_putI dX8_faultOf_2 fd_RX8_177 (by decide) rfl ⟨rfl, rfl, rfl⟩ (mo_k h) ?_
  refine pw_aload_n dX8_faultOf_5 rfl rfl ?_
  refine pr_callV dX8_faultOf_6 oX_X8_passesOrder lk_RX8_201 (sp_passesOrder (a := 0) h ((up2_nj (by decide)).trans hl) hl6 up2_s (by decide)) (mo_k h) rfl rfl (Nat.le_of_ble_eq_true rfl) (by decide) (fun v I1 F1 hq => ?_)
  have hX2 : up2 I m 10 0 (m + 7) = I (m + 7) := up2_row (by omega)
  unfold poQ at hq
  rw [hX2] at hq
  obtain ⟨rfl, rfl, hm2, ha2, -⟩ := hq
  refine pw_ifB_ne (tgt := 17) dX8_faultOf_9 (by decide) (fun c_9 => ?_) (fun c_9 => ?_)
  · exact L17 1 (by decide) _ _ (mEq_t (mEq_u mEq_0 (by decide)) hm2) ha2 (ord_le hl6 (by decide)) (by have := ord_two c_9; omega) (rd_aft c_9).symm
  · refine pw_aload_n dX8_faultOf_12 rfl rfl ?_
    refine pw_getI dX8_faultOf_13 fd_RX8_177 (by decide) (mo_k h) rfl ?_
    rw [ha2]
    exact pw_iret dX8_faultOf_16 rfl (flt_ret (rd_some c_9) (mEq_t (mEq_u mEq_0 (by decide)) hm2) rfl)
