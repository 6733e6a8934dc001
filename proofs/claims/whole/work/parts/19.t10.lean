/-! the whole text read -/
def rdV (x : Nat → Int32) (l : Nat) : Nat → Nat → List (Int32 × Int32 × Int32) × Option Nat
  | 0, a => ([], some a)
  | n + 1, a => if (ordV x l a).1 = true then
      (if l ≤ (ordV x l a).2.1 then ([(ordV x l a).2.2], none)
       else if sgnB x l (ordV x l a).2.1 59 = true then ((ordV x l a).2.2 :: (rdV x l n ((ordV x l a).2.1 + 1)).1, (rdV x l n ((ordV x l a).2.1 + 1)).2)
       else ([(ordV x l a).2.2], some (ordV x l a).2.1))
    else ([], some (ordV x l a).2.1)
theorem rd_1 {x : Nat → Int32} {l n a : Nat} (h : (ordV x l a).1 = false) : rdV x l (n + 1) a = ([], some (ordV x l a).2.1) := by rw [rdV, if_neg (by rw [h]; decide)]
theorem rd_2 {x : Nat → Int32} {l n a : Nat} (h : (ordV x l a).1 = true) (h2 : l ≤ (ordV x l a).2.1) : rdV x l (n + 1) a = ([(ordV x l a).2.2], none) := by rw [rdV, if_pos h, if_pos h2]
theorem rd_3 {x : Nat → Int32} {l n a : Nat} (h : (ordV x l a).1 = true) (h2 : ¬ l ≤ (ordV x l a).2.1) (h3 : sgnB x l (ordV x l a).2.1 59 = true) : rdV x l (n + 1) a = ((ordV x l a).2.2 :: (rdV x l n ((ordV x l a).2.1 + 1)).1, (rdV x l n ((ordV x l a).2.1 + 1)).2) := by rw [rdV, if_pos h, if_neg h2, if_pos h3]
theorem rd_4 {x : Nat → Int32} {l n a : Nat} (h : (ordV x l a).1 = true) (h2 : ¬ l ≤ (ordV x l a).2.1) (h3 : sgnB x l (ordV x l a).2.1 59 = false) : rdV x l (n + 1) a = ([(ordV x l a).2.2], some (ordV x l a).2.1) := by rw [rdV, if_pos h, if_neg h2, if_neg (by rw [h3]; decide)]
theorem rd_len {x : Nat → Int32} {l : Nat} : ∀ (n a : Nat), (rdV x l n a).1.length ≤ n
  | 0, _ => Nat.le_refl _
  | n + 1, a => by
    unfold rdV
    split
    · split
      · simp
      · split
        · simpa using rd_len n _
        · simp
    · simp
theorem ord_le {x : Nat → Int32} {l a : Nat} (hl : l ≤ 60) (ha : a ≤ 60) : (ordV x l a).2.1 ≤ 60 := by
  unfold ordV
  split
  · split
    · split
      · rename_i h1
        have h2 := (numV_le h1).1
        split
        · rename_i h3
          have h4 := sgn_lt h3
          split
          · rename_i h5
            have h6 := dig_lt h5
            show _ + 2 ≤ 60
            omega
          · show _ + 1 ≤ 60
            omega
        · show (numV x l (a + 1)).2 ≤ 60
          omega
      · show a + 1 ≤ 60
        omega
    · split
      · split
        · rename_i h1
          have h2 := (numV_le h1).1
          show (numV x l (a + 1)).2 ≤ 60
          omega
        · show a + 1 ≤ 60
          omega
      · split
        · split
          · rename_i h1
            have h2 := dig_lt h1
            show a + 2 ≤ 60
            omega
          · show a + 1 ≤ 60
            omega
        · exact ha
  · exact ha
def rowM (I : pI) (r : Nat) (o : Int32 × Int32 × Int32) : Prop := I r 0 = o.1 ∧ I r 1 = o.2.1 ∧ (I r 0 = 104 ∨ I r 0 = 108 → I r 2 = o.2.2)
theorem rowM_eq {I I' : pI} {r : Nat} {o : Int32 × Int32 × Int32} (h : I' r = I r) (hm : rowM I r o) : rowM I' r o := by
  unfold rowM
  rw [h]
  exact hm
def frR (q : Nat) (I I' : pI) : Prop := ∀ i j, ¬ (q + 3 ≤ i ∧ i < q + 23) → ¬ (i = q ∧ (j = 3 ∨ j = 4)) → I' i j = I i j
theorem frR_o {q k : Nat} {I I' I1 : pI} (h : frR q I I') (h2 : oFr q (q + 3 + k) I' I1) (hk : k < 20) : frR q I I1 := fun i j h3 h4 => (h2 i j (by omega) (by omega)).trans (h i j h3 h4)
theorem frR_3 {q : Nat} {I I' : pI} {x : Int32} (h : frR q I I') : frR q I (up2 I' q 3 x) := fun i j h3 h4 => (up2_n (by omega)).trans (h i j h3 h4)
theorem frR_4 {q : Nat} {I I' : pI} {x : Int32} (h : frR q I I') : frR q I (up2 I' q 4 x) := fun i j h3 h4 => (up2_n (by omega)).trans (h i j h3 h4)
theorem frR_0 {q : Nat} {I : pI} : frR q I I := fun _ _ _ _ => rfl
/-- the rows hold the orders that were read -/
def rowsM (I : pI) (q : Nat) (L : List (Int32 × Int32 × Int32)) : Prop := ∀ (i : Nat) (o : Int32 × Int32 × Int32), L[i]? = some o → rowM I (q + 3 + i) o
theorem rowsM_up {I : pI} {q k : Nat} {x : Int32} {L : List (Int32 × Int32 × Int32)} (h : rowsM I q L) : rowsM (up2 I q k x) q L := fun i o hi => rowM_eq (up2_row (by omega)) (h i o hi)
theorem rowsM_app {I I1 : pI} {q k : Nat} {L : List (Int32 × Int32 × Int32)} {o : Int32 × Int32 × Int32} (h : rowsM I q L) (hL : L.length = k) (h2 : oFr q (q + 3 + k) I I1) (hr : rowM I1 (q + 3 + k) o) : rowsM I1 q (L ++ [o]) := by
  intro i w hi
  by_cases hik : i < L.length
  · rw [List.getElem?_append_left hik] at hi
    exact rowM_eq (funext fun j => h2 _ _ (by omega) (by omega)) (h i w hi)
  · rw [List.getElem?_append_right (by omega)] at hi
    have hz : i - L.length < 1 := (List.getElem?_eq_some_iff.mp hi).1
    have he : i = k := by omega
    subst he
    rw [hL, Nat.sub_self] at hi
    cases hi
    exact hr
def rdQ (q l : Nat) (I : pI) (F : pF) (v : Option Value) (I' : pI) (F' : pF) : Prop :=
  F' = F ∧ frR q I I' ∧ (∀ z, (rdV (I (q + 1)) l 20 0).2 = some z → v = some (.int (nI z))) ∧ ((rdV (I (q + 1)) l 20 0).2 = none → v = some (.int (-1)) ∧ I' q 3 = nI (rdV (I (q + 1)) l 20 0).1.length ∧ rowsM I' q (rdV (I (q + 1)) l 20 0).1)
theorem rd_fault {q l : Nat} {I I' : pI} {F : pF} {L : List (Int32 × Int32 × Int32)} {z : Nat} (h : rdV (I (q + 1)) l 20 0 = (L, some z)) (hf : frR q I I') : rdQ q l I F (some (.int (nI z))) I' F := by
  refine ⟨rfl, hf, fun y hy => ?_, fun hy => ?_⟩
  · rw [h] at hy
    cases hy
    rfl
  · rw [h] at hy
    cases hy
theorem rd_well {q l : Nat} {I I' : pI} {F : pF} {L : List (Int32 × Int32 × Int32)} (h : rdV (I (q + 1)) l 20 0 = (L, none)) (hf : frR q I I') (h3 : I' q 3 = nI L.length) (hm : rowsM I' q L) : rdQ q l I F (some (.int (-1))) I' F := by
  refine ⟨rfl, hf, fun y hy => ?_, fun hy => ?_⟩
  · rw [h] at hy
    cases hy
  · rw [h]
    exact ⟨rfl, h3, hm⟩

set_option maxRecDepth 4000 in
theorem sp_read {σ : pT} {I : pI} {F : pF} {q l : Nat} (h : isOr σ q) (hl : I q 1 = nI l) (hl6 : l ≤ 60) (hch : ∀ k, k < l → narrow .char (.int (I (q + 1) k)) = .int (I (q + 1) k) ∧ fits .char (.int (I (q + 1) k)) = true)  : PR yX4_read cX4_read mX4_read [.ref q] σ I F (rdQ q l I F) := by
  refine PR.of oP_X4_read (catOK rfl) (Nat.le_of_ble_eq_true rfl) ?_
  show PW _ _ _ 0 [.ref q, pJ] [] _ _ _ _
  have L12 : ∀ k, k ≤ 20 → ∀ (I' : pI) (a : Nat) (D : List (Int32 × Int32 × Int32)), D.length = k → a ≤ 60 → I' q 4 = nI a → frR q I I' → rowsM I' q D → rdV (I (q + 1)) l 20 0 = (D ++ (rdV (I (q + 1)) l (20 - k) a).1, (rdV (I (q + 1)) l (20 - k) a).2) → PW cX4_read mX4_read (fM (qR σ ((rdQ q l I F)))) 12 [.ref q, .int (nI k)] [] σ I' F (0, 0) := by
    refine dn (fun k => ∀ (I' : pI) (a : Nat) (D : List (Int32 × Int32 × Int32)), D.length = k → a ≤ 60 → I' q 4 = nI a → frR q I I' → rowsM I' q D → rdV (I (q + 1)) l 20 0 = (D ++ (rdV (I (q + 1)) l (20 - k) a).1, (rdV (I (q + 1)) l (20 - k) a).2) → PW cX4_read mX4_read (fM (qR σ ((rdQ q l I F)))) 12 [.ref q, .int (nI k)] [] σ I' F (0, 0)) 20 ?_ ?_
    · intro I' a D hD ha6 ha hf hm hx
      refine pw_iload_n dX4_read_12 rfl rfl ?_
      refine pw_aload_n dX4_read_13 rfl rfl ?_
      refine pw_getR (x := (q + 2)) dX4_read_14 fd_RX4_21 (by decide) (or_k h) rfl (or_rr h) ?_
      refine pw_alenR dX4_read_17 (or_kr h) (by decide) ?_
      refine pw_icmp_ge (tgt := 79) dX4_read_18 (by decide) (fun c_18 => ?_) (fun c_18 => absurd (Int32.le_refl _) c_18)
      refine pw_aload_n dX4_read_79 rfl rfl ?_
      refine pw_getI dX4_read_80 fd_RX4_28 (by decide) (or_k h) rfl ?_
      rw [ha]
      exact pw_iret dX4_read_83 rfl ⟨rfl, rd_fault (by rw [hx]; rfl) hf⟩
    · intro k hk ih
      intro I' a D hD ha6 ha hf hm hx
      rw [show 20 - k = (20 - (k + 1)) + 1 by omega] at hx
      have hl' : I' q 1 = nI l := (hf q 1 (by omega) (by omega)).trans hl
      have hx' : I' (q + 1) = I (q + 1) := funext fun j => hf (q + 1) j (by omega) (by omega)
      have hch' : ∀ k, k < l → narrow .char (.int (I' (q + 1) k)) = .int (I' (q + 1) k) ∧ fits .char (.int (I' (q + 1) k)) = true := by rw [hx']; exact hch
      refine pw_iload_n dX4_read_12 rfl rfl ?_
      refine pw_aload_n dX4_read_13 rfl rfl ?_
      refine pw_getR (x := (q + 2)) dX4_read_14 fd_RX4_21 (by decide) (or_k h) rfl (or_rr h) ?_
      refine pw_alenR dX4_read_17 (or_kr h) (by decide) ?_
      refine pw_icmp_ge (tgt := 79) dX4_read_18 (by decide) (fun c_18 => absurd c_18 (nI_ge (b := 20) (by omega) (by decide))) (fun c_18 => ?_)
      refine pw_aload_n dX4_read_21 rfl rfl ?_
      refine pw_aload_n dX4_read_22 rfl rfl ?_
      refine pw_getR (x := (q + 2)) dX4_read_23 fd_RX4_21 (by decide) (or_k h) rfl (or_rr h) ?_
      refine pw_iload_n dX4_read_26 rfl rfl ?_
      refine pw_aaldN (j := k) (x := (q + 3 + k)) dX4_read_27 (or_kr h) (by omega) (by decide) (by decide) (or_eo h (by omega)) ?_
      refine pr_callV dX4_read_28 oX_X4_readOrder lk_RX4_32 (sp_readOrder (a := a) h (or_oo h (by omega)) (by omega) hl' hl6 ha ha6 hch') (or_k h) rfl rfl (Nat.le_of_ble_eq_true rfl) (by decide) (fun v I1 F1 hq => ?_)
      obtain ⟨rfl, rfl, hfo, ha1, hrow⟩ := hq
      simp only [hx'] at ha1 hrow ⊢
      have hf1 := frR_o hf hfo hk
      have hl1 : I1 q 1 = nI l := (hf1 q 1 (by omega) (by omega)).trans hl
      have hx1 : I1 (q + 1) = I (q + 1) := funext fun j => hf1 (q + 1) j (by omega) (by omega)
      show PW _ _ _ _ _ [.int (bI (ordV (I (q + 1)) l a).1)] _ _ _ _
      refine pw_ifB_ne (tgt := 39) dX4_read_31 (by decide) (fun c_31 => ?_) (fun c_31 => ?_)
      · refine pw_aload_n dX4_read_39 rfl rfl ?_
        refine pw_iload_n dX4_read_40 rfl rfl ?_
        refine pw_iconst (v := 1) dX4_read_41 (by decide) ?_
        refine pw_iadd dX4_read_42 ?_
        rw [nI_1]
        refine pw_putI dX4_read_43 fd_RX4_25 (by decide) rfl ⟨rfl, rfl, rfl⟩ (or_k h) ?_
        refine pw_aload_n dX4_read_46 rfl rfl ?_
        refine pw_getI dX4_read_47 fd_RX4_28 (by decide) (or_k h) rfl ?_
        rw [up2_nj (by decide), ha1]
        refine pw_aload_n dX4_read_50 rfl rfl ?_
        refine pw_getI dX4_read_51 fd_RX4_15 (by decide) (or_k h) rfl ?_
        rw [up2_nj (by decide), hl1]
        refine pw_icmp_lt (tgt := 59) dX4_read_54 (by decide) (fun c_54 => ?_) (fun c_54 => ?_)
        · have hlt : ¬ l ≤ (ordV (I (q + 1)) l a).2.1 := fun z => nI_nlt z (by have := ord_le (x := I (q + 1)) (a := a) hl6 ha6; omega) c_54
          refine pw_aload_n dX4_read_59 rfl rfl ?_
          refine pw_bipush (v := 59) dX4_read_60 (by decide) ?_
          refine pe_callVi dX4_read_62 oX_X4_readSign lk_RX4_36 (sp_readSign (a := (ordV (I (q + 1)) l a).2.1) h ((up2_nj (by decide)).trans hl1) hl6 ((up2_nj (by decide)).trans ha1) (ord_le hl6 ha6)) (or_k h) rfl rfl (Nat.le_of_ble_eq_true rfl) (by decide) ?_
          rw [show up2 I1 q 3 (nI (k + 1)) (q + 1) = I (q + 1) from (up2_row (by omega)).trans hx1]
          refine pw_ifB_ne (tgt := 73) dX4_read_65 (by decide) (fun c_65 => ?_) (fun c_65 => ?_)
          · rw [if_pos c_65]
            refine pw_iinc (v := nI (k + 1)) dX4_read_73 rfl (nI_add _ _) rfl ?_
            refine pw_goto (tgt := 12) dX4_read_76 (by decide) ?_
            exact ih _ _ (D ++ [(ordV (I (q + 1)) l a).2.2]) (by simp [hD]) (by have := sgn_lt c_65; omega) up2_s (frR_4 (frR_3 hf1)) (rowsM_up (rowsM_up (rowsM_app hm hD hfo (hrow c_31)))) (by rw [hx, rd_3 c_31 hlt c_65, List.append_assoc]; rfl)
          · refine pw_aload_n dX4_read_68 rfl rfl ?_
            refine pw_getI dX4_read_69 fd_RX4_28 (by decide) (or_k h) rfl ?_
            rw [if_neg (fun z => by rw [z] at c_65; cases c_65), up2_nj (by decide), ha1]
            exact pw_iret dX4_read_72 rfl ⟨rfl, rd_fault (by rw [hx, rd_4 c_31 hlt c_65]) (frR_3 hf1)⟩
        · have hge : l ≤ (ordV (I (q + 1)) l a).2.1 := Nat.not_lt.mp fun z => c_54 (nI_lt z (by omega))
          refine pw_iconst (v := (-1)) dX4_read_57 (by decide) ?_
          exact pw_iret dX4_read_58 rfl ⟨rfl, rd_well (L := D ++ [(ordV (I (q + 1)) l a).2.2]) (by rw [hx, rd_2 c_31 hge]) (frR_3 hf1) (by rw [up2_s]; simp [hD]) (rowsM_up (rowsM_app hm hD hfo (hrow c_31)))⟩
      · refine pw_aload_n dX4_read_34 rfl rfl ?_
        refine pw_getI dX4_read_35 fd_RX4_28 (by decide) (or_k h) rfl ?_
        rw [ha1]
        exact pw_iret dX4_read_38 rfl ⟨rfl, rd_fault (by rw [hx, rd_1 c_31]) hf1⟩
  refine pw_aload_n dX4_read_0 rfl rfl ?_
  refine pw_iconst (v := 0) dX4_read_1 (by decide) ?_
  refine pw_putI dX4_read_2 fd_RX4_28 (by decide) rfl ⟨rfl, rfl, rfl⟩ (or_k h) ?_
  refine pw_aload_n dX4_read_5 rfl rfl ?_
  refine pw_iconst (v := 0) dX4_read_6 (by decide) ?_
  refine pw_putI dX4_read_7 fd_RX4_25 (by decide) rfl ⟨rfl, rfl, rfl⟩ (or_k h) ?_
  refine pw_iconst (v := 0) dX4_read_10 (by decide) ?_
  refine pw_istore_n dX4_read_11 rfl (by decide) rfl ?_
  exact L12 0 (Nat.zero_le _) _ 0 [] rfl (by omega) ((up2_nj (by decide)).trans up2_s) (frR_3 (frR_4 frR_0)) (fun i o hi => by simp at hi) rfl
