/-! an order read -/
def numV (x : Nat → Int32) (l a : Nat) : Int32 × Nat := if ¬ x a - 48 = 0 ∧ digB x l (a + 1) = true then (10 * (x a - 48) + (x (a + 1) - 48), a + 2) else (x a - 48, a + 1)
def ordV (x : Nat → Int32) (l a : Nat) : Bool × Nat × Int32 × Int32 × Int32 :=
  if a < l then
    if x a = 104 ∨ x a = 108 then
      if digB x l (a + 1) = true then
        if sgnB x l (numV x l (a + 1)).2 99 = true then
          if digB x l ((numV x l (a + 1)).2 + 1) = true then (true, (numV x l (a + 1)).2 + 2, x a, (numV x l (a + 1)).1, x ((numV x l (a + 1)).2 + 1) - 48)
          else (false, (numV x l (a + 1)).2 + 1, 0, 0, 0)
        else (false, (numV x l (a + 1)).2, 0, 0, 0)
      else (false, a + 1, 0, 0, 0)
    else if x a = 98 ∨ x a = 112 then
      if digB x l (a + 1) = true then (true, (numV x l (a + 1)).2, x a, (numV x l (a + 1)).1, 0) else (false, a + 1, 0, 0, 0)
    else if x a = 114 ∨ x a = 115 then
      if digB x l (a + 1) = true then (true, a + 2, x a, x (a + 1) - 48, 0) else (false, a + 1, 0, 0, 0)
    else (false, a, 0, 0, 0)
  else (false, a, 0, 0, 0)
theorem dig_lt {x : Nat → Int32} {l a : Nat} (h : digB x l a = true) : a < l := by
  unfold digB at h
  simp only [Bool.and_eq_true, decide_eq_true_eq] at h
  exact h.1
theorem sgn_lt {x : Nat → Int32} {l a : Nat} {g : Int32} (h : sgnB x l a g = true) : a < l := by
  unfold sgnB at h
  simp only [Bool.and_eq_true, decide_eq_true_eq] at h
  exact h.1
theorem numV_le {x : Nat → Int32} {l a : Nat} (h : digB x l a = true) : (numV x l a).2 ≤ l ∧ a < (numV x l a).2 := by
  have h1 := dig_lt h
  unfold numV
  split
  · rename_i h2
    have := dig_lt h2.2
    exact ⟨by show a + 2 ≤ l; omega, by show a < a + 2; omega⟩
  · exact ⟨by show a + 1 ≤ l; omega, by show a < a + 1; omega⟩
theorem up2_col {I : pI} {q r b : Nat} {x x' y y' : Int32} (h : r ≠ q) : up2 (up2 (up2 (up2 I q 4 x) r b y) q 4 x') r b y' = up2 (up2 I q 4 x') r b y' := by
  funext i j
  by_cases h1 : i = r ∧ j = b
  · simp [up2, h1]
  · by_cases h2 : i = q ∧ j = 4
    · obtain ⟨rfl, rfl⟩ := h2
      simp [up2, Ne.symm h]
    · simp [up2, h1, h2]
/-- what an order that is being read leaves -/
def oFr (q r : Nat) (I I' : pI) : Prop := ∀ i j, i ≠ r → ¬ (i = q ∧ j = 4) → I' i j = I i j
theorem oFr_q {q r : Nat} {I I' : pI} {x : Int32} (h : oFr q r I I') : oFr q r I (up2 I' q 4 x) := fun i j h1 h2 => (up2_n h2).trans (h i j h1 h2)
theorem oFr_r {q r k : Nat} {I I' : pI} {x : Int32} (h : oFr q r I I') : oFr q r I (up2 I' r k x) := fun i j h1 h2 => (up2_ni h1).trans (h i j h1 h2)
theorem oFr_0 {q r : Nat} {I : pI} : oFr q r I I := fun _ _ _ _ => rfl

set_option maxRecDepth 4000 in
theorem sp_readAsset {σ : pT} {I : pI} {F : pF} {q r l a : Nat} (h : isOr σ q) (hr : (σ.2.1 r).1 = 3 + 1) (hrq : q + 1 < r) (hl : I q 1 = nI l) (hl6 : l ≤ 60) (ha : I q 4 = nI a) (ha6 : a ≤ 60)  : PE yX4_readAsset cX4_readAsset mX4_readAsset [.ref q, .ref r] σ I F (some (.int (bI (digB (I (q + 1)) l a)))) (if digB (I (q + 1)) l a = true then up2 (up2 I q 4 (nI (a + 1))) r 1 (I (q + 1) a - 48) else I) F := by
  refine PE.of oP_X4_readAsset (catOK rfl) (Nat.le_of_ble_eq_true rfl) ?_
  show PW _ _ _ 0 [.ref q, .ref r] [] _ _ _ _
  refine pw_aload_n dX4_readAsset_0 rfl rfl ?_
  refine pe_callVi dX4_readAsset_1 oX_X4_isAtDigit lk_RX4_53 (sp_isAtDigit h hl hl6 ha ha6) (or_k h) rfl rfl (Nat.le_of_ble_eq_true rfl) (by decide) ?_
  refine pw_ifB_ne (tgt := 9) dX4_readAsset_4 (by decide) (fun c_4 => ?_) (fun c_4 => ?_)
  · refine pw_aload_n dX4_readAsset_9 rfl rfl ?_
    refine pw_aload_n dX4_readAsset_10 rfl rfl ?_
    refine pe_callVi dX4_readAsset_11 oX_X4_readDigit lk_RX4_57 (sp_readDigit (l := l) h ha (by have := dig_lt c_4; omega)) (or_k h) rfl rfl (Nat.le_of_ble_eq_true rfl) (by decide) ?_
    refine pw_putI dX4_readAsset_14 fd_RX4_61 (by decide) rfl ⟨rfl, rfl, rfl⟩ hr ?_
    refine pw_iconst (v := 1) dX4_readAsset_17 (by decide) ?_
    exact pw_zret dX4_readAsset_18 rfl (by first | rfl | decide) ⟨b_t c_4, rfl, by rw [if_pos c_4], rfl⟩
  · refine pw_iconst (v := 0) dX4_readAsset_7 (by decide) ?_
    exact pw_zret dX4_readAsset_8 rfl (by first | rfl | decide) ⟨b_f c_4, rfl, by rw [c_4]; rfl, rfl⟩

set_option maxRecDepth 4000 in
theorem sp_readCrew {σ : pT} {I : pI} {F : pF} {q r l a : Nat} (h : isOr σ q) (hr : (σ.2.1 r).1 = 3 + 1) (hrq : q + 1 < r) (hl : I q 1 = nI l) (hl6 : l ≤ 60) (ha : I q 4 = nI a) (ha6 : a ≤ 60)  : PE yX4_readCrew cX4_readCrew mX4_readCrew [.ref q, .ref r] σ I F (some (.int (bI (digB (I (q + 1)) l a)))) (if digB (I (q + 1)) l a = true then up2 (up2 I q 4 (nI (a + 1))) r 2 (I (q + 1) a - 48) else I) F := by
  refine PE.of oP_X4_readCrew (catOK rfl) (Nat.le_of_ble_eq_true rfl) ?_
  show PW _ _ _ 0 [.ref q, .ref r] [] _ _ _ _
  refine pw_aload_n dX4_readCrew_0 rfl rfl ?_
  refine pe_callVi dX4_readCrew_1 oX_X4_isAtDigit lk_RX4_53 (sp_isAtDigit h hl hl6 ha ha6) (or_k h) rfl rfl (Nat.le_of_ble_eq_true rfl) (by decide) ?_
  refine pw_ifB_ne (tgt := 9) dX4_readCrew_4 (by decide) (fun c_4 => ?_) (fun c_4 => ?_)
  · refine pw_aload_n dX4_readCrew_9 rfl rfl ?_
    refine pw_aload_n dX4_readCrew_10 rfl rfl ?_
    refine pe_callVi dX4_readCrew_11 oX_X4_readDigit lk_RX4_57 (sp_readDigit (l := l) h ha (by have := dig_lt c_4; omega)) (or_k h) rfl rfl (Nat.le_of_ble_eq_true rfl) (by decide) ?_
    refine pw_putI dX4_readCrew_14 fd_RX4_64 (by decide) rfl ⟨rfl, rfl, rfl⟩ hr ?_
    refine pw_iconst (v := 1) dX4_readCrew_17 (by decide) ?_
    exact pw_zret dX4_readCrew_18 rfl (by first | rfl | decide) ⟨b_t c_4, rfl, by rw [if_pos c_4], rfl⟩
  · refine pw_iconst (v := 0) dX4_readCrew_7 (by decide) ?_
    exact pw_zret dX4_readCrew_8 rfl (by first | rfl | decide) ⟨b_f c_4, rfl, by rw [c_4]; rfl, rfl⟩

set_option maxRecDepth 4000 in
theorem sp_readNumber {σ : pT} {I : pI} {F : pF} {q r l a : Nat} (h : isOr σ q) (hr : (σ.2.1 r).1 = 3 + 1) (hrq : q + 1 < r) (hl : I q 1 = nI l) (hl6 : l ≤ 60) (ha : I q 4 = nI a) (ha6 : a ≤ 60)  : PE yX4_readNumber cX4_readNumber mX4_readNumber [.ref q, .ref r] σ I F (some (.int (bI (digB (I (q + 1)) l a)))) (if digB (I (q + 1)) l a = true then up2 (up2 I q 4 (nI (numV (I (q + 1)) l a).2)) r 1 (numV (I (q + 1)) l a).1 else I) F := by
  have rq : ∀ (f : pI) (k : Nat) (x : Int32), up2 f q k x (q + 1) = f (q + 1) := fun f k x => up2_row (by omega)
  have rr : ∀ (f : pI) (k : Nat) (x : Int32), up2 f r k x (q + 1) = f (q + 1) := fun f k x => up2_row (by omega)
  refine PE.of oP_X4_readNumber (catOK rfl) (Nat.le_of_ble_eq_true rfl) ?_
  show PW _ _ _ 0 [.ref q, .ref r] [] _ _ _ _
  refine pw_aload_n dX4_readNumber_0 rfl rfl ?_
  refine pe_callVi dX4_readNumber_1 oX_X4_isAtDigit lk_RX4_53 (sp_isAtDigit h hl hl6 ha ha6) (or_k h) rfl rfl (Nat.le_of_ble_eq_true rfl) (by decide) ?_
  refine pw_ifB_ne (tgt := 9) dX4_readNumber_4 (by decide) (fun c_4 => ?_) (fun c_4 => ?_)
  · refine pw_aload_n dX4_readNumber_9 rfl rfl ?_
    refine pw_aload_n dX4_readNumber_10 rfl rfl ?_
    refine pe_callVi dX4_readNumber_11 oX_X4_readDigit lk_RX4_57 (sp_readDigit (l := l) h ha (by have := dig_lt c_4; omega)) (or_k h) rfl rfl (Nat.le_of_ble_eq_true rfl) (by decide) ?_
    refine pw_putI dX4_readNumber_14 fd_RX4_61 (by decide) rfl ⟨rfl, rfl, rfl⟩ hr ?_
    refine pw_aload_n dX4_readNumber_17 rfl rfl ?_
    refine pw_getI dX4_readNumber_18 fd_RX4_61 (by decide) hr rfl ?_
    rw [up2_s]
    refine pw_if_eq (tgt := 47) dX4_readNumber_21 (by decide) (fun c_21 => ?_) (fun c_21 => ?_)
    · refine pw_iconst (v := 1) dX4_readNumber_47 (by decide) ?_
      exact pw_zret dX4_readNumber_48 rfl (by first | rfl | decide) ⟨b_t c_4, rfl, by rw [if_pos c_4, numV, if_neg (fun z => z.1 c_21)], rfl⟩
    · refine pw_aload_n dX4_readNumber_24 rfl rfl ?_
      refine pe_callVi dX4_readNumber_25 oX_X4_isAtDigit lk_RX4_53 (sp_isAtDigit (a := a + 1) h ((up2_ni (by omega)).trans ((up2_nj (by decide)).trans hl)) hl6 ((up2_ni (by omega)).trans up2_s) (by have := dig_lt c_4; omega)) (or_k h) rfl rfl (Nat.le_of_ble_eq_true rfl) (by decide) ?_
      simp only [rq, rr]
      refine pw_ifB_eq (tgt := 47) dX4_readNumber_28 (by decide) (fun c_28 => ?_) (fun c_28 => ?_)
      · refine pw_iconst (v := 1) dX4_readNumber_47 (by decide) ?_
        exact pw_zret dX4_readNumber_48 rfl (by first | rfl | decide) ⟨b_t c_4, rfl, by rw [if_pos c_4, numV, if_neg (fun z => by rw [z.2] at c_28; cases c_28)], rfl⟩
      · refine pw_aload_n dX4_readNumber_31 rfl rfl ?_
        refine pw_bipush (v := 10) dX4_readNumber_32 (by decide) ?_
        refine pw_aload_n dX4_readNumber_34 rfl rfl ?_
        refine pw_getI dX4_readNumber_35 fd_RX4_61 (by decide) hr rfl ?_
        rw [up2_s]
        refine pw_imul dX4_readNumber_38 ?_
        refine pw_aload_n dX4_readNumber_39 rfl rfl ?_
        refine pe_callVi dX4_readNumber_40 oX_X4_readDigit lk_RX4_57 (sp_readDigit (l := l) (a := a + 1) h ((up2_ni (by omega)).trans up2_s) (by have := dig_lt c_28; omega)) (or_k h) rfl rfl (Nat.le_of_ble_eq_true rfl) (by decide) ?_
        simp only [rq, rr]
        refine pw_iadd dX4_readNumber_43 ?_
        refine pw_putI dX4_readNumber_44 fd_RX4_61 (by decide) rfl ⟨rfl, rfl, rfl⟩ hr ?_
        refine pw_iconst (v := 1) dX4_readNumber_47 (by decide) ?_
        exact pw_zret dX4_readNumber_48 rfl (by first | rfl | decide) ⟨b_t c_4, rfl, by rw [if_pos c_4, numV, if_pos ⟨c_21, c_28⟩, up2_col (by omega)], rfl⟩
  · refine pw_iconst (v := 0) dX4_readNumber_7 (by decide) ?_
    exact pw_zret dX4_readNumber_8 rfl (by first | rfl | decide) ⟨b_f c_4, rfl, by rw [c_4]; rfl, rfl⟩

theorem ord_ret {q r l a : Nat} {I I' : pI} {F : pF} {σ : pT} {b : Bool} {z : Nat} {v n c : Int32} (e : ordV (I (q + 1)) l a = (b, z, v, n, c)) (h1 : oFr q r I I') (h2 : I' q 4 = nI z) (h3 : b = true → I' r 0 = v ∧ I' r 1 = n ∧ (I' r 0 = 104 ∨ I' r 0 = 108 → I' r 2 = c)) : σ = σ ∧ F = F ∧ some (Value.int (bI b)) = some (Value.int (bI (ordV (I (q + 1)) l a).1)) ∧ oFr q r I I' ∧ I' q 4 = nI (ordV (I (q + 1)) l a).2.1 ∧ ((ordV (I (q + 1)) l a).1 = true → I' r 0 = (ordV (I (q + 1)) l a).2.2.1 ∧ I' r 1 = (ordV (I (q + 1)) l a).2.2.2.1 ∧ (I' r 0 = 104 ∨ I' r 0 = 108 → I' r 2 = (ordV (I (q + 1)) l a).2.2.2.2)) := by
  rw [e]
  exact ⟨rfl, rfl, rfl, h1, h2, h3⟩

set_option maxRecDepth 4000 in
theorem sp_readOrder {σ : pT} {I : pI} {F : pF} {q r l a : Nat} (h : isOr σ q) (hr : (σ.2.1 r).1 = 3 + 1) (hrq : q + 1 < r) (hl : I q 1 = nI l) (hl6 : l ≤ 60) (ha : I q 4 = nI a) (ha6 : a ≤ 60) (hch : ∀ k, k < l → narrow .char (.int (I (q + 1) k)) = .int (I (q + 1) k) ∧ fits .char (.int (I (q + 1) k)) = true)  : PR yX4_readOrder cX4_readOrder mX4_readOrder [.ref q, .ref r] σ I F fun v I' F' => F' = F ∧ v = some (.int (bI (ordV (I (q + 1)) l a).1)) ∧ oFr q r I I' ∧ I' q 4 = nI (ordV (I (q + 1)) l a).2.1 ∧ ((ordV (I (q + 1)) l a).1 = true → I' r 0 = (ordV (I (q + 1)) l a).2.2.1 ∧ I' r 1 = (ordV (I (q + 1)) l a).2.2.2.1 ∧ (I' r 0 = 104 ∨ I' r 0 = 108 → I' r 2 = (ordV (I (q + 1)) l a).2.2.2.2)) := by
  have rq : ∀ (f : pI) (k : Nat) (x : Int32), up2 f q k x (q + 1) = f (q + 1) := fun f k x => up2_row (by omega)
  have rr : ∀ (f : pI) (k : Nat) (x : Int32), up2 f r k x (q + 1) = f (q + 1) := fun f k x => up2_row (by omega)
  have hrq0 : ¬ r = q := by omega
  refine PR.of oP_X4_readOrder (catOK rfl) (Nat.le_of_ble_eq_true rfl) ?_
  show PW _ _ _ 0 [.ref q, .ref r, pJ] [] _ _ _ _
  refine pw_aload_n dX4_readOrder_0 rfl rfl ?_
  refine pw_getI dX4_readOrder_1 fd_RX4_28 (by decide) (or_k h) rfl ?_
  rw [ha]
  refine pw_aload_n dX4_readOrder_4 rfl rfl ?_
  refine pw_getI dX4_readOrder_5 fd_RX4_15 (by decide) (or_k h) rfl ?_
  rw [hl]
  refine pw_icmp_ge (tgt := 23) dX4_readOrder_8 (by decide) (fun c_8 => ?_) (fun c_8 => ?_)
  · have h8 : ¬ a < l := fun z => nI_ge z (by omega) c_8
    refine pw_iconst (v := 0) dX4_readOrder_23 (by decide) ?_
    exact pw_zret dX4_readOrder_24 rfl (by first | rfl | decide) (ord_ret (b := false) (z := a) (v := 0) (n := 0) (c := 0) (by rw [ordV, if_neg h8]) oFr_0 ha (fun z => by cases z))
  · have h8 : a < l := Nat.not_le.mp fun z => c_8 (nI_le z (by omega))
    refine pw_aload_n dX4_readOrder_11 rfl rfl ?_
    refine pw_getI dX4_readOrder_12 fd_RX4_28 (by decide) (or_k h) rfl ?_
    rw [ha]
    refine pw_aload_n dX4_readOrder_15 rfl rfl ?_
    refine pw_getR (x := (q + 1)) dX4_readOrder_16 fd_RX4_9 (by decide) (or_k h) rfl (or_rt h) ?_
    refine pw_alenC dX4_readOrder_19 (or_kt h) ?_
    refine pw_icmp_lt (tgt := 25) dX4_readOrder_20 (by decide) (fun c_20 => ?_) (fun c_20 => absurd (nI_lt (b := 60) (by omega) (by decide)) c_20)
    refine pw_aload_n dX4_readOrder_25 rfl rfl ?_
    refine pw_getR (x := (q + 1)) dX4_readOrder_26 fd_RX4_9 (by decide) (or_k h) rfl (or_rt h) ?_
    refine pw_aload_n dX4_readOrder_29 rfl rfl ?_
    refine pw_getI dX4_readOrder_30 fd_RX4_28 (by decide) (or_k h) rfl ?_
    rw [ha]
    refine pw_caldN (j := a) dX4_readOrder_33 (or_kt h) (by omega) (by decide) ?_
    refine pw_istore_n dX4_readOrder_34 rfl (by decide) rfl ?_
    refine pw_aload_n dX4_readOrder_35 rfl rfl ?_
    refine pw_iload_n dX4_readOrder_36 rfl rfl ?_
    refine pw_putI dX4_readOrder_37 fd_RX4_40 (by decide) rfl ⟨(hch a h8).1, (hch a h8).2, rfl⟩ hr ?_
    refine pw_iload_n dX4_readOrder_40 rfl rfl ?_
    refine pw_bipush (v := 104) dX4_readOrder_41 (by decide) ?_
    refine pw_icmp_eq (tgt := 52) dX4_readOrder_43 (by decide) (fun c_43 => ?_) (fun c_43 => ?_)
    · refine pw_aload_n dX4_readOrder_52 rfl rfl ?_
      refine pw_dup dX4_readOrder_53 rfl ?_
      refine pw_getI dX4_readOrder_54 fd_RX4_28 (by decide) (or_k h) rfl ?_
      rw [up2_ni (by omega), ha]
      refine pw_iconst (v := 1) dX4_readOrder_57 (by decide) ?_
      refine pw_iadd dX4_readOrder_58 ?_
      rw [nI_1]
      refine pw_putI dX4_readOrder_59 fd_RX4_28 (by decide) rfl ⟨rfl, rfl, rfl⟩ (or_k h) ?_
      refine pw_aload_n dX4_readOrder_62 rfl rfl ?_
      refine pw_aload_n dX4_readOrder_63 rfl rfl ?_
      refine pe_callVi dX4_readOrder_64 oX_X4_readNumber lk_RX4_44 (sp_readNumber (a := a + 1) h hr hrq ((up2_nj (by decide)).trans ((up2_ni (by omega)).trans hl)) hl6 up2_s (by omega)) (or_k h) rfl rfl (Nat.le_of_ble_eq_true rfl) (by decide) ?_
      simp only [rq, rr]
      refine pw_ifB_eq (tgt := 91) dX4_readOrder_67 (by decide) (fun c_67 => ?_) (fun c_67 => ?_)
      · rw [if_neg (fun z => by rw [z] at c_67; cases c_67)]
        refine pw_iconst (v := 0) dX4_readOrder_91 (by decide) ?_
        exact pw_zret dX4_readOrder_92 rfl (by first | rfl | decide) (ord_ret (b := false) (z := a + 1) (v := 0) (n := 0) (c := 0) (by rw [ordV, if_pos h8, if_pos (Or.inl c_43), if_neg (fun z => by rw [z] at c_67; cases c_67)]) (oFr_q (oFr_r oFr_0)) up2_s (fun z => by cases z))
      · rw [if_pos c_67]
        refine pw_aload_n dX4_readOrder_70 rfl rfl ?_
        refine pw_bipush (v := 99) dX4_readOrder_71 (by decide) ?_
        refine pe_callVi dX4_readOrder_73 oX_X4_readSign lk_RX4_36 (sp_readSign (a := (numV (I (q + 1)) l (a + 1)).2) h ((up2_ni (by omega)).trans ((up2_nj (by decide)).trans ((up2_nj (by decide)).trans ((up2_ni (by omega)).trans hl)))) hl6 ((up2_ni (by omega)).trans up2_s) (by have := (numV_le c_67).1; omega)) (or_k h) rfl rfl (Nat.le_of_ble_eq_true rfl) (by decide) ?_
        simp only [rq, rr]
        refine pw_ifB_eq (tgt := 91) dX4_readOrder_76 (by decide) (fun c_76 => ?_) (fun c_76 => ?_)
        · rw [if_neg (fun z => by rw [z] at c_76; cases c_76)]
          refine pw_iconst (v := 0) dX4_readOrder_91 (by decide) ?_
          exact pw_zret dX4_readOrder_92 rfl (by first | rfl | decide) (ord_ret (b := false) (z := (numV (I (q + 1)) l (a + 1)).2) (v := 0) (n := 0) (c := 0) (by rw [ordV, if_pos h8, if_pos (Or.inl c_43), if_pos c_67, if_neg (fun z => by rw [z] at c_76; cases c_76)]) (oFr_r (oFr_q (oFr_q (oFr_r oFr_0)))) ((up2_ni (by omega)).trans up2_s) (fun z => by cases z))
        · rw [if_pos c_76]
          refine pw_aload_n dX4_readOrder_79 rfl rfl ?_
          refine pw_aload_n dX4_readOrder_80 rfl rfl ?_
          refine pe_callVi dX4_readOrder_81 oX_X4_readCrew lk_RX4_47 (sp_readCrew (a := (numV (I (q + 1)) l (a + 1)).2 + 1) h hr hrq ((up2_nj (by decide)).trans ((up2_ni (by omega)).trans ((up2_nj (by decide)).trans ((up2_nj (by decide)).trans ((up2_ni (by omega)).trans hl))))) hl6 up2_s (by have := sgn_lt c_76; omega)) (or_k h) rfl rfl (Nat.le_of_ble_eq_true rfl) (by decide) ?_
          simp only [rq, rr]
          refine pw_ifB_eq (tgt := 91) dX4_readOrder_84 (by decide) (fun c_84 => ?_) (fun c_84 => ?_)
          · rw [if_neg (fun z => by rw [z] at c_84; cases c_84)]
            refine pw_iconst (v := 0) dX4_readOrder_91 (by decide) ?_
            exact pw_zret dX4_readOrder_92 rfl (by first | rfl | decide) (ord_ret (b := false) (z := (numV (I (q + 1)) l (a + 1)).2 + 1) (v := 0) (n := 0) (c := 0) (by rw [ordV, if_pos h8, if_pos (Or.inl c_43), if_pos c_67, if_pos c_76, if_neg (fun z => by rw [z] at c_84; cases c_84)]) (oFr_q (oFr_r (oFr_q (oFr_q (oFr_r oFr_0))))) up2_s (fun z => by cases z))
          · rw [if_pos c_84]
            refine pw_iconst (v := 1) dX4_readOrder_87 (by decide) ?_
            refine pw_goto (tgt := 92) dX4_readOrder_88 (by decide) ?_
            exact pw_zret dX4_readOrder_92 rfl (by first | rfl | decide) (ord_ret (b := true) (z := (numV (I (q + 1)) l (a + 1)).2 + 2) (v := I (q + 1) a) (n := (numV (I (q + 1)) l (a + 1)).1) (c := I (q + 1) ((numV (I (q + 1)) l (a + 1)).2 + 1) - 48) (by rw [ordV, if_pos h8, if_pos (Or.inl c_43), if_pos c_67, if_pos c_76, if_pos c_84]) (oFr_r (oFr_q (oFr_q (oFr_r (oFr_q (oFr_q (oFr_r oFr_0))))))) ((up2_ni (by omega)).trans up2_s) (fun _ => by simp [up2, hrq0]))
    · refine pw_iload_n dX4_readOrder_46 rfl rfl ?_
      refine pw_bipush (v := 108) dX4_readOrder_47 (by decide) ?_
      refine pw_icmp_ne (tgt := 93) dX4_readOrder_49 (by decide) (fun c_49 => ?_) (fun c_49 => ?_)
      · refine pw_iload_n dX4_readOrder_93 rfl rfl ?_
        refine pw_bipush (v := 98) dX4_readOrder_94 (by decide) ?_
        refine pw_icmp_eq (tgt := 105) dX4_readOrder_96 (by decide) (fun c_96 => ?_) (fun c_96 => ?_)
        · refine pw_aload_n dX4_readOrder_105 rfl rfl ?_
          refine pw_dup dX4_readOrder_106 rfl ?_
          refine pw_getI dX4_readOrder_107 fd_RX4_28 (by decide) (or_k h) rfl ?_
          rw [up2_ni (by omega), ha]
          refine pw_iconst (v := 1) dX4_readOrder_110 (by decide) ?_
          refine pw_iadd dX4_readOrder_111 ?_
          rw [nI_1]
          refine pw_putI dX4_readOrder_112 fd_RX4_28 (by decide) rfl ⟨rfl, rfl, rfl⟩ (or_k h) ?_
          refine pw_aload_n dX4_readOrder_115 rfl rfl ?_
          refine pw_aload_n dX4_readOrder_116 rfl rfl ?_
          refine pe_callVi dX4_readOrder_117 oX_X4_readNumber lk_RX4_44 (sp_readNumber (a := a + 1) h hr hrq ((up2_nj (by decide)).trans ((up2_ni (by omega)).trans hl)) hl6 up2_s (by omega)) (or_k h) rfl rfl (Nat.le_of_ble_eq_true rfl) (by decide) ?_
          simp only [rq, rr]
          rcases hB : digB (I (q + 1)) l (a + 1) with _ | _
          · rw [if_neg (by decide)]
            exact pw_bret (b := false) dX4_readOrder_120 rfl (ord_ret (b := false) (z := a + 1) (v := 0) (n := 0) (c := 0) (by rw [ordV, if_pos h8, if_neg (fun z => z.elim c_43 c_49), if_pos (Or.inl c_96), if_neg (fun z => by rw [z] at hB; cases hB)]) (oFr_q (oFr_r oFr_0)) up2_s (fun z => by cases z))
          · rw [if_pos rfl]
            exact pw_bret (b := true) dX4_readOrder_120 rfl (ord_ret (b := true) (z := (numV (I (q + 1)) l (a + 1)).2) (v := I (q + 1) a) (n := (numV (I (q + 1)) l (a + 1)).1) (c := 0) (by rw [ordV, if_pos h8, if_neg (fun z => z.elim c_43 c_49), if_pos (Or.inl c_96), if_pos hB]) (oFr_r (oFr_q (oFr_q (oFr_r oFr_0)))) ((up2_ni (by omega)).trans up2_s) (fun _ => ⟨by simp [up2, hrq0], by simp [up2, hrq0], fun z => by exfalso; simp [up2, hrq0] at z; exact z.elim c_43 c_49⟩))
        · refine pw_iload_n dX4_readOrder_99 rfl rfl ?_
          refine pw_bipush (v := 112) dX4_readOrder_100 (by decide) ?_
          refine pw_icmp_ne (tgt := 121) dX4_readOrder_102 (by decide) (fun c_102 => ?_) (fun c_102 => ?_)
          · refine pw_iload_n dX4_readOrder_121 rfl rfl ?_
            refine pw_bipush (v := 114) dX4_readOrder_122 (by decide) ?_
            refine pw_icmp_eq (tgt := 133) dX4_readOrder_124 (by decide) (fun c_124 => ?_) (fun c_124 => ?_)
            · refine pw_aload_n dX4_readOrder_133 rfl rfl ?_
              refine pw_dup dX4_readOrder_134 rfl ?_
              refine pw_getI dX4_readOrder_135 fd_RX4_28 (by decide) (or_k h) rfl ?_
              rw [up2_ni (by omega), ha]
              refine pw_iconst (v := 1) dX4_readOrder_138 (by decide) ?_
              refine pw_iadd dX4_readOrder_139 ?_
              rw [nI_1]
              refine pw_putI dX4_readOrder_140 fd_RX4_28 (by decide) rfl ⟨rfl, rfl, rfl⟩ (or_k h) ?_
              refine pw_aload_n dX4_readOrder_143 rfl rfl ?_
              refine pw_aload_n dX4_readOrder_144 rfl rfl ?_
              refine pe_callVi dX4_readOrder_145 oX_X4_readAsset lk_RX4_50 (sp_readAsset (a := a + 1) h hr hrq ((up2_nj (by decide)).trans ((up2_ni (by omega)).trans hl)) hl6 up2_s (by omega)) (or_k h) rfl rfl (Nat.le_of_ble_eq_true rfl) (by decide) ?_
              simp only [rq, rr]
              rcases hB : digB (I (q + 1)) l (a + 1) with _ | _
              · rw [if_neg (by decide)]
                exact pw_bret (b := false) dX4_readOrder_148 rfl (ord_ret (b := false) (z := a + 1) (v := 0) (n := 0) (c := 0) (by rw [ordV, if_pos h8, if_neg (fun z => z.elim c_43 c_49), if_neg (fun z => z.elim c_96 c_102), if_pos (Or.inl c_124), if_neg (fun z => by rw [z] at hB; cases hB)]) (oFr_q (oFr_r oFr_0)) up2_s (fun z => by cases z))
              · rw [if_pos rfl]
                exact pw_bret (b := true) dX4_readOrder_148 rfl (ord_ret (b := true) (z := a + 2) (v := I (q + 1) a) (n := I (q + 1) (a + 1) - 48) (c := 0) (by rw [ordV, if_pos h8, if_neg (fun z => z.elim c_43 c_49), if_neg (fun z => z.elim c_96 c_102), if_pos (Or.inl c_124), if_pos hB]) (oFr_r (oFr_q (oFr_q (oFr_r oFr_0)))) ((up2_ni (by omega)).trans up2_s) (fun _ => ⟨by simp [up2, hrq0], by simp [up2, hrq0], fun z => by exfalso; simp [up2, hrq0] at z; exact z.elim c_43 c_49⟩))
            · refine pw_iload_n dX4_readOrder_127 rfl rfl ?_
              refine pw_bipush (v := 115) dX4_readOrder_128 (by decide) ?_
              refine pw_icmp_ne (tgt := 149) dX4_readOrder_130 (by decide) (fun c_130 => ?_) (fun c_130 => ?_)
              · refine pw_iconst (v := 0) dX4_readOrder_149 (by decide) ?_
                exact pw_zret dX4_readOrder_150 rfl (by first | rfl | decide) (ord_ret (b := false) (z := a) (v := 0) (n := 0) (c := 0) (by rw [ordV, if_pos h8, if_neg (fun z => z.elim c_43 c_49), if_neg (fun z => z.elim c_96 c_102), if_neg (fun z => z.elim c_124 c_130)]) (oFr_r oFr_0) ((up2_ni (by omega)).trans ha) (fun z => by cases z))
              · refine pw_aload_n dX4_readOrder_133 rfl rfl ?_
                refine pw_dup dX4_readOrder_134 rfl ?_
                refine pw_getI dX4_readOrder_135 fd_RX4_28 (by decide) (or_k h) rfl ?_
                rw [up2_ni (by omega), ha]
                refine pw_iconst (v := 1) dX4_readOrder_138 (by decide) ?_
                refine pw_iadd dX4_readOrder_139 ?_
                rw [nI_1]
                refine pw_putI dX4_readOrder_140 fd_RX4_28 (by decide) rfl ⟨rfl, rfl, rfl⟩ (or_k h) ?_
                refine pw_aload_n dX4_readOrder_143 rfl rfl ?_
                refine pw_aload_n dX4_readOrder_144 rfl rfl ?_
                refine pe_callVi dX4_readOrder_145 oX_X4_readAsset lk_RX4_50 (sp_readAsset (a := a + 1) h hr hrq ((up2_nj (by decide)).trans ((up2_ni (by omega)).trans hl)) hl6 up2_s (by omega)) (or_k h) rfl rfl (Nat.le_of_ble_eq_true rfl) (by decide) ?_
                simp only [rq, rr]
                rcases hB : digB (I (q + 1)) l (a + 1) with _ | _
                · rw [if_neg (by decide)]
                  exact pw_bret (b := false) dX4_readOrder_148 rfl (ord_ret (b := false) (z := a + 1) (v := 0) (n := 0) (c := 0) (by rw [ordV, if_pos h8, if_neg (fun z => z.elim c_43 c_49), if_neg (fun z => z.elim c_96 c_102), if_pos (Or.inr c_130), if_neg (fun z => by rw [z] at hB; cases hB)]) (oFr_q (oFr_r oFr_0)) up2_s (fun z => by cases z))
                · rw [if_pos rfl]
                  exact pw_bret (b := true) dX4_readOrder_148 rfl (ord_ret (b := true) (z := a + 2) (v := I (q + 1) a) (n := I (q + 1) (a + 1) - 48) (c := 0) (by rw [ordV, if_pos h8, if_neg (fun z => z.elim c_43 c_49), if_neg (fun z => z.elim c_96 c_102), if_pos (Or.inr c_130), if_pos hB]) (oFr_r (oFr_q (oFr_q (oFr_r oFr_0)))) ((up2_ni (by omega)).trans up2_s) (fun _ => ⟨by simp [up2, hrq0], by simp [up2, hrq0], fun z => by exfalso; simp [up2, hrq0] at z; exact z.elim c_43 c_49⟩))
          · refine pw_aload_n dX4_readOrder_105 rfl rfl ?_
            refine pw_dup dX4_readOrder_106 rfl ?_
            refine pw_getI dX4_readOrder_107 fd_RX4_28 (by decide) (or_k h) rfl ?_
            rw [up2_ni (by omega), ha]
            refine pw_iconst (v := 1) dX4_readOrder_110 (by decide) ?_
            refine pw_iadd dX4_readOrder_111 ?_
            rw [nI_1]
            refine pw_putI dX4_readOrder_112 fd_RX4_28 (by decide) rfl ⟨rfl, rfl, rfl⟩ (or_k h) ?_
            refine pw_aload_n dX4_readOrder_115 rfl rfl ?_
            refine pw_aload_n dX4_readOrder_116 rfl rfl ?_
            refine pe_callVi dX4_readOrder_117 oX_X4_readNumber lk_RX4_44 (sp_readNumber (a := a + 1) h hr hrq ((up2_nj (by decide)).trans ((up2_ni (by omega)).trans hl)) hl6 up2_s (by omega)) (or_k h) rfl rfl (Nat.le_of_ble_eq_true rfl) (by decide) ?_
            simp only [rq, rr]
            rcases hB : digB (I (q + 1)) l (a + 1) with _ | _
            · rw [if_neg (by decide)]
              exact pw_bret (b := false) dX4_readOrder_120 rfl (ord_ret (b := false) (z := a + 1) (v := 0) (n := 0) (c := 0) (by rw [ordV, if_pos h8, if_neg (fun z => z.elim c_43 c_49), if_pos (Or.inr c_102), if_neg (fun z => by rw [z] at hB; cases hB)]) (oFr_q (oFr_r oFr_0)) up2_s (fun z => by cases z))
            · rw [if_pos rfl]
              exact pw_bret (b := true) dX4_readOrder_120 rfl (ord_ret (b := true) (z := (numV (I (q + 1)) l (a + 1)).2) (v := I (q + 1) a) (n := (numV (I (q + 1)) l (a + 1)).1) (c := 0) (by rw [ordV, if_pos h8, if_neg (fun z => z.elim c_43 c_49), if_pos (Or.inr c_102), if_pos hB]) (oFr_r (oFr_q (oFr_q (oFr_r oFr_0)))) ((up2_ni (by omega)).trans up2_s) (fun _ => ⟨by simp [up2, hrq0], by simp [up2, hrq0], fun z => by exfalso; simp [up2, hrq0] at z; exact z.elim c_43 c_49⟩))
      · refine pw_aload_n dX4_readOrder_52 rfl rfl ?_
        refine pw_dup dX4_readOrder_53 rfl ?_
        refine pw_getI dX4_readOrder_54 fd_RX4_28 (by decide) (or_k h) rfl ?_
        rw [up2_ni (by omega), ha]
        refine pw_iconst (v := 1) dX4_readOrder_57 (by decide) ?_
        refine pw_iadd dX4_readOrder_58 ?_
        rw [nI_1]
        refine pw_putI dX4_readOrder_59 fd_RX4_28 (by decide) rfl ⟨rfl, rfl, rfl⟩ (or_k h) ?_
        refine pw_aload_n dX4_readOrder_62 rfl rfl ?_
        refine pw_aload_n dX4_readOrder_63 rfl rfl ?_
        refine pe_callVi dX4_readOrder_64 oX_X4_readNumber lk_RX4_44 (sp_readNumber (a := a + 1) h hr hrq ((up2_nj (by decide)).trans ((up2_ni (by omega)).trans hl)) hl6 up2_s (by omega)) (or_k h) rfl rfl (Nat.le_of_ble_eq_true rfl) (by decide) ?_
        simp only [rq, rr]
        refine pw_ifB_eq (tgt := 91) dX4_readOrder_67 (by decide) (fun c_67 => ?_) (fun c_67 => ?_)
        · rw [if_neg (fun z => by rw [z] at c_67; cases c_67)]
          refine pw_iconst (v := 0) dX4_readOrder_91 (by decide) ?_
          exact pw_zret dX4_readOrder_92 rfl (by first | rfl | decide) (ord_ret (b := false) (z := a + 1) (v := 0) (n := 0) (c := 0) (by rw [ordV, if_pos h8, if_pos (Or.inr c_49), if_neg (fun z => by rw [z] at c_67; cases c_67)]) (oFr_q (oFr_r oFr_0)) up2_s (fun z => by cases z))
        · rw [if_pos c_67]
          refine pw_aload_n dX4_readOrder_70 rfl rfl ?_
          refine pw_bipush (v := 99) dX4_readOrder_71 (by decide) ?_
          refine pe_callVi dX4_readOrder_73 oX_X4_readSign lk_RX4_36 (sp_readSign (a := (numV (I (q + 1)) l (a + 1)).2) h ((up2_ni (by omega)).trans ((up2_nj (by decide)).trans ((up2_nj (by decide)).trans ((up2_ni (by omega)).trans hl)))) hl6 ((up2_ni (by omega)).trans up2_s) (by have := (numV_le c_67).1; omega)) (or_k h) rfl rfl (Nat.le_of_ble_eq_true rfl) (by decide) ?_
          simp only [rq, rr]
          refine pw_ifB_eq (tgt := 91) dX4_readOrder_76 (by decide) (fun c_76 => ?_) (fun c_76 => ?_)
          · rw [if_neg (fun z => by rw [z] at c_76; cases c_76)]
            refine pw_iconst (v := 0) dX4_readOrder_91 (by decide) ?_
            exact pw_zret dX4_readOrder_92 rfl (by first | rfl | decide) (ord_ret (b := false) (z := (numV (I (q + 1)) l (a + 1)).2) (v := 0) (n := 0) (c := 0) (by rw [ordV, if_pos h8, if_pos (Or.inr c_49), if_pos c_67, if_neg (fun z => by rw [z] at c_76; cases c_76)]) (oFr_r (oFr_q (oFr_q (oFr_r oFr_0)))) ((up2_ni (by omega)).trans up2_s) (fun z => by cases z))
          · rw [if_pos c_76]
            refine pw_aload_n dX4_readOrder_79 rfl rfl ?_
            refine pw_aload_n dX4_readOrder_80 rfl rfl ?_
            refine pe_callVi dX4_readOrder_81 oX_X4_readCrew lk_RX4_47 (sp_readCrew (a := (numV (I (q + 1)) l (a + 1)).2 + 1) h hr hrq ((up2_nj (by decide)).trans ((up2_ni (by omega)).trans ((up2_nj (by decide)).trans ((up2_nj (by decide)).trans ((up2_ni (by omega)).trans hl))))) hl6 up2_s (by have := sgn_lt c_76; omega)) (or_k h) rfl rfl (Nat.le_of_ble_eq_true rfl) (by decide) ?_
            simp only [rq, rr]
            refine pw_ifB_eq (tgt := 91) dX4_readOrder_84 (by decide) (fun c_84 => ?_) (fun c_84 => ?_)
            · rw [if_neg (fun z => by rw [z] at c_84; cases c_84)]
              refine pw_iconst (v := 0) dX4_readOrder_91 (by decide) ?_
              exact pw_zret dX4_readOrder_92 rfl (by first | rfl | decide) (ord_ret (b := false) (z := (numV (I (q + 1)) l (a + 1)).2 + 1) (v := 0) (n := 0) (c := 0) (by rw [ordV, if_pos h8, if_pos (Or.inr c_49), if_pos c_67, if_pos c_76, if_neg (fun z => by rw [z] at c_84; cases c_84)]) (oFr_q (oFr_r (oFr_q (oFr_q (oFr_r oFr_0))))) up2_s (fun z => by cases z))
            · rw [if_pos c_84]
              refine pw_iconst (v := 1) dX4_readOrder_87 (by decide) ?_
              refine pw_goto (tgt := 92) dX4_readOrder_88 (by decide) ?_
              exact pw_zret dX4_readOrder_92 rfl (by first | rfl | decide) (ord_ret (b := true) (z := (numV (I (q + 1)) l (a + 1)).2 + 2) (v := I (q + 1) a) (n := (numV (I (q + 1)) l (a + 1)).1) (c := I (q + 1) ((numV (I (q + 1)) l (a + 1)).2 + 1) - 48) (by rw [ordV, if_pos h8, if_pos (Or.inr c_49), if_pos c_67, if_pos c_76, if_pos c_84]) (oFr_r (oFr_q (oFr_q (oFr_r (oFr_q (oFr_q (oFr_r oFr_0))))))) ((up2_ni (by omega)).trans up2_s) (fun _ => by simp [up2, hrq0]))
