/-! the plant's own questions, told over its cells -/
def tagsC (I : pI) (p n : Nat) (a : Int32) : Nat := cntT (fun t => decide (I (p + 18 + t) 0 = a) && decide (1 ≤ I (p + 18 + t) 7 ∧ I (p + 18 + t) 7 ≤ 3)) n
def busyC (I : pI) (p n : Nat) (a : Int32) : Int32 := sumT (fun t => if (decide (I (p + 18 + t) 8 = a) && decide (1 ≤ I (p + 18 + t) 7 ∧ I (p + 18 + t) 7 ≤ 3)) = true then I (p + 18 + t) 2 else 0) n
def topP (I : pI) (p : Nat) (a hh : Int32) : Nat → Bool := fun t => decide (I (p + 18 + t) 0 = a) && (decide (1 ≤ I (p + 18 + t) 7 ∧ I (p + 18 + t) 7 ≤ 3) && decide (I (p + 18 + t) 11 = hh))
def tagC (I : pI) (p n : Nat) (a x : Int32) : Int32 := fstT (topP I p a (nI (tagsC I p n a) - 1 - x)) n 0
def barB (I : pI) (p k : Nat) (o : Int32) : Bool := decide ((I (p + 4) k >>> (o &&& 31)) &&& 1 = 1)
def nearB (I : pI) (p a : Nat) (o : Int32) : Bool := decide (nI a = o) || decide ((I (p + 5 + a) 5 >>> (o &&& 31)) &&& 1 = 1)
def serveB (I : pI) (p n c t : Nat) : Bool := decide ((I (p + 13 + c) 1 >>> (I (p + 18 + t) 1 &&& 31)) &&& 1 = 1) && decide (I (p + 18 + t) 2 ≤ I (p + 13 + c) 0 - busyC I p n (nI c))
def barP (I : pI) (p k a : Nat) : Nat → Bool := fun i => decide (I (p + 18 + i) 7 = 2) && (barB I p k (I (p + 18 + i) 3) && nearB I p a (I (p + 18 + i) 0))
def barrC (I : pI) (p n t k a : Nat) : Int32 := if I (p + 18 + t) 7 = 2 then -5 else fstT (barP I p k a) n 0
def reasC (I : pI) (p n t k a : Nat) : Int32 := if I (p + 18 + t) 7 = 1 then (if I p 7 < I (p + 18 + t) 5 then 2 else if I (p + 18 + t) 6 < I p 7 + I (p + 18 + t) 4 then 3 else if barrC I p n t k a = -5 then 0 else 4) else 1
def crewC (I : pI) (p nC n t : Nat) : Int32 := if I (p + 18 + t) 7 = 0 then fstT (fun c => serveB I p n c t) nC 0 else -5
theorem has_nat {a x : Int32} {n : Nat} (h : decide (0 ≤ a ∧ a < x) = true) (hx : x = nI n) (hn : n < 2 ^ 31) : ∃ t, t < n ∧ a = nI t := by
  obtain ⟨h1, h2⟩ := of_decide_eq_true h
  rw [hx, Int32.lt_iff_toInt_lt, nI_toInt hn] at h2
  rw [Int32.le_iff_toInt_le] at h1
  have h3 : (0 : Int32).toInt = 0 := by decide
  rw [h3] at h1
  obtain ⟨j, hj, rfl⟩ := nI_of (x := a) (by rw [Int32.lt_iff_toInt_lt, h3]; omega)
  rw [nI_toInt hj] at h2
  exact ⟨j, by omega, rfl⟩
theorem has_t {x : Int32} {t n : Nat} (hx : x = nI n) (ht : t < n) (hn : n < 2 ^ 31) : decide (0 ≤ nI t ∧ nI t < x) = true := by
  rw [hx]
  exact decide_eq_true ⟨nI_pos' (by omega), nI_lt ht hn⟩
theorem has_not {x : Int32} {t n : Nat} (hx : x = nI n) (ht : t < n) (hn : n < 2 ^ 31) (h : decide (0 ≤ nI t ∧ nI t < x) = false) : False := by
  rw [has_t hx ht hn] at h
  cases h
theorem i_nlt' {a b : Int32} (h : b ≤ a) : ¬ a < b := i_nle h
theorem b_t {b : Bool} (h : b = true) : some (Value.int 1) = some (Value.int (bI b)) := by rw [h]; rfl
theorem b_f {b : Bool} (h : b = false) : some (Value.int 0) = some (Value.int (bI b)) := by rw [h]; rfl

set_option maxRecDepth 4000 in
theorem sp_tagsHanging {σ : pT} {I : pI} {F : pF} {p n : Nat} {a : Int32} (h : isPl σ p) (hn : I p 6 = nI n) (hn4 : n ≤ 24)  : PE yX5_tagsHanging cX5_tagsHanging mX5_tagsHanging [.ref p, .int a] σ I F (some (.int (nI (tagsC I p n a)))) I F := by
  refine PE.of oP_X5_tagsHanging (catOK rfl) (Nat.le_of_ble_eq_true rfl) ?_
  show PW _ _ _ 0 [.ref p, .int a] [] _ _ _ _
  refine pw_aload_n dX5_tagsHanging_0 rfl rfl ?_
  refine pw_iload_n dX5_tagsHanging_1 rfl rfl ?_
  refine pw_iconst (v := 1) dX5_tagsHanging_2 (by decide) ?_
  refine pw_iconst (v := 3) dX5_tagsHanging_3 (by decide) ?_
  refine pe_callVi dX5_tagsHanging_4 oX_X5_tasksOfAsset lk_RX5_196 (sp_tasksOfAsset h hn hn4) (pl_k h) rfl rfl (Nat.le_of_ble_eq_true rfl) (by decide) ?_
  exact pw_iret dX5_tagsHanging_7 rfl ⟨rfl, rfl, rfl, rfl⟩

theorem sp_busyC {σ : pT} {I : pI} {F : pF} {p n : Nat} {a : Int32} (h : isPl σ p) (hn : I p 6 = nI n) (hn4 : n ≤ 24) : PE yX5_busyPeople cX5_busyPeople mX5_busyPeople [.ref p, .int a] σ I F (some (.int (busyC I p n a))) I F := sp_busyPeople h hn hn4

set_option maxRecDepth 4000 in
theorem sp_taskOfTag {σ : pT} {I : pI} {F : pF} {p n : Nat} {a x : Int32} (h : isPl σ p) (hn : I p 6 = nI n) (hn4 : n ≤ 24)  : PE yX5_taskOfTag cX5_taskOfTag mX5_taskOfTag [.ref p, .int a, .int x] σ I F (some (.int (tagC I p n a x))) I F := by
  refine PE.of oP_X5_taskOfTag (catOK rfl) (Nat.le_of_ble_eq_true rfl) ?_
  show PW _ _ _ 0 [.ref p, .int a, .int x, pJ, pJ, pJ] [] _ _ _ _
  have L13 : ∀ k, k ≤ n → ∀ w : Value, fstT (topP I p a (nI (tagsC I p n a) - 1 - x)) (n - k) k = tagC I p n a x → PW cX5_taskOfTag mX5_taskOfTag (fM (qE (some (.int (tagC I p n a x))) σ I F)) 13 [.ref p, .int a, .int x, .int (nI (tagsC I p n a) - 1 - x), .int (nI k), w] [] σ I F (0, 0) := by
    refine dn (fun k => ∀ w : Value, fstT (topP I p a (nI (tagsC I p n a) - 1 - x)) (n - k) k = tagC I p n a x → PW cX5_taskOfTag mX5_taskOfTag (fM (qE (some (.int (tagC I p n a x))) σ I F)) 13 [.ref p, .int a, .int x, .int (nI (tagsC I p n a) - 1 - x), .int (nI k), w] [] σ I F (0, 0)) n ?_ ?_
    · intro w hx
      refine pw_iload dX5_taskOfTag_13 rfl ?_
      refine pw_aload_n dX5_taskOfTag_15 rfl rfl ?_
      refine pw_getI dX5_taskOfTag_16 fd_RX5_40 (by decide) (pl_k h) rfl ?_
      refine pw_icmp_ge (tgt := 66) dX5_taskOfTag_19 (by decide) (fun c_19 => ?_) (fun c_19 => absurd (k_ge hn) c_19)
      refine pw_bipush (v := (-5)) dX5_taskOfTag_66 (by decide) ?_
      exact pw_iret dX5_taskOfTag_68 rfl ⟨by rw [fst_0] at hx; rw [← hx], rfl, rfl, rfl⟩
    · intro k hk ih
      intro w hx
      refine pw_iload dX5_taskOfTag_13 rfl ?_
      refine pw_aload_n dX5_taskOfTag_15 rfl rfl ?_
      refine pw_getI dX5_taskOfTag_16 fd_RX5_40 (by decide) (pl_k h) rfl ?_
      refine pw_icmp_ge (tgt := 66) dX5_taskOfTag_19 (by decide) (fun c_19 => absurd c_19 (k_lt hn hk (by omega))) (fun c_19 => ?_)
      refine pw_aload_n dX5_taskOfTag_22 rfl rfl ?_
      refine pw_getR (x := (p + 3)) dX5_taskOfTag_23 fd_RX5_25 (by decide) (pl_k h) rfl (pl_rT h) ?_
      refine pw_iload dX5_taskOfTag_26 rfl ?_
      refine pw_aaldN (j := k) (x := (p + 18 + k)) dX5_taskOfTag_28 (pl_kT h) (by omega) (by decide) (by decide) (pl_eT h (by omega)) ?_
      refine pw_astore dX5_taskOfTag_29 (by decide) rfl ?_
      refine pw_aload dX5_taskOfTag_31 rfl ?_
      refine pw_getI dX5_taskOfTag_33 fd_RX5_111 (by decide) (pl_oT h (by omega)) rfl ?_
      refine pw_iload_n dX5_taskOfTag_36 rfl rfl ?_
      refine pw_icmp_ne (tgt := 60) dX5_taskOfTag_37 (by decide) (fun c_37 => ?_) (fun c_37 => ?_)
      · refine pw_iinc (v := nI (k + 1)) dX5_taskOfTag_60 rfl (nI_add _ _) rfl ?_
        refine pw_goto (tgt := 13) dX5_taskOfTag_63 (by decide) ?_
        have hP : (topP I p a (nI (tagsC I p n a) - 1 - x)) k = false := by simp [topP, c_37]
        rw [fst_f hk hP] at hx
        exact ih _ hx
      · refine pw_aload dX5_taskOfTag_40 rfl ?_
        refine pe_callVi dX5_taskOfTag_42 oX_X6_tagHangs lk_RX5_200 (sp_T_tagHangs (pl_oT h (by omega))) (pl_oT h (by omega)) rfl rfl (Nat.le_of_ble_eq_true rfl) (by decide) ?_
        refine pw_ifB_eq (tgt := 60) dX5_taskOfTag_45 (by decide) (fun c_45 => ?_) (fun c_45 => ?_)
        · refine pw_iinc (v := nI (k + 1)) dX5_taskOfTag_60 rfl (nI_add _ _) rfl ?_
          refine pw_goto (tgt := 13) dX5_taskOfTag_63 (by decide) ?_
          have hP : (topP I p a (nI (tagsC I p n a) - 1 - x)) k = false := by simp [topP, c_37, c_45]
          rw [fst_f hk hP] at hx
          exact ih _ hx
        · refine pw_aload dX5_taskOfTag_48 rfl ?_
          refine pw_getI dX5_taskOfTag_50 fd_RX5_121 (by decide) (pl_oT h (by omega)) rfl ?_
          refine pw_iload_n dX5_taskOfTag_53 rfl rfl ?_
          refine pw_icmp_ne (tgt := 60) dX5_taskOfTag_54 (by decide) (fun c_54 => ?_) (fun c_54 => ?_)
          · refine pw_iinc (v := nI (k + 1)) dX5_taskOfTag_60 rfl (nI_add _ _) rfl ?_
            refine pw_goto (tgt := 13) dX5_taskOfTag_63 (by decide) ?_
            have hP : (topP I p a (nI (tagsC I p n a) - 1 - x)) k = false := by simp [topP, c_37, c_45, c_54]
            rw [fst_f hk hP] at hx
            exact ih _ hx
          · refine pw_iload dX5_taskOfTag_57 rfl ?_
            exact pw_iret dX5_taskOfTag_59 rfl ⟨by rw [fst_t hk (by simp [topP, c_37, c_45, c_54])] at hx; rw [← hx], rfl, rfl, rfl⟩
  refine pw_aload_n dX5_taskOfTag_0 rfl rfl ?_
  refine pw_iload_n dX5_taskOfTag_1 rfl rfl ?_
  refine pe_callVi dX5_taskOfTag_2 oX_X5_tagsHanging lk_RX5_91 (sp_tagsHanging h hn hn4) (pl_k h) rfl rfl (Nat.le_of_ble_eq_true rfl) (by decide) ?_
  refine pw_iconst (v := 1) dX5_taskOfTag_5 (by decide) ?_
  refine pw_isub dX5_taskOfTag_6 ?_
  refine pw_iload_n dX5_taskOfTag_7 rfl rfl ?_
  refine pw_isub dX5_taskOfTag_8 ?_
  refine pw_istore_n dX5_taskOfTag_9 rfl (by decide) rfl ?_
  refine pw_iconst (v := 0) dX5_taskOfTag_10 (by decide) ?_
  refine pw_istore dX5_taskOfTag_11 (by decide) rfl ?_
  exact L13 0 (Nat.zero_le _) _ rfl

set_option maxRecDepth 4000 in
theorem sp_doBar {σ : pT} {I : pI} {F : pF} {p k : Nat} {o : Int32} (h : isPl σ p) (hk5 : k < 5) : PE yX5_doBar cX5_doBar mX5_doBar [.ref p, .int (nI k), .int o] σ I F (some (.int (bI (barB I p k o)))) I F := by
  refine PE.of oP_X5_doBar (catOK rfl) (Nat.le_of_ble_eq_true rfl) ?_
  show PW _ _ _ 0 [.ref p, .int (nI k), .int o] [] _ _ _ _
  refine pw_iload_n dX5_doBar_0 rfl rfl ?_
  refine pw_if_lt (tgt := 31) dX5_doBar_1 (by decide) (fun c_1 => absurd c_1 (nI_pos (by omega))) (fun c_1 => ?_)
  refine pw_iload_n dX5_doBar_4 rfl rfl ?_
  refine pw_aload_n dX5_doBar_5 rfl rfl ?_
  refine pw_getR (x := (p + 4)) dX5_doBar_6 fd_RX5_29 (by decide) (pl_k h) rfl (pl_rB h) ?_
  refine pw_alenI dX5_doBar_9 (pl_kB h) ?_
  refine pw_icmp_ge (tgt := 31) dX5_doBar_10 (by decide) (fun c_10 => absurd c_10 (nI_ge (b := 5) (by omega) (by omega))) (fun c_10 => ?_)
  refine pw_aload_n dX5_doBar_13 rfl rfl ?_
  refine pw_getR (x := (p + 4)) dX5_doBar_14 fd_RX5_29 (by decide) (pl_k h) rfl (pl_rB h) ?_
  refine pw_iload_n dX5_doBar_17 rfl rfl ?_
  refine pw_ialdN (j := k) dX5_doBar_18 (pl_kB h) (by omega) (by decide) ?_
  refine pw_iload_n dX5_doBar_19 rfl rfl ?_
  refine pw_ishr dX5_doBar_20 ?_
  refine pw_iconst (v := 1) dX5_doBar_21 (by decide) ?_
  refine pw_iand dX5_doBar_22 ?_
  refine pw_iconst (v := 1) dX5_doBar_23 (by decide) ?_
  refine pw_icmp_ne (tgt := 31) dX5_doBar_24 (by decide) (fun c_24 => ?_) (fun c_24 => ?_)
  · refine pw_iconst (v := 0) dX5_doBar_31 (by decide) ?_
    exact pw_zret dX5_doBar_32 rfl (by first | rfl | decide) ⟨b_f (by simp [barB, c_24]), rfl, rfl, rfl⟩
  · refine pw_iconst (v := 1) dX5_doBar_27 (by decide) ?_
    refine pw_goto (tgt := 32) dX5_doBar_28 (by decide) ?_
    exact pw_zret dX5_doBar_32 rfl (by first | rfl | decide) ⟨b_t (by simp [barB, c_24]), rfl, rfl, rfl⟩

set_option maxRecDepth 4000 in
theorem sp_areNear {σ : pT} {I : pI} {F : pF} {p nA a : Nat} {o : Int32} (h : isPl σ p) (hA : I p 4 = nI nA) (hA8 : nA ≤ 8) (ha : a < nA) : PE yX5_areNear cX5_areNear mX5_areNear [.ref p, .int (nI a), .int o] σ I F (some (.int (bI (nearB I p a o)))) I F := by
  refine PE.of oP_X5_areNear (catOK rfl) (Nat.le_of_ble_eq_true rfl) ?_
  show PW _ _ _ 0 [.ref p, .int (nI a), .int o] [] _ _ _ _
  refine pw_iload_n dX5_areNear_0 rfl rfl ?_
  refine pw_iload_n dX5_areNear_1 rfl rfl ?_
  refine pw_icmp_eq (tgt := 30) dX5_areNear_2 (by decide) (fun c_2 => ?_) (fun c_2 => ?_)
  · refine pw_iconst (v := 1) dX5_areNear_30 (by decide) ?_
    refine pw_goto (tgt := 35) dX5_areNear_31 (by decide) ?_
    exact pw_zret dX5_areNear_35 rfl (by first | rfl | decide) ⟨b_t (by simp [nearB, c_2]), rfl, rfl, rfl⟩
  · refine pw_iload_n dX5_areNear_5 rfl rfl ?_
    refine pw_if_lt (tgt := 34) dX5_areNear_6 (by decide) (fun c_6 => absurd c_6 (nI_pos (by omega))) (fun c_6 => ?_)
    refine pw_iload_n dX5_areNear_9 rfl rfl ?_
    refine pw_aload_n dX5_areNear_10 rfl rfl ?_
    refine pw_getI dX5_areNear_11 fd_RX5_33 (by decide) (pl_k h) rfl ?_
    refine pw_icmp_ge (tgt := 34) dX5_areNear_14 (by decide) (fun c_14 => absurd c_14 (k_lt hA ha (by omega))) (fun c_14 => ?_)
    refine pw_aload_n dX5_areNear_17 rfl rfl ?_
    refine pw_getR (x := (p + 1)) dX5_areNear_18 fd_RX5_11 (by decide) (pl_k h) rfl (pl_rA h) ?_
    refine pw_iload_n dX5_areNear_21 rfl rfl ?_
    refine pw_aaldN (j := a) (x := (p + 5 + a)) dX5_areNear_22 (pl_kA h) (by omega) (by decide) (by decide) (pl_eA h (by omega)) ?_
    refine pw_iload_n dX5_areNear_23 rfl rfl ?_
    refine pe_callVi dX5_areNear_24 oX_X0_isLinkedTo lk_RX5_71 (sp_isLinkedTo (pl_oA h (by omega))) (pl_oA h (by omega)) rfl rfl (Nat.le_of_ble_eq_true rfl) (by decide) ?_
    refine pw_ifB_eq (tgt := 34) dX5_areNear_27 (by decide) (fun c_27 => ?_) (fun c_27 => ?_)
    · refine pw_iconst (v := 0) dX5_areNear_34 (by decide) ?_
      exact pw_zret dX5_areNear_35 rfl (by first | rfl | decide) ⟨b_f (by simp [nearB, c_2, c_27]), rfl, rfl, rfl⟩
    · refine pw_iconst (v := 1) dX5_areNear_30 (by decide) ?_
      refine pw_goto (tgt := 35) dX5_areNear_31 (by decide) ?_
      exact pw_zret dX5_areNear_35 rfl (by first | rfl | decide) ⟨b_t (by simp [nearB, c_2, c_27]), rfl, rfl, rfl⟩

set_option maxRecDepth 4000 in
theorem sp_isRunning {σ : pT} {I : pI} {F : pF} {p nA a : Nat} (h : isPl σ p) (hA : I p 4 = nI nA) (hA8 : nA ≤ 8) (ha : a < nA) : PE yX5_isRunning cX5_isRunning mX5_isRunning [.ref p, .int (nI a)] σ I F (some (.int (bI (decide (¬ I (p + 5 + a) 4 = 0))))) I F := by
  refine PE.of oP_X5_isRunning (catOK rfl) (Nat.le_of_ble_eq_true rfl) ?_
  show PW _ _ _ 0 [.ref p, .int (nI a)] [] _ _ _ _
  refine pw_aload_n dX5_isRunning_0 rfl rfl ?_
  refine pw_iload_n dX5_isRunning_1 rfl rfl ?_
  refine pe_callVi dX5_isRunning_2 oX_X5_hasAsset lk_RX5_67 (sp_hasAsset h) (pl_k h) rfl rfl (Nat.le_of_ble_eq_true rfl) (by decide) ?_
  refine pw_ifB_eq (tgt := 24) dX5_isRunning_5 (by decide) (fun c_5 => (has_not hA ha (by omega) c_5).elim) (fun c_5 => ?_)
  refine pw_aload_n dX5_isRunning_8 rfl rfl ?_
  refine pw_getR (x := (p + 1)) dX5_isRunning_9 fd_RX5_11 (by decide) (pl_k h) rfl (pl_rA h) ?_
  refine pw_iload_n dX5_isRunning_12 rfl rfl ?_
  refine pw_aaldN (j := a) (x := (p + 5 + a)) dX5_isRunning_13 (pl_kA h) (by omega) (by decide) (by decide) (pl_eA h (by omega)) ?_
  refine pw_getI dX5_isRunning_14 fd_RX5_94 (by decide) (pl_oA h (by omega)) rfl ?_
  refine pw_if_eq (tgt := 24) dX5_isRunning_17 (by decide) (fun c_17 => ?_) (fun c_17 => ?_)
  · refine pw_iconst (v := 0) dX5_isRunning_24 (by decide) ?_
    exact pw_zret dX5_isRunning_25 rfl (by first | rfl | decide) ⟨b_f (by simp [not_true, c_17]), rfl, rfl, rfl⟩
  · refine pw_iconst (v := 1) dX5_isRunning_20 (by decide) ?_
    refine pw_goto (tgt := 25) dX5_isRunning_21 (by decide) ?_
    exact pw_zret dX5_isRunning_25 rfl (by first | rfl | decide) ⟨b_t (by simp [not_true, c_17]), rfl, rfl, rfl⟩

set_option maxRecDepth 4000 in
theorem sp_canServe {σ : pT} {I : pI} {F : pF} {p nC n c t : Nat} (h : isPl σ p) (hn : I p 6 = nI n) (hn4 : n ≤ 24) (hc5 : c < 5) (ht : t < n) : PE yX5_canServe cX5_canServe mX5_canServe [.ref p, .int (nI c), .ref (p + 18 + t)] σ I F (some (.int (bI (serveB I p n c t)))) I F := by
  refine PE.of oP_X5_canServe (catOK rfl) (Nat.le_of_ble_eq_true rfl) ?_
  show PW _ _ _ 0 [.ref p, .int (nI c), .ref (p + 18 + t)] [] _ _ _ _
  refine pw_aload_n dX5_canServe_0 rfl rfl ?_
  refine pw_getR (x := (p + 2)) dX5_canServe_1 fd_RX5_19 (by decide) (pl_k h) rfl (pl_rC h) ?_
  refine pw_iload_n dX5_canServe_4 rfl rfl ?_
  refine pw_aaldN (j := c) (x := (p + 13 + c)) dX5_canServe_5 (pl_kC h) (by omega) (by decide) (by decide) (pl_eC h (by omega)) ?_
  refine pw_aload_n dX5_canServe_6 rfl rfl ?_
  refine pw_getI dX5_canServe_7 fd_RX5_183 (by decide) (pl_oT h (by omega)) rfl ?_
  refine pe_callVi dX5_canServe_10 oX_X1_has lk_RX5_186 (sp_C_has (pl_oC h (by omega))) (pl_oC h (by omega)) rfl rfl (Nat.le_of_ble_eq_true rfl) (by decide) ?_
  refine pw_ifB_eq (tgt := 42) dX5_canServe_13 (by decide) (fun c_13 => ?_) (fun c_13 => ?_)
  · refine pw_iconst (v := 0) dX5_canServe_42 (by decide) ?_
    exact pw_zret dX5_canServe_43 rfl (by first | rfl | decide) ⟨b_f (by simp [serveB, i_nle, i_lt, i_le, i_nlt, c_13]), rfl, rfl, rfl⟩
  · refine pw_aload_n dX5_canServe_16 rfl rfl ?_
    refine pw_getR (x := (p + 2)) dX5_canServe_17 fd_RX5_19 (by decide) (pl_k h) rfl (pl_rC h) ?_
    refine pw_iload_n dX5_canServe_20 rfl rfl ?_
    refine pw_aaldN (j := c) (x := (p + 13 + c)) dX5_canServe_21 (pl_kC h) (by omega) (by decide) (by decide) (pl_eC h (by omega)) ?_
    refine pw_getI dX5_canServe_22 fd_RX5_189 (by decide) (pl_oC h (by omega)) rfl ?_
    refine pw_aload_n dX5_canServe_25 rfl rfl ?_
    refine pw_iload_n dX5_canServe_26 rfl rfl ?_
    refine pe_callVi dX5_canServe_27 oX_X5_busyPeople lk_RX5_192 (sp_busyC h hn hn4) (pl_k h) rfl rfl (Nat.le_of_ble_eq_true rfl) (by decide) ?_
    refine pw_isub dX5_canServe_30 ?_
    refine pw_aload_n dX5_canServe_31 rfl rfl ?_
    refine pw_getI dX5_canServe_32 fd_RX5_195 (by decide) (pl_oT h (by omega)) rfl ?_
    refine pw_icmp_lt (tgt := 42) dX5_canServe_35 (by decide) (fun c_35 => ?_) (fun c_35 => ?_)
    · refine pw_iconst (v := 0) dX5_canServe_42 (by decide) ?_
      exact pw_zret dX5_canServe_43 rfl (by first | rfl | decide) ⟨b_f (by simp [serveB, i_nle, i_lt, i_le, i_nlt, c_13, c_35]), rfl, rfl, rfl⟩
    · refine pw_iconst (v := 1) dX5_canServe_38 (by decide) ?_
      refine pw_goto (tgt := 43) dX5_canServe_39 (by decide) ?_
      exact pw_zret dX5_canServe_43 rfl (by first | rfl | decide) ⟨b_t (by simp [serveB, i_nle, i_lt, i_le, i_nlt, c_13, c_35]), rfl, rfl, rfl⟩

set_option maxRecDepth 4000 in
theorem sp_firstCrewFor {σ : pT} {I : pI} {F : pF} {p nC n t : Nat} (h : isPl σ p) (hn : I p 6 = nI n) (hn4 : n ≤ 24) (hC : I p 5 = nI nC) (hC5 : nC ≤ 5) (ht : t < n) : PE yX5_firstCrewFor cX5_firstCrewFor mX5_firstCrewFor [.ref p, .int (nI t)] σ I F (some (.int (crewC I p nC n t))) I F := by
  refine PE.of oP_X5_firstCrewFor (catOK rfl) (Nat.le_of_ble_eq_true rfl) ?_
  show PW _ _ _ 0 [.ref p, .int (nI t), pJ] [] _ _ _ _
  have L25 : ∀ k, k ≤ nC → fstT (fun c => serveB I p n c t) (nC - k) k = crewC I p nC n t → PW cX5_firstCrewFor mX5_firstCrewFor (fM (qE (some (.int (crewC I p nC n t))) σ I F)) 25 [.ref p, .int (nI t), .int (nI k)] [] σ I F (0, 0) := by
    refine dn (fun k => fstT (fun c => serveB I p n c t) (nC - k) k = crewC I p nC n t → PW cX5_firstCrewFor mX5_firstCrewFor (fM (qE (some (.int (crewC I p nC n t))) σ I F)) 25 [.ref p, .int (nI t), .int (nI k)] [] σ I F (0, 0)) nC ?_ ?_
    · intro hx
      refine pw_iload_n dX5_firstCrewFor_25 rfl rfl ?_
      refine pw_aload_n dX5_firstCrewFor_26 rfl rfl ?_
      refine pw_getI dX5_firstCrewFor_27 fd_RX5_37 (by decide) (pl_k h) rfl ?_
      refine pw_icmp_ge (tgt := 55) dX5_firstCrewFor_30 (by decide) (fun c_30 => ?_) (fun c_30 => absurd (k_ge hC) c_30)
      refine pw_bipush (v := (-5)) dX5_firstCrewFor_55 (by decide) ?_
      exact pw_iret dX5_firstCrewFor_57 rfl ⟨by rw [fst_0] at hx; rw [← hx], rfl, rfl, rfl⟩
    · intro k hk ih
      intro hx
      refine pw_iload_n dX5_firstCrewFor_25 rfl rfl ?_
      refine pw_aload_n dX5_firstCrewFor_26 rfl rfl ?_
      refine pw_getI dX5_firstCrewFor_27 fd_RX5_37 (by decide) (pl_k h) rfl ?_
      refine pw_icmp_ge (tgt := 55) dX5_firstCrewFor_30 (by decide) (fun c_30 => absurd c_30 (k_lt hC hk (by omega))) (fun c_30 => ?_)
      refine pw_aload_n dX5_firstCrewFor_33 rfl rfl ?_
      refine pw_iload_n dX5_firstCrewFor_34 rfl rfl ?_
      refine pw_aload_n dX5_firstCrewFor_35 rfl rfl ?_
      refine pw_getR (x := (p + 3)) dX5_firstCrewFor_36 fd_RX5_25 (by decide) (pl_k h) rfl (pl_rT h) ?_
      refine pw_iload_n dX5_firstCrewFor_39 rfl rfl ?_
      refine pw_aaldN (j := t) (x := (p + 18 + t)) dX5_firstCrewFor_40 (pl_kT h) (by omega) (by decide) (by decide) (pl_eT h (by omega)) ?_
      refine pe_callVi dX5_firstCrewFor_41 oX_X5_canServe lk_RX5_117 (sp_canServe (nC := nC) h hn hn4 (by omega) ht) (pl_k h) rfl rfl (Nat.le_of_ble_eq_true rfl) (by decide) ?_
      refine pw_ifB_eq (tgt := 49) dX5_firstCrewFor_44 (by decide) (fun c_44 => ?_) (fun c_44 => ?_)
      · refine pw_iinc (v := nI (k + 1)) dX5_firstCrewFor_49 rfl (nI_add _ _) rfl ?_
        refine pw_goto (tgt := 25) dX5_firstCrewFor_52 (by decide) ?_
        rw [fst_f hk c_44] at hx
        exact ih hx
      · refine pw_iload_n dX5_firstCrewFor_47 rfl rfl ?_
        exact pw_iret dX5_firstCrewFor_48 rfl ⟨by rw [fst_t hk c_44] at hx; rw [← hx], rfl, rfl, rfl⟩
  refine pw_aload_n dX5_firstCrewFor_0 rfl rfl ?_
  refine pw_iload_n dX5_firstCrewFor_1 rfl rfl ?_
  refine pe_callVi dX5_firstCrewFor_2 oX_X5_hasTask lk_RX5_102 (sp_hasTask h) (pl_k h) rfl rfl (Nat.le_of_ble_eq_true rfl) (by decide) ?_
  refine pw_ifB_eq (tgt := 20) dX5_firstCrewFor_5 (by decide) (fun c_5 => (has_not hn ht (by omega) c_5).elim) (fun c_5 => ?_)
  refine pw_aload_n dX5_firstCrewFor_8 rfl rfl ?_
  refine pw_getR (x := (p + 3)) dX5_firstCrewFor_9 fd_RX5_25 (by decide) (pl_k h) rfl (pl_rT h) ?_
  refine pw_iload_n dX5_firstCrewFor_12 rfl rfl ?_
  refine pw_aaldN (j := t) (x := (p + 18 + t)) dX5_firstCrewFor_13 (pl_kT h) (by omega) (by decide) (by decide) (pl_eT h (by omega)) ?_
  refine pw_getI dX5_firstCrewFor_14 fd_RX5_108 (by decide) (pl_oT h (by omega)) rfl ?_
  refine pw_if_eq (tgt := 23) dX5_firstCrewFor_17 (by decide) (fun c_17 => ?_) (fun c_17 => ?_)
  · refine pw_iconst (v := 0) dX5_firstCrewFor_23 (by decide) ?_
    refine pw_istore_n dX5_firstCrewFor_24 rfl (by decide) rfl ?_
    exact L25 0 (Nat.zero_le _) (by rw [crewC, if_pos c_17]; rfl)
  · refine pw_bipush (v := (-5)) dX5_firstCrewFor_20 (by decide) ?_
    exact pw_iret dX5_firstCrewFor_22 rfl ⟨by rw [crewC, if_neg c_17], rfl, rfl, rfl⟩

set_option maxRecDepth 4000 in
theorem sp_barrierOf {σ : pT} {I : pI} {F : pF} {p nA n t kt at_ : Nat} (h : isPl σ p) (hn : I p 6 = nI n) (hn4 : n ≤ 24) (hA : I p 4 = nI nA) (hA8 : nA ≤ 8) (hkd : I (p + 18 + t) 3 = nI kt) (hk5 : kt < 5) (hat : I (p + 18 + t) 0 = nI at_) (haA : at_ < nA) (ht : t < n) : PE yX5_barrierOf cX5_barrierOf mX5_barrierOf [.ref p, .int (nI t)] σ I F (some (.int (barrC I p n t kt at_))) I F := by
  refine PE.of oP_X5_barrierOf (catOK rfl) (Nat.le_of_ble_eq_true rfl) ?_
  show PW _ _ _ 0 [.ref p, .int (nI t), pJ, pJ, pJ] [] _ _ _ _
  have L33 : ∀ k, k ≤ n → ∀ w : Value, fstT (barP I p kt at_) (n - k) k = barrC I p n t kt at_ → PW cX5_barrierOf mX5_barrierOf (fM (qE (some (.int (barrC I p n t kt at_))) σ I F)) 33 [.ref p, .int (nI t), .ref (p + 18 + t), .int (nI k), w] [] σ I F (0, 0) := by
    refine dn (fun k => ∀ w : Value, fstT (barP I p kt at_) (n - k) k = barrC I p n t kt at_ → PW cX5_barrierOf mX5_barrierOf (fM (qE (some (.int (barrC I p n t kt at_))) σ I F)) 33 [.ref p, .int (nI t), .ref (p + 18 + t), .int (nI k), w] [] σ I F (0, 0)) n ?_ ?_
    · intro w hx
      refine pw_iload_n dX5_barrierOf_33 rfl rfl ?_
      refine pw_aload_n dX5_barrierOf_34 rfl rfl ?_
      refine pw_getI dX5_barrierOf_35 fd_RX5_40 (by decide) (pl_k h) rfl ?_
      refine pw_icmp_ge (tgt := 98) dX5_barrierOf_38 (by decide) (fun c_38 => ?_) (fun c_38 => absurd (k_ge hn) c_38)
      refine pw_bipush (v := (-5)) dX5_barrierOf_98 (by decide) ?_
      exact pw_iret dX5_barrierOf_100 rfl ⟨by rw [fst_0] at hx; rw [← hx], rfl, rfl, rfl⟩
    · intro k hk ih
      intro w hx
      refine pw_iload_n dX5_barrierOf_33 rfl rfl ?_
      refine pw_aload_n dX5_barrierOf_34 rfl rfl ?_
      refine pw_getI dX5_barrierOf_35 fd_RX5_40 (by decide) (pl_k h) rfl ?_
      refine pw_icmp_ge (tgt := 98) dX5_barrierOf_38 (by decide) (fun c_38 => absurd c_38 (k_lt hn hk (by omega))) (fun c_38 => ?_)
      refine pw_aload_n dX5_barrierOf_41 rfl rfl ?_
      refine pw_getR (x := (p + 3)) dX5_barrierOf_42 fd_RX5_25 (by decide) (pl_k h) rfl (pl_rT h) ?_
      refine pw_iload_n dX5_barrierOf_45 rfl rfl ?_
      refine pw_aaldN (j := k) (x := (p + 18 + k)) dX5_barrierOf_46 (pl_kT h) (by omega) (by decide) (by decide) (pl_eT h (by omega)) ?_
      refine pw_astore dX5_barrierOf_47 (by decide) rfl ?_
      refine pw_aload dX5_barrierOf_49 rfl ?_
      refine pw_getI dX5_barrierOf_51 fd_RX5_108 (by decide) (pl_oT h (by omega)) rfl ?_
      refine pw_iconst (v := 2) dX5_barrierOf_54 (by decide) ?_
      refine pw_icmp_ne (tgt := 92) dX5_barrierOf_55 (by decide) (fun c_55 => ?_) (fun c_55 => ?_)
      · refine pw_iinc (v := nI (k + 1)) dX5_barrierOf_92 rfl (nI_add _ _) rfl ?_
        refine pw_goto (tgt := 33) dX5_barrierOf_95 (by decide) ?_
        have hP : (barP I p kt at_) k = false := by simp [barP, c_55]
        rw [fst_f hk hP] at hx
        exact ih _ hx
      · refine pw_aload_n dX5_barrierOf_58 rfl rfl ?_
        refine pw_aload_n dX5_barrierOf_59 rfl rfl ?_
        refine pw_getI dX5_barrierOf_60 fd_RX5_177 (by decide) (pl_oT h (by omega)) rfl ?_
        rw [hkd]
        refine pw_aload dX5_barrierOf_63 rfl ?_
        refine pw_getI dX5_barrierOf_65 fd_RX5_177 (by decide) (pl_oT h (by omega)) rfl ?_
        refine pe_callVi dX5_barrierOf_68 oX_X5_doBar lk_RX5_83 (sp_doBar h (by omega)) (pl_k h) rfl rfl (Nat.le_of_ble_eq_true rfl) (by decide) ?_
        refine pw_ifB_eq (tgt := 92) dX5_barrierOf_71 (by decide) (fun c_71 => ?_) (fun c_71 => ?_)
        · refine pw_iinc (v := nI (k + 1)) dX5_barrierOf_92 rfl (nI_add _ _) rfl ?_
          refine pw_goto (tgt := 33) dX5_barrierOf_95 (by decide) ?_
          have hP : (barP I p kt at_) k = false := by simp [barP, c_55, c_71]
          rw [fst_f hk hP] at hx
          exact ih _ hx
        · refine pw_aload_n dX5_barrierOf_74 rfl rfl ?_
          refine pw_aload_n dX5_barrierOf_75 rfl rfl ?_
          refine pw_getI dX5_barrierOf_76 fd_RX5_111 (by decide) (pl_oT h (by omega)) rfl ?_
          rw [hat]
          refine pw_aload dX5_barrierOf_79 rfl ?_
          refine pw_getI dX5_barrierOf_81 fd_RX5_111 (by decide) (pl_oT h (by omega)) rfl ?_
          refine pe_callVi dX5_barrierOf_84 oX_X5_areNear lk_RX5_180 (sp_areNear h hA hA8 (by omega)) (pl_k h) rfl rfl (Nat.le_of_ble_eq_true rfl) (by decide) ?_
          refine pw_ifB_eq (tgt := 92) dX5_barrierOf_87 (by decide) (fun c_87 => ?_) (fun c_87 => ?_)
          · refine pw_iinc (v := nI (k + 1)) dX5_barrierOf_92 rfl (nI_add _ _) rfl ?_
            refine pw_goto (tgt := 33) dX5_barrierOf_95 (by decide) ?_
            have hP : (barP I p kt at_) k = false := by simp [barP, c_55, c_71, c_87]
            rw [fst_f hk hP] at hx
            exact ih _ hx
          · refine pw_iload_n dX5_barrierOf_90 rfl rfl ?_
            exact pw_iret dX5_barrierOf_91 rfl ⟨by rw [fst_t hk (by simp [barP, c_55, c_71, c_87])] at hx; rw [← hx], rfl, rfl, rfl⟩
  refine pw_aload_n dX5_barrierOf_0 rfl rfl ?_
  refine pw_iload_n dX5_barrierOf_1 rfl rfl ?_
  refine pe_callVi dX5_barrierOf_2 oX_X5_hasTask lk_RX5_102 (sp_hasTask h) (pl_k h) rfl rfl (Nat.le_of_ble_eq_true rfl) (by decide) ?_
  refine pw_ifB_eq (tgt := 21) dX5_barrierOf_5 (by decide) (fun c_5 => (has_not hn ht (by omega) c_5).elim) (fun c_5 => ?_)
  refine pw_aload_n dX5_barrierOf_8 rfl rfl ?_
  refine pw_getR (x := (p + 3)) dX5_barrierOf_9 fd_RX5_25 (by decide) (pl_k h) rfl (pl_rT h) ?_
  refine pw_iload_n dX5_barrierOf_12 rfl rfl ?_
  refine pw_aaldN (j := t) (x := (p + 18 + t)) dX5_barrierOf_13 (pl_kT h) (by omega) (by decide) (by decide) (pl_eT h (by omega)) ?_
  refine pw_getI dX5_barrierOf_14 fd_RX5_108 (by decide) (pl_oT h (by omega)) rfl ?_
  refine pw_iconst (v := 2) dX5_barrierOf_17 (by decide) ?_
  refine pw_icmp_ne (tgt := 24) dX5_barrierOf_18 (by decide) (fun c_18 => ?_) (fun c_18 => ?_)
  · refine pw_aload_n dX5_barrierOf_24 rfl rfl ?_
    refine pw_getR (x := (p + 3)) dX5_barrierOf_25 fd_RX5_25 (by decide) (pl_k h) rfl (pl_rT h) ?_
    refine pw_iload_n dX5_barrierOf_28 rfl rfl ?_
    refine pw_aaldN (j := t) (x := (p + 18 + t)) dX5_barrierOf_29 (pl_kT h) (by omega) (by decide) (by decide) (pl_eT h (by omega)) ?_
    refine pw_astore_n dX5_barrierOf_30 rfl (by decide) rfl ?_
    refine pw_iconst (v := 0) dX5_barrierOf_31 (by decide) ?_
    refine pw_istore_n dX5_barrierOf_32 rfl (by decide) rfl ?_
    exact L33 0 (Nat.zero_le _) _ (by rw [barrC, if_neg c_18]; rfl)
  · refine pw_bipush (v := (-5)) dX5_barrierOf_21 (by decide) ?_
    exact pw_iret dX5_barrierOf_23 rfl ⟨by rw [barrC, if_pos c_18], rfl, rfl, rfl⟩

set_option maxRecDepth 4000 in
theorem sp_reasonAgainst {σ : pT} {I : pI} {F : pF} {p nA n t kt at_ : Nat} (h : isPl σ p) (hn : I p 6 = nI n) (hn4 : n ≤ 24) (hA : I p 4 = nI nA) (hA8 : nA ≤ 8) (hkd : I (p + 18 + t) 3 = nI kt) (hk5 : kt < 5) (hat : I (p + 18 + t) 0 = nI at_) (haA : at_ < nA) (ht : t < n) : PE yX5_reasonAgainst cX5_reasonAgainst mX5_reasonAgainst [.ref p, .int (nI t)] σ I F (some (.int (reasC I p n t kt at_))) I F := by
  refine PE.of oP_X5_reasonAgainst (catOK rfl) (Nat.le_of_ble_eq_true rfl) ?_
  show PW _ _ _ 0 [.ref p, .int (nI t), pJ] [] _ _ _ _
  refine pw_aload_n dX5_reasonAgainst_0 rfl rfl ?_
  refine pw_iload_n dX5_reasonAgainst_1 rfl rfl ?_
  refine pe_callVi dX5_reasonAgainst_2 oX_X5_hasTask lk_RX5_102 (sp_hasTask h) (pl_k h) rfl rfl (Nat.le_of_ble_eq_true rfl) (by decide) ?_
  refine pw_ifB_ne (tgt := 10) dX5_reasonAgainst_5 (by decide) (fun c_5 => ?_) (fun c_5 => (has_not hn ht (by omega) c_5).elim)
  refine pw_aload_n dX5_reasonAgainst_10 rfl rfl ?_
  refine pw_getR (x := (p + 3)) dX5_reasonAgainst_11 fd_RX5_25 (by decide) (pl_k h) rfl (pl_rT h) ?_
  refine pw_iload_n dX5_reasonAgainst_14 rfl rfl ?_
  refine pw_aaldN (j := t) (x := (p + 18 + t)) dX5_reasonAgainst_15 (pl_kT h) (by omega) (by decide) (by decide) (pl_eT h (by omega)) ?_
  refine pw_astore_n dX5_reasonAgainst_16 rfl (by decide) rfl ?_
  refine pw_aload_n dX5_reasonAgainst_17 rfl rfl ?_
  refine pw_getI dX5_reasonAgainst_18 fd_RX5_108 (by decide) (pl_oT h (by omega)) rfl ?_
  refine pw_iconst (v := 1) dX5_reasonAgainst_21 (by decide) ?_
  refine pw_icmp_eq (tgt := 27) dX5_reasonAgainst_22 (by decide) (fun c_22 => ?_) (fun c_22 => ?_)
  · refine pw_aload_n dX5_reasonAgainst_27 rfl rfl ?_
    refine pw_getI dX5_reasonAgainst_28 fd_RX5_43 (by decide) (pl_k h) rfl ?_
    refine pw_aload_n dX5_reasonAgainst_31 rfl rfl ?_
    refine pw_getI dX5_reasonAgainst_32 fd_RX5_171 (by decide) (pl_oT h (by omega)) rfl ?_
    refine pw_icmp_ge (tgt := 40) dX5_reasonAgainst_35 (by decide) (fun c_35 => ?_) (fun c_35 => ?_)
    · refine pw_aload_n dX5_reasonAgainst_40 rfl rfl ?_
      refine pw_aload_n dX5_reasonAgainst_41 rfl rfl ?_
      refine pw_getI dX5_reasonAgainst_42 fd_RX5_43 (by decide) (pl_k h) rfl ?_
      refine pe_callVi dX5_reasonAgainst_45 oX_X6_isTooLateAt lk_RX5_165 (sp_T_isTooLateAt (pl_oT h (by omega))) (pl_oT h (by omega)) rfl rfl (Nat.le_of_ble_eq_true rfl) (by decide) ?_
      refine pw_ifB_eq (tgt := 53) dX5_reasonAgainst_48 (by decide) (fun c_48 => ?_) (fun c_48 => ?_)
      · refine pw_aload_n dX5_reasonAgainst_53 rfl rfl ?_
        refine pw_iload_n dX5_reasonAgainst_54 rfl rfl ?_
        refine pe_callVi dX5_reasonAgainst_55 oX_X5_barrierOf lk_RX5_174 (sp_barrierOf h hn hn4 hA hA8 hkd hk5 hat haA ht) (pl_k h) rfl rfl (Nat.le_of_ble_eq_true rfl) (by decide) ?_
        refine pw_bipush (v := (-5)) dX5_reasonAgainst_58 (by decide) ?_
        refine pw_icmp_eq (tgt := 67) dX5_reasonAgainst_60 (by decide) (fun c_60 => ?_) (fun c_60 => ?_)
        · refine pw_iconst (v := 0) dX5_reasonAgainst_67 (by decide) ?_
          exact pw_iret dX5_reasonAgainst_68 rfl ⟨by rw [reasC, if_pos c_22, if_neg (i_nlt' c_35), if_neg (of_decide_eq_false c_48), if_pos c_60], rfl, rfl, rfl⟩
        · refine pw_iconst (v := 4) dX5_reasonAgainst_63 (by decide) ?_
          refine pw_goto (tgt := 68) dX5_reasonAgainst_64 (by decide) ?_
          exact pw_iret dX5_reasonAgainst_68 rfl ⟨by rw [reasC, if_pos c_22, if_neg (i_nlt' c_35), if_neg (of_decide_eq_false c_48), if_neg c_60], rfl, rfl, rfl⟩
      · refine pw_iconst (v := 3) dX5_reasonAgainst_51 (by decide) ?_
        exact pw_iret dX5_reasonAgainst_52 rfl ⟨by rw [reasC, if_pos c_22, if_neg (i_nlt' c_35), if_pos (of_decide_eq_true c_48)], rfl, rfl, rfl⟩
    · refine pw_iconst (v := 2) dX5_reasonAgainst_38 (by decide) ?_
      exact pw_iret dX5_reasonAgainst_39 rfl ⟨by rw [reasC, if_pos c_22, if_pos (i_lt c_35)], rfl, rfl, rfl⟩
  · refine pw_iconst (v := 1) dX5_reasonAgainst_25 (by decide) ?_
    exact pw_iret dX5_reasonAgainst_26 rfl ⟨by rw [reasC, if_neg c_22], rfl, rfl, rfl⟩

