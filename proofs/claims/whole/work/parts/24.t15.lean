/-! the model's kept states -/
/-- rows of ints and floats but some stay -/
def mFr (m : Nat) (I I' : pI) (F F' : pF) : Prop := (∀ i, i ≠ m + 4 → I' i = I i) ∧ (∀ i, i ≠ m + 5 → i ≠ m + 6 → F' i = F i)
def mKeep (m c : Nat) (I : pI) (F : pF) (I' : pI) (F' : pF) : Prop := mFr m I I' F F' ∧
  (∀ d j, j < 491 → I' (m + 4) (d * 491 + j) = if d = c then I (m + 1) j else I (m + 4) (d * 491 + j)) ∧
  (∀ d j, j < 8 → F' (m + 5) (8 * d + j) = if d = c then F (m + 2) j else F (m + 5) (8 * d + j)) ∧
  (∀ d j, j < 8 → F' (m + 6) (8 * d + j) = if d = c then F (m + 3) j else F (m + 6) (8 * d + j))
def mCopy (m a c : Nat) (I : pI) (F : pF) (I' : pI) (F' : pF) : Prop := mFr m I I' F F' ∧
  (∀ d j, j < 491 → I' (m + 4) (d * 491 + j) = if d = c then I (m + 4) (a * 491 + j) else I (m + 4) (d * 491 + j)) ∧
  (∀ d j, j < 8 → F' (m + 5) (8 * d + j) = if d = c then F (m + 5) (8 * a + j) else F (m + 5) (8 * d + j)) ∧
  (∀ d j, j < 8 → F' (m + 6) (8 * d + j) = if d = c then F (m + 6) (8 * a + j) else F (m + 6) (8 * d + j))
def mBring (m c : Nat) (I : pI) (F : pF) (I' : pI) (F' : pF) : Prop := (∀ i, i ≠ m + 1 → I' i = I i) ∧ (∀ i, i ≠ m + 2 → i ≠ m + 3 → F' i = F i) ∧
  (∀ j, j < 491 → I' (m + 1) j = I (m + 4) (c * 491 + j)) ∧ (∀ j, j < 8 → F' (m + 2) j = F (m + 5) (8 * c + j)) ∧ (∀ j, j < 8 → F' (m + 3) j = F (m + 6) (8 * c + j))
/-- on the way: so many of the row are there -/
def kpI (m c k : Nat) (g : Nat → Int32) (I I' : pI) : Prop := (∀ i, i ≠ m + 4 → I' i = I i) ∧ ∀ d j, j < 491 → I' (m + 4) (d * 491 + j) = if d = c ∧ j < k then g j else I (m + 4) (d * 491 + j)
def kpF (m c k : Nat) (g g2 : Nat → UInt32) (F F' : pF) : Prop := (∀ i, i ≠ m + 5 → i ≠ m + 6 → F' i = F i) ∧ (∀ d j, j < 8 → F' (m + 5) (8 * d + j) = if d = c ∧ j < k then g j else F (m + 5) (8 * d + j)) ∧ (∀ d j, j < 8 → F' (m + 6) (8 * d + j) = if d = c ∧ j < k then g2 j else F (m + 6) (8 * d + j))
theorem kpI_0 {m c : Nat} {g : Nat → Int32} {I : pI} : kpI m c 0 g I I := ⟨fun _ _ => rfl, fun d j hj => by simp⟩
theorem kpF_0 {m c : Nat} {g g2 : Nat → UInt32} {F : pF} : kpF m c 0 g g2 F F := ⟨fun _ _ _ => rfl, fun d j hj => by simp, fun d j hj => by simp⟩
theorem kpI_s {m c k : Nat} {g : Nat → Int32} {I I' : pI} {x : Int32} (h : kpI m c k g I I') (hk : k < 491) (hx : x = g k) : kpI m c (k + 1) g I (up2 I' (m + 4) (c * 491 + k) x) := by
  refine ⟨fun i hi => (up2_row hi).trans (h.1 i hi), fun d j hj => ?_⟩
  by_cases h1 : d * 491 + j = c * 491 + k
  · have hd : d = c := by omega
    have hjk : j = k := by omega
    subst hd; subst hjk
    rw [up2_s, if_pos ⟨rfl, by omega⟩]
    exact hx
  · rw [up2_nj h1, h.2 d j hj]
    by_cases h2 : d = c ∧ j < k
    · rw [if_pos h2, if_pos ⟨h2.1, by omega⟩]
    · rw [if_neg h2, if_neg (fun z => h2 ⟨z.1, by have h5 := z.1; subst h5; omega⟩)]
theorem kpF_s {m c k : Nat} {g g2 : Nat → UInt32} {F F' : pF} {x y : UInt32} (h : kpF m c k g g2 F F') (hk : k < 8) (hx : x = g k) (hy : y = g2 k) : kpF m c (k + 1) g g2 F (up2 (up2 F' (m + 5) (8 * c + k) x) (m + 6) (8 * c + k) y) := by
  refine ⟨fun i hi hi2 => (up2_row hi2).trans ((up2_row hi).trans (h.1 i hi hi2)), fun d j hj => ?_, fun d j hj => ?_⟩
  · rw [up2_ni (by omega)]
    by_cases h1 : 8 * d + j = 8 * c + k
    · have hd : d = c := by omega
      have hjk : j = k := by omega
      subst hd; subst hjk
      rw [up2_s, if_pos ⟨rfl, by omega⟩]
      exact hx
    · rw [up2_nj h1, h.2.1 d j hj]
      by_cases h2 : d = c ∧ j < k
      · rw [if_pos h2, if_pos ⟨h2.1, by omega⟩]
      · rw [if_neg h2, if_neg (fun z => h2 ⟨z.1, by have h5 := z.1; subst h5; omega⟩)]
  · by_cases h1 : 8 * d + j = 8 * c + k
    · have hd : d = c := by omega
      have hjk : j = k := by omega
      subst hd; subst hjk
      rw [up2_s, if_pos ⟨rfl, by omega⟩]
      exact hy
    · rw [up2_nj h1, up2_ni (by omega), h.2.2 d j hj]
      by_cases h2 : d = c ∧ j < k
      · rw [if_pos h2, if_pos ⟨h2.1, by omega⟩]
      · rw [if_neg h2, if_neg (fun z => h2 ⟨z.1, by have h5 := z.1; subst h5; omega⟩)]
theorem mKeep_of {m c : Nat} {I I' : pI} {F F' : pF} (h : kpI m c 491 (I (m + 1)) I I') (h2 : kpF m c 8 (F (m + 2)) (F (m + 3)) F F') : mKeep m c I F I' F' := by
  refine ⟨⟨h.1, h2.1⟩, fun d j hj => ?_, fun d j hj => ?_, fun d j hj => ?_⟩
  · rw [h.2 d j hj]
    simp [hj]
  · rw [h2.2.1 d j hj]
    simp [hj]
  · rw [h2.2.2 d j hj]
    simp [hj]
theorem mCopy_of {m a c : Nat} {I I' : pI} {F F' : pF} (h : kpI m c 491 (fun j => I (m + 4) (a * 491 + j)) I I') (h2 : kpF m c 8 (fun j => F (m + 5) (8 * a + j)) (fun j => F (m + 6) (8 * a + j)) F F') : mCopy m a c I F I' F' := by
  refine ⟨⟨h.1, h2.1⟩, fun d j hj => ?_, fun d j hj => ?_, fun d j hj => ?_⟩
  · rw [h.2 d j hj]
    simp [hj]
  · rw [h2.2.1 d j hj]
    simp [hj]
  · rw [h2.2.2 d j hj]
    simp [hj]
/-- what is brought back -/
def bpI (m c k : Nat) (I I' : pI) : Prop := (∀ i, i ≠ m + 1 → I' i = I i) ∧ ∀ j, j < k → I' (m + 1) j = I (m + 4) (c * 491 + j)
def bpF (m c k : Nat) (F F' : pF) : Prop := (∀ i, i ≠ m + 2 → i ≠ m + 3 → F' i = F i) ∧ (∀ j, j < k → F' (m + 2) j = F (m + 5) (8 * c + j)) ∧ (∀ j, j < k → F' (m + 3) j = F (m + 6) (8 * c + j))
theorem bpI_s {m c k : Nat} {I I' : pI} {x : Int32} (h : bpI m c k I I') (hx : x = I (m + 4) (c * 491 + k)) : bpI m c (k + 1) I (up2 I' (m + 1) k x) := by
  refine ⟨fun i hi => (up2_row hi).trans (h.1 i hi), fun j hj => ?_⟩
  by_cases h1 : j = k
  · subst h1
    rw [up2_s]
    exact hx
  · rw [up2_nj h1]
    exact h.2 j (by omega)
theorem bpF_s {m c k : Nat} {F F' : pF} {x y : UInt32} (h : bpF m c k F F') (hx : x = F (m + 5) (8 * c + k)) (hy : y = F (m + 6) (8 * c + k)) : bpF m c (k + 1) F (up2 (up2 F' (m + 2) k x) (m + 3) k y) := by
  refine ⟨fun i hi hi2 => (up2_row hi2).trans ((up2_row hi).trans (h.1 i hi hi2)), fun j hj => ?_, fun j hj => ?_⟩
  · rw [up2_ni (by omega)]
    by_cases h1 : j = k
    · subst h1
      rw [up2_s]
      exact hx
    · rw [up2_nj h1]
      exact h.2.1 j (by omega)
  · by_cases h1 : j = k
    · subst h1
      rw [up2_s]
      exact hy
    · rw [up2_nj h1, up2_ni (by omega)]
      exact h.2.2 j (by omega)

set_option maxRecDepth 4000 in
theorem sp_keeps {σ : pT} {I : pI} {F : pF} {m c : Nat} (h : isMo σ m) (hc : c < 6)  : PR yX8_keeps cX8_keeps mX8_keeps [.ref m, .int (nI c)] σ I F fun v I' F' => v = none ∧ mKeep m c I F I' F' := by
  refine PR.of oP_X8_keeps (catOK rfl) (Nat.le_of_ble_eq_true rfl) ?_
  show PW _ _ _ 0 [.ref m, .int (nI c), pJ] [] _ _ _ _
  have L35 : ∀ k, k ≤ 8 → ∀ (I' : pI) (F' : pF), kpI m c 491 (I (m + 1)) I I' → kpF m c k (F (m + 2)) (F (m + 3)) F F' → PW cX8_keeps mX8_keeps (fM (qR σ (fun v I' F' => v = none ∧ mKeep m c I F I' F'))) 35 [.ref m, .int (nI c), .int (nI k)] [] σ I' F' (0, 0) := by
    refine dn (fun k => ∀ (I' : pI) (F' : pF), kpI m c 491 (I (m + 1)) I I' → kpF m c k (F (m + 2)) (F (m + 3)) F F' → PW cX8_keeps mX8_keeps (fM (qR σ (fun v I' F' => v = none ∧ mKeep m c I F I' F'))) 35 [.ref m, .int (nI c), .int (nI k)] [] σ I' F' (0, 0)) 8 ?_ ?_
    · intro I' F' hi hf
      refine pw_iload_n dX8_keeps_35 rfl rfl ?_
      refine pw_bipush (v := 8) dX8_keeps_36 (by decide) ?_
      refine pw_icmp_ge (tgt := 81) dX8_keeps_38 (by decide) (fun c_38 => ?_) (fun c_38 => absurd (Int32.le_refl _) c_38)
      exact pw_vret dX8_keeps_81 rfl ⟨rfl, rfl, mKeep_of hi hf⟩
    · intro k hk ih
      intro I' F' hi hf
      refine pw_iload_n dX8_keeps_35 rfl rfl ?_
      refine pw_bipush (v := 8) dX8_keeps_36 (by decide) ?_
      refine pw_icmp_ge (tgt := 81) dX8_keeps_38 (by decide) (fun c_38 => absurd c_38 (nI_ge (b := 8) (by omega) (by decide))) (fun c_38 => ?_)
      refine pw_aload_n dX8_keeps_41 rfl rfl ?_
      refine pw_getR (x := (m + 5)) dX8_keeps_42 fd_RX8_23 (by decide) (mo_k h) rfl (mo_r5 h) ?_
      refine pw_bipush (v := 8) dX8_keeps_45 (by decide) ?_
      refine pw_iload_n dX8_keeps_47 rfl rfl ?_
      refine pw_imul dX8_keeps_48 ?_
      rw [show (8 * nI c : Int32) = nI (8 * c) from pk_mul _ _]
      refine pw_iload_n dX8_keeps_49 rfl rfl ?_
      refine pw_iadd dX8_keeps_50 ?_
      rw [show (nI (8 * c) + nI k : Int32) = nI ((8 * c) + k) from nI_add _ _]
      refine pw_aload_n dX8_keeps_51 rfl rfl ?_
      refine pw_getR (x := (m + 2)) dX8_keeps_52 fd_RX8_13 (by decide) (mo_k h) rfl (mo_r2 h) ?_
      refine pw_iload_n dX8_keeps_55 rfl rfl ?_
      refine pw_faldN (j := k) dX8_keeps_56 (mo_k2 h) (by omega) (by decide) ?_
      refine pw_fastN (j := ((8 * c) + k)) dX8_keeps_57 (mo_k5 h) (by omega) (by decide) ?_
      refine pw_aload_n dX8_keeps_58 rfl rfl ?_
      refine pw_getR (x := (m + 6)) dX8_keeps_59 fd_RX8_26 (by decide) (mo_k h) rfl (mo_r6 h) ?_
      refine pw_bipush (v := 8) dX8_keeps_62 (by decide) ?_
      refine pw_iload_n dX8_keeps_64 rfl rfl ?_
      refine pw_imul dX8_keeps_65 ?_
      rw [show (8 * nI c : Int32) = nI (8 * c) from pk_mul _ _]
      refine pw_iload_n dX8_keeps_66 rfl rfl ?_
      refine pw_iadd dX8_keeps_67 ?_
      rw [show (nI (8 * c) + nI k : Int32) = nI ((8 * c) + k) from nI_add _ _]
      refine pw_aload_n dX8_keeps_68 rfl rfl ?_
      refine pw_getR (x := (m + 3)) dX8_keeps_69 fd_RX8_17 (by decide) (mo_k h) rfl (mo_r3 h) ?_
      refine pw_iload_n dX8_keeps_72 rfl rfl ?_
      refine pw_faldN (j := k) dX8_keeps_73 (mo_k3 h) (by omega) (by decide) ?_
      refine pw_fastN (j := ((8 * c) + k)) dX8_keeps_74 (mo_k6 h) (by omega) (by decide) ?_
      refine pw_iinc (v := nI (k + 1)) dX8_keeps_75 rfl (nI_add _ _) rfl ?_
      refine pw_goto (tgt := 35) dX8_keeps_78 (by decide) ?_
      exact ih _ _ hi (kpF_s hf hk (congrFun (hf.1 (m + 2) (by omega) (by omega)) k) ((up2_ni (by omega)).trans (congrFun (hf.1 (m + 3) (by omega) (by omega)) k)))
  have L2 : ∀ k, k ≤ 491 → ∀ (I' : pI), kpI m c k (I (m + 1)) I I' → PW cX8_keeps mX8_keeps (fM (qR σ (fun v I' F' => v = none ∧ mKeep m c I F I' F'))) 2 [.ref m, .int (nI c), .int (nI k)] [] σ I' F (0, 0) := by
    refine dn (fun k => ∀ (I' : pI), kpI m c k (I (m + 1)) I I' → PW cX8_keeps mX8_keeps (fM (qR σ (fun v I' F' => v = none ∧ mKeep m c I F I' F'))) 2 [.ref m, .int (nI c), .int (nI k)] [] σ I' F (0, 0)) 491 ?_ ?_
    · intro I' hi
      refine pw_iload_n dX8_keeps_2 rfl rfl ?_
      refine pw_sipush (v := 491) dX8_keeps_3 (by decide) ?_
      refine pw_icmp_ge (tgt := 33) dX8_keeps_6 (by decide) (fun c_6 => ?_) (fun c_6 => absurd (Int32.le_refl _) c_6)
      refine pw_iconst (v := 0) dX8_keeps_33 (by decide) ?_
      refine pw_istore_n dX8_keeps_34 rfl (by decide) rfl ?_
      exact L35 0 (Nat.zero_le _) _ _ hi kpF_0
    · intro k hk ih
      intro I' hi
      refine pw_iload_n dX8_keeps_2 rfl rfl ?_
      refine pw_sipush (v := 491) dX8_keeps_3 (by decide) ?_
      refine pw_icmp_ge (tgt := 33) dX8_keeps_6 (by decide) (fun c_6 => absurd c_6 (nI_ge (b := 491) (by omega) (by decide))) (fun c_6 => ?_)
      refine pw_aload_n dX8_keeps_9 rfl rfl ?_
      refine pw_getR (x := (m + 4)) dX8_keeps_10 fd_RX8_20 (by decide) (mo_k h) rfl (mo_r4 h) ?_
      refine pw_iload_n dX8_keeps_13 rfl rfl ?_
      refine pw_sipush (v := 491) dX8_keeps_14 (by decide) ?_
      refine pw_imul dX8_keeps_17 ?_
      rw [show (nI c * 491 : Int32) = nI (c * 491) from pk_mul _ _]
      refine pw_iload_n dX8_keeps_18 rfl rfl ?_
      refine pw_iadd dX8_keeps_19 ?_
      rw [show (nI (c * 491) + nI k : Int32) = nI ((c * 491) + k) from nI_add _ _]
      refine pw_aload_n dX8_keeps_20 rfl rfl ?_
      refine pw_getR (x := (m + 1)) dX8_keeps_21 fd_RX8_7 (by decide) (mo_k h) rfl (mo_r1 h) ?_
      refine pw_iload_n dX8_keeps_24 rfl rfl ?_
      refine pw_ialdN (j := k) dX8_keeps_25 (mo_k1 h) (by omega) (by decide) ?_
      refine pw_iastN (j := ((c * 491) + k)) dX8_keeps_26 (mo_k4 h) (by omega) (by decide) ?_
      refine pw_iinc (v := nI (k + 1)) dX8_keeps_27 rfl (nI_add _ _) rfl ?_
      refine pw_goto (tgt := 2) dX8_keeps_30 (by decide) ?_
      exact ih _ (kpI_s hi hk (congrFun (hi.1 (m + 1) (by omega)) k))
  refine pw_iconst (v := 0) dX8_keeps_0 (by decide) ?_
  refine pw_istore_n dX8_keeps_1 rfl (by decide) rfl ?_
  exact L2 0 (Nat.zero_le _) _ kpI_0

set_option maxRecDepth 4000 in
theorem sp_copies {σ : pT} {I : pI} {F : pF} {m a c : Nat} (h : isMo σ m) (ha : a < 6) (hc : c < 6) (hac : a ≠ c) : PR yX8_copies cX8_copies mX8_copies [.ref m, .int (nI a), .int (nI c)] σ I F fun v I' F' => v = none ∧ mCopy m a c I F I' F' := by
  refine PR.of oP_X8_copies (catOK rfl) (Nat.le_of_ble_eq_true rfl) ?_
  show PW _ _ _ 0 [.ref m, .int (nI a), .int (nI c), pJ] [] _ _ _ _
  have L41 : ∀ k, k ≤ 8 → ∀ (I' : pI) (F' : pF), kpI m c 491 (fun j => I (m + 4) (a * 491 + j)) I I' → kpF m c k (fun j => F (m + 5) (8 * a + j)) (fun j => F (m + 6) (8 * a + j)) F F' → PW cX8_copies mX8_copies (fM (qR σ (fun v I' F' => v = none ∧ mCopy m a c I F I' F'))) 41 [.ref m, .int (nI a), .int (nI c), .int (nI k)] [] σ I' F' (0, 0) := by
    refine dn (fun k => ∀ (I' : pI) (F' : pF), kpI m c 491 (fun j => I (m + 4) (a * 491 + j)) I I' → kpF m c k (fun j => F (m + 5) (8 * a + j)) (fun j => F (m + 6) (8 * a + j)) F F' → PW cX8_copies mX8_copies (fM (qR σ (fun v I' F' => v = none ∧ mCopy m a c I F I' F'))) 41 [.ref m, .int (nI a), .int (nI c), .int (nI k)] [] σ I' F' (0, 0)) 8 ?_ ?_
    · intro I' F' hi hf
      refine pw_iload_n dX8_copies_41 rfl rfl ?_
      refine pw_bipush (v := 8) dX8_copies_42 (by decide) ?_
      refine pw_icmp_ge (tgt := 97) dX8_copies_44 (by decide) (fun c_44 => ?_) (fun c_44 => absurd (Int32.le_refl _) c_44)
      exact pw_vret dX8_copies_97 rfl ⟨rfl, rfl, mCopy_of hi hf⟩
    · intro k hk ih
      intro I' F' hi hf
      refine pw_iload_n dX8_copies_41 rfl rfl ?_
      refine pw_bipush (v := 8) dX8_copies_42 (by decide) ?_
      refine pw_icmp_ge (tgt := 97) dX8_copies_44 (by decide) (fun c_44 => absurd c_44 (nI_ge (b := 8) (by omega) (by decide))) (fun c_44 => ?_)
      refine pw_aload_n dX8_copies_47 rfl rfl ?_
      refine pw_getR (x := (m + 5)) dX8_copies_48 fd_RX8_23 (by decide) (mo_k h) rfl (mo_r5 h) ?_
      refine pw_bipush (v := 8) dX8_copies_51 (by decide) ?_
      refine pw_iload_n dX8_copies_53 rfl rfl ?_
      refine pw_imul dX8_copies_54 ?_
      rw [show (8 * nI c : Int32) = nI (8 * c) from pk_mul _ _]
      refine pw_iload_n dX8_copies_55 rfl rfl ?_
      refine pw_iadd dX8_copies_56 ?_
      rw [show (nI (8 * c) + nI k : Int32) = nI ((8 * c) + k) from nI_add _ _]
      refine pw_aload_n dX8_copies_57 rfl rfl ?_
      refine pw_getR (x := (m + 5)) dX8_copies_58 fd_RX8_23 (by decide) (mo_k h) rfl (mo_r5 h) ?_
      refine pw_bipush (v := 8) dX8_copies_61 (by decide) ?_
      refine pw_iload_n dX8_copies_63 rfl rfl ?_
      refine pw_imul dX8_copies_64 ?_
      rw [show (8 * nI a : Int32) = nI (8 * a) from pk_mul _ _]
      refine pw_iload_n dX8_copies_65 rfl rfl ?_
      refine pw_iadd dX8_copies_66 ?_
      rw [show (nI (8 * a) + nI k : Int32) = nI ((8 * a) + k) from nI_add _ _]
      refine pw_faldN (j := ((8 * a) + k)) dX8_copies_67 (mo_k5 h) (by omega) (by decide) ?_
      refine pw_fastN (j := ((8 * c) + k)) dX8_copies_68 (mo_k5 h) (by omega) (by decide) ?_
      refine pw_aload_n dX8_copies_69 rfl rfl ?_
      refine pw_getR (x := (m + 6)) dX8_copies_70 fd_RX8_26 (by decide) (mo_k h) rfl (mo_r6 h) ?_
      refine pw_bipush (v := 8) dX8_copies_73 (by decide) ?_
      refine pw_iload_n dX8_copies_75 rfl rfl ?_
      refine pw_imul dX8_copies_76 ?_
      rw [show (8 * nI c : Int32) = nI (8 * c) from pk_mul _ _]
      refine pw_iload_n dX8_copies_77 rfl rfl ?_
      refine pw_iadd dX8_copies_78 ?_
      rw [show (nI (8 * c) + nI k : Int32) = nI ((8 * c) + k) from nI_add _ _]
      refine pw_aload_n dX8_copies_79 rfl rfl ?_
      refine pw_getR (x := (m + 6)) dX8_copies_80 fd_RX8_26 (by decide) (mo_k h) rfl (mo_r6 h) ?_
      refine pw_bipush (v := 8) dX8_copies_83 (by decide) ?_
      refine pw_iload_n dX8_copies_85 rfl rfl ?_
      refine pw_imul dX8_copies_86 ?_
      rw [show (8 * nI a : Int32) = nI (8 * a) from pk_mul _ _]
      refine pw_iload_n dX8_copies_87 rfl rfl ?_
      refine pw_iadd dX8_copies_88 ?_
      rw [show (nI (8 * a) + nI k : Int32) = nI ((8 * a) + k) from nI_add _ _]
      refine pw_faldN (j := ((8 * a) + k)) dX8_copies_89 (mo_k6 h) (by omega) (by decide) ?_
      refine pw_fastN (j := ((8 * c) + k)) dX8_copies_90 (mo_k6 h) (by omega) (by decide) ?_
      refine pw_iinc (v := nI (k + 1)) dX8_copies_91 rfl (nI_add _ _) rfl ?_
      refine pw_goto (tgt := 41) dX8_copies_94 (by decide) ?_
      exact ih _ _ hi (kpF_s hf hk (by rw [hf.2.1 a k hk, if_neg (fun z => hac z.1)]) (by rw [up2_ni (by omega), hf.2.2 a k hk, if_neg (fun z => hac z.1)]))
  have L2 : ∀ k, k ≤ 491 → ∀ (I' : pI), kpI m c k (fun j => I (m + 4) (a * 491 + j)) I I' → PW cX8_copies mX8_copies (fM (qR σ (fun v I' F' => v = none ∧ mCopy m a c I F I' F'))) 2 [.ref m, .int (nI a), .int (nI c), .int (nI k)] [] σ I' F (0, 0) := by
    refine dn (fun k => ∀ (I' : pI), kpI m c k (fun j => I (m + 4) (a * 491 + j)) I I' → PW cX8_copies mX8_copies (fM (qR σ (fun v I' F' => v = none ∧ mCopy m a c I F I' F'))) 2 [.ref m, .int (nI a), .int (nI c), .int (nI k)] [] σ I' F (0, 0)) 491 ?_ ?_
    · intro I' hi
      refine pw_iload_n dX8_copies_2 rfl rfl ?_
      refine pw_sipush (v := 491) dX8_copies_3 (by decide) ?_
      refine pw_icmp_ge (tgt := 39) dX8_copies_6 (by decide) (fun c_6 => ?_) (fun c_6 => absurd (Int32.le_refl _) c_6)
      refine pw_iconst (v := 0) dX8_copies_39 (by decide) ?_
      refine pw_istore_n dX8_copies_40 rfl (by decide) rfl ?_
      exact L41 0 (Nat.zero_le _) _ _ hi kpF_0
    · intro k hk ih
      intro I' hi
      refine pw_iload_n dX8_copies_2 rfl rfl ?_
      refine pw_sipush (v := 491) dX8_copies_3 (by decide) ?_
      refine pw_icmp_ge (tgt := 39) dX8_copies_6 (by decide) (fun c_6 => absurd c_6 (nI_ge (b := 491) (by omega) (by decide))) (fun c_6 => ?_)
      refine pw_aload_n dX8_copies_9 rfl rfl ?_
      refine pw_getR (x := (m + 4)) dX8_copies_10 fd_RX8_20 (by decide) (mo_k h) rfl (mo_r4 h) ?_
      refine pw_iload_n dX8_copies_13 rfl rfl ?_
      refine pw_sipush (v := 491) dX8_copies_14 (by decide) ?_
      refine pw_imul dX8_copies_17 ?_
      rw [show (nI c * 491 : Int32) = nI (c * 491) from pk_mul _ _]
      refine pw_iload_n dX8_copies_18 rfl rfl ?_
      refine pw_iadd dX8_copies_19 ?_
      rw [show (nI (c * 491) + nI k : Int32) = nI ((c * 491) + k) from nI_add _ _]
      refine pw_aload_n dX8_copies_20 rfl rfl ?_
      refine pw_getR (x := (m + 4)) dX8_copies_21 fd_RX8_20 (by decide) (mo_k h) rfl (mo_r4 h) ?_
      refine pw_iload_n dX8_copies_24 rfl rfl ?_
      refine pw_sipush (v := 491) dX8_copies_25 (by decide) ?_
      refine pw_imul dX8_copies_28 ?_
      rw [show (nI a * 491 : Int32) = nI (a * 491) from pk_mul _ _]
      refine pw_iload_n dX8_copies_29 rfl rfl ?_
      refine pw_iadd dX8_copies_30 ?_
      rw [show (nI (a * 491) + nI k : Int32) = nI ((a * 491) + k) from nI_add _ _]
      refine pw_ialdN (j := ((a * 491) + k)) dX8_copies_31 (mo_k4 h) (by omega) (by decide) ?_
      refine pw_iastN (j := ((c * 491) + k)) dX8_copies_32 (mo_k4 h) (by omega) (by decide) ?_
      refine pw_iinc (v := nI (k + 1)) dX8_copies_33 rfl (nI_add _ _) rfl ?_
      refine pw_goto (tgt := 2) dX8_copies_36 (by decide) ?_
      exact ih _ (kpI_s hi hk (by rw [hi.2 a k hk, if_neg (fun z => hac z.1)]))
  refine pw_iconst (v := 0) dX8_copies_0 (by decide) ?_
  refine pw_istore_n dX8_copies_1 rfl (by decide) rfl ?_
  exact L2 0 (Nat.zero_le _) _ kpI_0

set_option maxRecDepth 4000 in
theorem sp_brings {σ : pT} {I : pI} {F : pF} {m c : Nat} (h : isMo σ m) (hc : c < 6)  : PR yX8_brings cX8_brings mX8_brings [.ref m, .int (nI c)] σ I F fun v I' F' => v = none ∧ mBring m c I F I' F' := by
  refine PR.of oP_X8_brings (catOK rfl) (Nat.le_of_ble_eq_true rfl) ?_
  show PW _ _ _ 0 [.ref m, .int (nI c), pJ] [] _ _ _ _
  have L35 : ∀ k, k ≤ 8 → ∀ (I' : pI) (F' : pF), bpI m c 491 I I' → bpF m c k F F' → PW cX8_brings mX8_brings (fM (qR σ (fun v I' F' => v = none ∧ mBring m c I F I' F'))) 35 [.ref m, .int (nI c), .int (nI k)] [] σ I' F' (0, 0) := by
    refine dn (fun k => ∀ (I' : pI) (F' : pF), bpI m c 491 I I' → bpF m c k F F' → PW cX8_brings mX8_brings (fM (qR σ (fun v I' F' => v = none ∧ mBring m c I F I' F'))) 35 [.ref m, .int (nI c), .int (nI k)] [] σ I' F' (0, 0)) 8 ?_ ?_
    · intro I' F' hi hf
      refine pw_iload_n dX8_brings_35 rfl rfl ?_
      refine pw_bipush (v := 8) dX8_brings_36 (by decide) ?_
      refine pw_icmp_ge (tgt := 81) dX8_brings_38 (by decide) (fun c_38 => ?_) (fun c_38 => absurd (Int32.le_refl _) c_38)
      exact pw_vret dX8_brings_81 rfl ⟨rfl, rfl, ⟨hi.1, hf.1, hi.2, hf.2.1, hf.2.2⟩⟩
    · intro k hk ih
      intro I' F' hi hf
      refine pw_iload_n dX8_brings_35 rfl rfl ?_
      refine pw_bipush (v := 8) dX8_brings_36 (by decide) ?_
      refine pw_icmp_ge (tgt := 81) dX8_brings_38 (by decide) (fun c_38 => absurd c_38 (nI_ge (b := 8) (by omega) (by decide))) (fun c_38 => ?_)
      refine pw_aload_n dX8_brings_41 rfl rfl ?_
      refine pw_getR (x := (m + 2)) dX8_brings_42 fd_RX8_13 (by decide) (mo_k h) rfl (mo_r2 h) ?_
      refine pw_iload_n dX8_brings_45 rfl rfl ?_
      refine pw_aload_n dX8_brings_46 rfl rfl ?_
      refine pw_getR (x := (m + 5)) dX8_brings_47 fd_RX8_23 (by decide) (mo_k h) rfl (mo_r5 h) ?_
      refine pw_bipush (v := 8) dX8_brings_50 (by decide) ?_
      refine pw_iload_n dX8_brings_52 rfl rfl ?_
      refine pw_imul dX8_brings_53 ?_
      rw [show (8 * nI c : Int32) = nI (8 * c) from pk_mul _ _]
      refine pw_iload_n dX8_brings_54 rfl rfl ?_
      refine pw_iadd dX8_brings_55 ?_
      rw [show (nI (8 * c) + nI k : Int32) = nI ((8 * c) + k) from nI_add _ _]
      refine pw_faldN (j := ((8 * c) + k)) dX8_brings_56 (mo_k5 h) (by omega) (by decide) ?_
      refine pw_fastN (j := k) dX8_brings_57 (mo_k2 h) (by omega) (by decide) ?_
      refine pw_aload_n dX8_brings_58 rfl rfl ?_
      refine pw_getR (x := (m + 3)) dX8_brings_59 fd_RX8_17 (by decide) (mo_k h) rfl (mo_r3 h) ?_
      refine pw_iload_n dX8_brings_62 rfl rfl ?_
      refine pw_aload_n dX8_brings_63 rfl rfl ?_
      refine pw_getR (x := (m + 6)) dX8_brings_64 fd_RX8_26 (by decide) (mo_k h) rfl (mo_r6 h) ?_
      refine pw_bipush (v := 8) dX8_brings_67 (by decide) ?_
      refine pw_iload_n dX8_brings_69 rfl rfl ?_
      refine pw_imul dX8_brings_70 ?_
      rw [show (8 * nI c : Int32) = nI (8 * c) from pk_mul _ _]
      refine pw_iload_n dX8_brings_71 rfl rfl ?_
      refine pw_iadd dX8_brings_72 ?_
      rw [show (nI (8 * c) + nI k : Int32) = nI ((8 * c) + k) from nI_add _ _]
      refine pw_faldN (j := ((8 * c) + k)) dX8_brings_73 (mo_k6 h) (by omega) (by decide) ?_
      refine pw_fastN (j := k) dX8_brings_74 (mo_k3 h) (by omega) (by decide) ?_
      refine pw_iinc (v := nI (k + 1)) dX8_brings_75 rfl (nI_add _ _) rfl ?_
      refine pw_goto (tgt := 35) dX8_brings_78 (by decide) ?_
      exact ih _ _ hi (bpF_s hf (congrFun (hf.1 (m + 5) (by omega) (by omega)) _) ((up2_ni (by omega)).trans (congrFun (hf.1 (m + 6) (by omega) (by omega)) _)))
  have L2 : ∀ k, k ≤ 491 → ∀ (I' : pI), bpI m c k I I' → PW cX8_brings mX8_brings (fM (qR σ (fun v I' F' => v = none ∧ mBring m c I F I' F'))) 2 [.ref m, .int (nI c), .int (nI k)] [] σ I' F (0, 0) := by
    refine dn (fun k => ∀ (I' : pI), bpI m c k I I' → PW cX8_brings mX8_brings (fM (qR σ (fun v I' F' => v = none ∧ mBring m c I F I' F'))) 2 [.ref m, .int (nI c), .int (nI k)] [] σ I' F (0, 0)) 491 ?_ ?_
    · intro I' hi
      refine pw_iload_n dX8_brings_2 rfl rfl ?_
      refine pw_sipush (v := 491) dX8_brings_3 (by decide) ?_
      refine pw_icmp_ge (tgt := 33) dX8_brings_6 (by decide) (fun c_6 => ?_) (fun c_6 => absurd (Int32.le_refl _) c_6)
      refine pw_iconst (v := 0) dX8_brings_33 (by decide) ?_
      refine pw_istore_n dX8_brings_34 rfl (by decide) rfl ?_
      exact L35 0 (Nat.zero_le _) _ _ hi ⟨fun _ _ _ => rfl, fun j hj => absurd hj (Nat.not_lt_zero _), fun j hj => absurd hj (Nat.not_lt_zero _)⟩
    · intro k hk ih
      intro I' hi
      refine pw_iload_n dX8_brings_2 rfl rfl ?_
      refine pw_sipush (v := 491) dX8_brings_3 (by decide) ?_
      refine pw_icmp_ge (tgt := 33) dX8_brings_6 (by decide) (fun c_6 => absurd c_6 (nI_ge (b := 491) (by omega) (by decide))) (fun c_6 => ?_)
      refine pw_aload_n dX8_brings_9 rfl rfl ?_
      refine pw_getR (x := (m + 1)) dX8_brings_10 fd_RX8_7 (by decide) (mo_k h) rfl (mo_r1 h) ?_
      refine pw_iload_n dX8_brings_13 rfl rfl ?_
      refine pw_aload_n dX8_brings_14 rfl rfl ?_
      refine pw_getR (x := (m + 4)) dX8_brings_15 fd_RX8_20 (by decide) (mo_k h) rfl (mo_r4 h) ?_
      refine pw_iload_n dX8_brings_18 rfl rfl ?_
      refine pw_sipush (v := 491) dX8_brings_19 (by decide) ?_
      refine pw_imul dX8_brings_22 ?_
      rw [show (nI c * 491 : Int32) = nI (c * 491) from pk_mul _ _]
      refine pw_iload_n dX8_brings_23 rfl rfl ?_
      refine pw_iadd dX8_brings_24 ?_
      rw [show (nI (c * 491) + nI k : Int32) = nI ((c * 491) + k) from nI_add _ _]
      refine pw_ialdN (j := ((c * 491) + k)) dX8_brings_25 (mo_k4 h) (by omega) (by decide) ?_
      refine pw_iastN (j := k) dX8_brings_26 (mo_k1 h) (by omega) (by decide) ?_
      refine pw_iinc (v := nI (k + 1)) dX8_brings_27 rfl (nI_add _ _) rfl ?_
      refine pw_goto (tgt := 2) dX8_brings_30 (by decide) ?_
      exact ih _ (bpI_s hi (congrFun (hi.1 (m + 4) (by omega)) _))
  refine pw_iconst (v := 0) dX8_brings_0 (by decide) ?_
  refine pw_istore_n dX8_brings_1 rfl (by decide) rfl ?_
  exact L2 0 (Nat.zero_le _) _ ⟨fun _ _ => rfl, fun j hj => absurd hj (Nat.not_lt_zero _)⟩
