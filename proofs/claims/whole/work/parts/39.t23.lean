/-! the model's orders, all at once -/
theorem fol_sim {p m nA nC n : Nat} {o : Int32 × Int32 × Int32} {J : pI} {G : pF} {I : pI} {F : pF} (hp : Rp p nA nC n (J (m + 1)) (G (m + 2)) (G (m + 3)) I F) : Sim p m nA nC n (mFolE (J (m + 1)) n o.1 o.2.1 o.2.2) (folR I F p nA n o) (mFolR J G m nA n o.1 o.2.1 o.2.2) I F := by
  unfold mFolE folR mFolR
  by_cases h1 : o.1 = 104
  · rw [if_pos h1, if_pos h1, if_pos h1]
    exact hang_sim hp
  rw [if_neg h1, if_neg h1, if_neg h1]
  by_cases h2 : o.1 = 108
  · rw [if_pos h2, if_pos h2, if_pos h2]
    exact lift_sim hp
  rw [if_neg h2, if_neg h2, if_neg h2]
  by_cases h3 : o.1 = 98
  · rw [if_pos h3, if_pos h3, if_pos h3]
    exact begin_sim hp
  rw [if_neg h3, if_neg h3, if_neg h3]
  by_cases h4 : o.1 = 114
  · rw [if_pos h4, if_pos h4, if_pos h4]
    exact start_sim hp
  rw [if_neg h4, if_neg h4, if_neg h4]
  by_cases h5 : o.1 = 115
  · rw [if_pos h5, if_pos h5, if_pos h5]
    exact stop_sim hp
  rw [if_neg h5, if_neg h5, if_neg h5]
  exact pass_sim hp
/-- only the rows of the present state change -/
def mLcl (m : Nat) (I : pI) (F : pF) (I' : pI) (F' : pF) : Prop := (∀ i, i ≠ m + 1 → I' i = I i) ∧ ∀ i, i ≠ m + 2 → i ≠ m + 3 → F' i = F i
theorem mLcl_u {m k : Nat} {x : Int32} {I I' : pI} {F F' : pF} (h : mLcl m I F I' F') : mLcl m I F (up2 I' (m + 1) k x) F' := ⟨fun i hi => (up2_row hi).trans (h.1 i hi), h.2⟩
theorem mLcl_0 {m : Nat} {I : pI} {F : pF} : mLcl m I F I F := ⟨fun _ _ => rfl, fun _ _ _ => rfl⟩
theorem mLcl_h {m k : Nat} {x : UInt32} {I I' : pI} {F F' : pF} (h : mLcl m I F I' F') : mLcl m I F I' (up2 F' (m + 2) k x) := ⟨h.1, fun i h1 h2 => (up2_row h1).trans (h.2 i h1 h2)⟩
theorem mLcl_o {m k : Nat} {x : UInt32} {I I' : pI} {F F' : pF} (h : mLcl m I F I' F') : mLcl m I F I' (up2 F' (m + 3) k x) := ⟨h.1, fun i h1 h2 => (up2_row h2).trans (h.2 i h1 h2)⟩
theorem mLcl_run {m : Nat} {J I0 : pI} {F0 F : pF} (h : mLcl m I0 F0 J F) : ∀ k, mLcl m I0 F0 J (mRunN J m k F)
  | 0 => h
  | k + 1 => by
    unfold mRunN
    split
    · exact mLcl_h (mLcl_o (mLcl_run h k))
    · exact mLcl_run h k
theorem mLcl_wk {m : Nat} {I0 J : pI} {F0 F : pF} (h : mLcl m I0 F0 J F) : ∀ k, mLcl m I0 F0 (mWkN m k J F).1 (mWkN m k J F).2.1
  | 0 => h
  | k + 1 => by
    have ih := mLcl_wk h k
    rw [show mWkN m (k + 1) J F = mWk1 m k (mWkN m k J F) from rfl]
    revert ih
    generalize mWkN m k J F = W
    intro ih
    unfold mWk1
    split
    · split
      · exact mLcl_h (mLcl_u (mLcl_u ih))
      · exact mLcl_u ih
    · exact ih
theorem mLcl_sl {m : Nat} {I0 J : pI} {F0 F : pF} (h : mLcl m I0 F0 J F) : ∀ k, mLcl m I0 F0 (mSlN m k J) F
  | 0 => h
  | k + 1 => by
    have ih := mLcl_sl h k
    rw [show mSlN m (k + 1) J = mSl1 m k (mSlN m k J) from rfl]
    revert ih
    generalize mSlN m k J = W
    intro ih
    unfold mSl1
    split
    · unfold mSlipI
      split
      · exact mLcl_u ih
      · exact mLcl_u (mLcl_u ih)
    · exact ih
theorem mLcl_ps {m nA n : Nat} {I0 J : pI} {F0 F : pF} (h : mLcl m I0 F0 J F) : ∀ k, mLcl m I0 F0 (mPsN m nA n k J F).1 (mPsN m nA n k J F).2.1
  | 0 => h
  | k + 1 => by
    have ih := mLcl_ps (nA := nA) (n := n) h k
    rw [show mPsN m nA n (k + 1) J F = mHr m nA n (mPsN m nA n k J F) from rfl]
    revert ih
    generalize mPsN m nA n k J F = W
    intro ih
    exact mLcl_sl (mLcl_u (mLcl_wk (mLcl_run ih nA) n)) n
theorem mLcl_lift {m t a : Nat} {I : pI} {F : pF} : mLcl m I F (mLiftI I m t a) F := by
  unfold mLiftI
  split
  · exact mLcl_u (mLcl_u mLcl_0)
  · exact mLcl_u (mLcl_u (mLcl_u mLcl_0))
theorem mLcl_fol {m nA n : Nat} {v a b : Int32} {I : pI} {F : pF} : mLcl m I F (mFolR I F m nA n v a b).2.1 (mFolR I F m nA n v a b).2.2 := by
  unfold mFolR
  split
  · exact mLcl_u (mLcl_u (mLcl_u (mLcl_u mLcl_0)))
  split
  · exact mLcl_lift
  split
  · exact mLcl_u (mLcl_u mLcl_0)
  split
  · exact mLcl_u mLcl_0
  split
  · exact mLcl_u mLcl_0
  · exact mLcl_ps mLcl_0 _
def mFrm (m : Nat) (I : pI) (F : pF) (I' : pI) (F' : pF) : Prop := (∀ i, (i < m ∨ m + 8 ≤ i) → I' i = I i ∧ F' i = F i) ∧ I' (m + 7) = I (m + 7) ∧ I' m 7 = I m 7 ∧ I' m 9 = I m 9
def mSlc (src : Nat → Nat) (m : Nat) (I : pI) (F : pF) (I' : pI) (F' : pF) : Prop :=
  (∀ d j, d < 5 → j < 491 → I' (m + 4) (d * 491 + j) = if src d = 5 then I (m + 1) j else I (m + 4) (src d * 491 + j)) ∧
  (∀ d j, d < 5 → j < 8 → F' (m + 5) (8 * d + j) = if src d = 5 then F (m + 2) j else F (m + 5) (8 * src d + j)) ∧
  (∀ d j, d < 5 → j < 8 → F' (m + 6) (8 * d + j) = if src d = 5 then F (m + 3) j else F (m + 6) (8 * src d + j))
def mHist (m s : Nat) (I : pI) (F : pF) (I' : pI) (F' : pF) : Prop := mFrm m I F I' F' ∧ I' m 6 = nI (if s = 4 then 4 else s + 1) ∧ mSlc (rsrc s) m I F I' F'
def mBack (m : Nat) (I : pI) (F : pF) (I' : pI) (F' : pF) : Prop := mFrm m I F I' F' ∧ I' m 6 = I m 6 ∧ mSlc (fun d => d) m I F I' F' ∧ (∀ j, j < 491 → I' (m + 1) j = I (m + 1) j) ∧ (∀ j, j < 8 → F' (m + 2) j = F (m + 2) j) ∧ (∀ j, j < 8 → F' (m + 3) j = F (m + 3) j)
/-- recorded, then the present state changed -/
theorem mHist_of {m s : Nat} {I I1 I' : pI} {F F1 F' : pF} (h : mRec m s I F I1 F1) (h2 : mLcl m I1 F1 I' F') : mHist m s I F I' F' := by
  obtain ⟨a1, a2, a3, a4, a5, a6, a7⟩ := h
  obtain ⟨b1, b2⟩ := h2
  refine ⟨⟨fun i hi => ⟨(b1 i (by omega)).trans (a1 i (by omega) (by omega)), (b2 i (by omega) (by omega)).trans (a4 i (by omega) (by omega))⟩, (b1 _ (by omega)).trans (a1 _ (by omega) (by omega)), ?_, ?_⟩, ?_, ?_, ?_, ?_⟩
  · rw [b1 m (by omega)]; exact a2 7 (by decide)
  · rw [b1 m (by omega)]; exact a2 9 (by decide)
  · rw [b1 m (by omega)]; exact a3
  · intro d j hd hj
    rw [b1 _ (by omega)]; exact a5 d j hd hj
  · intro d j hd hj
    rw [b2 _ (by omega) (by omega)]; exact a6 d j hd hj
  · intro d j hd hj
    rw [b2 _ (by omega) (by omega)]; exact a7 d j hd hj
/-- in the loop: from the state put aside on -/
def mLoop (m : Nat) (I1 : pI) (F1 : pF) (I2 : pI) (F2 : pF) : Prop := (∀ i, i ≠ m → i ≠ m + 1 → I2 i = I1 i) ∧ (∀ j, j < 10 → I2 m j = I1 m j) ∧ ∀ i, i ≠ m + 2 → i ≠ m + 3 → F2 i = F1 i
theorem mLoop_0 {m : Nat} {x : Int32} {I1 : pI} {F1 : pF} : mLoop m I1 F1 (up2 I1 m 10 x) F1 := ⟨fun i h1 _ => up2_row h1, fun j hj => up2_nj (by omega), fun _ _ _ => rfl⟩
theorem mLoop_e {m : Nat} {I1 I2 I3 : pI} {F1 F2 : pF} (h : mLoop m I1 F1 I2 F2) (h2 : mEq m I2 I3) : mLoop m I1 F1 I3 F2 := ⟨fun i h3 h4 => (mEq_r h2 h3).trans (h.1 i h3 h4), fun j hj => (h2 m j (by omega)).trans (h.2.1 j hj), h.2.2⟩
theorem mLoop_r {m : Nat} {I1 I2 I3 : pI} {F1 F2 F3 : pF} (h : mLoop m I1 F1 I2 F2) (h2 : mLcl m I2 F2 I3 F3) : mLoop m I1 F1 I3 F3 := ⟨fun i h3 h4 => (h2.1 i h4).trans (h.1 i h3 h4), fun j hj => (congrFun (h2.1 m (by omega)) j).trans (h.2.1 j hj), fun i h3 h4 => (h2.2 i h3 h4).trans (h.2.2 i h3 h4)⟩
theorem mBack_of {m : Nat} {I I0 I1 I2 I' : pI} {F F1 F2 F' : pF} (h0 : mEq m I I0) (h1 : mKeep m 5 I0 F I1 F1) (h2 : mLoop m I1 F1 I2 F2) (h3 : mBring m 5 I2 F2 I' F') : mBack m I F I' F' := by
  obtain ⟨⟨a1, a2⟩, a3, a4, a5⟩ := h1
  obtain ⟨b1, b2, b3⟩ := h2
  obtain ⟨c1, c2, c3, c4, c5⟩ := h3
  have col : ∀ j, j < 10 → I' m j = I m j := fun j hj => by rw [c1 m (by omega), b2 j hj, a1 m (by omega)]; exact h0 m j (by omega)
  have i1 : I0 (m + 1) = I (m + 1) := mEq_r h0 (by omega)
  have i4 : I0 (m + 4) = I (m + 4) := mEq_r h0 (by omega)
  have k4 : I2 (m + 4) = I1 (m + 4) := b1 _ (by omega) (by omega)
  refine ⟨⟨fun i hi => ⟨?_, ?_⟩, ?_, col 7 (by decide), col 9 (by decide)⟩, col 6 (by decide), ⟨?_, ?_, ?_⟩, ?_, ?_, ?_⟩
  · rw [c1 i (by omega), b1 i (by omega) (by omega), a1 i (by omega)]; exact mEq_r h0 (by omega)
  · rw [c2 i (by omega) (by omega), b3 i (by omega) (by omega)]; exact a2 i (by omega) (by omega)
  · rw [c1 _ (by omega), b1 _ (by omega) (by omega), a1 _ (by omega)]; exact mEq_r h0 (by omega)
  · intro d j hd hj
    dsimp only
    rw [if_neg (by omega), c1 _ (by omega), k4, a3 d j hj, if_neg (by omega), i4]
  · intro d j hd hj
    dsimp only
    rw [if_neg (by omega), c2 _ (by omega) (by omega), b3 _ (by omega) (by omega), a4 d j hj, if_neg (by omega)]
  · intro d j hd hj
    dsimp only
    rw [if_neg (by omega), c2 _ (by omega) (by omega), b3 _ (by omega) (by omega), a5 d j hj, if_neg (by omega)]
  · intro j hj
    rw [c3 j hj, k4, a3 5 j hj, if_pos rfl, i1]
  · intro j hj
    rw [c4 j hj, b3 _ (by omega) (by omega), a4 5 j hj, if_pos rfl]
  · intro j hj
    rw [c5 j hj, b3 _ (by omega) (by omega), a5 5 j hj, if_pos rfl]
theorem mHist_per {m s : Nat} {I I0 I1 I2 I' : pI} {F F1 F2 F' : pF} (h0 : mEq m I I0) (h1 : mKeep m 5 I0 F I1 F1) (h2 : mLoop m I1 F1 I2 F2) (h3 : mRecT m s I2 F2 I' F') : mHist m s I F I' F' := by
  obtain ⟨⟨a1, a2⟩, a3, a4, a5⟩ := h1
  obtain ⟨b1, b2, b3⟩ := h2
  obtain ⟨c1, c2, c3, c4, c5, c6, c7⟩ := h3
  have col : ∀ j, j < 10 → I2 m j = I m j := fun j hj => by rw [b2 j hj, a1 m (by omega)]; exact h0 m j (by omega)
  have i1 : I0 (m + 1) = I (m + 1) := mEq_r h0 (by omega)
  have i4 : I0 (m + 4) = I (m + 4) := mEq_r h0 (by omega)
  have k4 : I2 (m + 4) = I1 (m + 4) := b1 _ (by omega) (by omega)
  refine ⟨⟨fun i hi => ⟨?_, ?_⟩, ?_, (c2 7 (by decide)).trans (col 7 (by decide)), (c2 9 (by decide)).trans (col 9 (by decide))⟩, c3, ?_, ?_, ?_⟩
  · rw [c1 i (by omega) (by omega), b1 i (by omega) (by omega), a1 i (by omega)]; exact mEq_r h0 (by omega)
  · rw [c4 i (by omega) (by omega), b3 i (by omega) (by omega)]; exact a2 i (by omega) (by omega)
  · rw [c1 _ (by omega) (by omega), b1 _ (by omega) (by omega), a1 _ (by omega)]; exact mEq_r h0 (by omega)
  · intro d j hd hj
    rw [c5 d j hd hj, k4, a3 _ j hj, i1, i4]
  · intro d j hd hj
    rw [c6 d j hd hj, b3 _ (by omega) (by omega), a4 _ j hj]
  · intro d j hd hj
    rw [c7 d j hd hj, b3 _ (by omega) (by omega), a5 _ j hj]
/-- what is left of the text -/
def RemL (x : Nat → Int32) (l a : Nat) (R : List (Int32 × Int32 × Int32)) : Prop := (R = [] ∧ l ≤ a) ∨ (R ≠ [] ∧ a < l ∧ ∃ nf, rdV x l nf a = (R, none))
theorem rem_step {x : Nat → Int32} {l a nf : Nat} {o : Int32 × Int32 × Int32} {R : List (Int32 × Int32 × Int32)} (hl : l ≤ 60) (ha : a < l) (h : rdV x l nf a = (o :: R, none)) : (ordV x l a).1 = true ∧ (ordV x l a).2.2 = o ∧ RemL x l ((ordV x l a).2.1 + 1) R := by
  cases nf with
  | zero => cases h
  | succ n =>
    rcases h1 : (ordV x l a).1 with _ | _
    · rw [rd_1 h1] at h
      cases h
    · by_cases h2 : l ≤ (ordV x l a).2.1
      · rw [rd_2 h1 h2] at h
        injection h with h3 h4
        injection h3 with h5 h6
        exact ⟨rfl, h5, Or.inl ⟨h6.symm, by omega⟩⟩
      · rcases h3 : sgnB x l (ordV x l a).2.1 59 with _ | _
        · rw [rd_4 h1 h2 h3] at h
          cases h
        · rw [rd_3 h1 h2 h3] at h
          injection h with h4 h5
          injection h4 with h6 h7
          refine ⟨rfl, h6, Or.inr ⟨?_, ?_, n, ?_⟩⟩
          · intro z
            rw [z] at h7
            cases n with
            | zero => cases h5
            | succ k =>
              rcases h8 : (ordV x l ((ordV x l a).2.1 + 1)).1 with _ | _
              · rw [rd_1 h8] at h5
                cases h5
              · by_cases h9 : l ≤ (ordV x l ((ordV x l a).2.1 + 1)).2.1
                · rw [rd_2 h8 h9] at h7
                  cases h7
                · rcases h10 : sgnB x l (ordV x l ((ordV x l a).2.1 + 1)).2.1 59 with _ | _
                  · rw [rd_4 h8 h9 h10] at h5
                    cases h5
                  · rw [rd_3 h8 h9 h10] at h7
                    cases h7
          · rcases Nat.lt_or_ge ((ordV x l a).2.1 + 1) l with h8 | h8
            · exact h8
            · exfalso
              cases n with
              | zero => cases h5
              | succ k =>
                rw [rd_1 (show (ordV x l ((ordV x l a).2.1 + 1)).1 = false by rw [ord_ge (by omega)])] at h5
                cases h5
          · rw [← h7, ← h5]
theorem rem_0 {x : Nat → Int32} {l : Nat} (h : (rdV x l 20 0).2 = none) : RemL x l 0 (rdV x l 20 0).1 := by
  have h1 : (ordV x l 0).1 = true := by
    rcases h2 : (ordV x l 0).1 with _ | _
    · rw [rd_1 h2] at h
      cases h
    · rfl
  refine Or.inr ⟨?_, ord_lt h1, 20, ?_⟩
  · by_cases h2 : l ≤ (ordV x l 0).2.1
    · rw [rd_2 h1 h2]
      exact fun z => by cases z
    · rcases h3 : sgnB x l (ordV x l 0).2.1 59 with _ | _
      · rw [rd_4 h1 h2 h3]
        exact fun z => by cases z
      · rw [rd_3 h1 h2 h3]
        exact fun z => by cases z
  · rw [← h]
def mPerQ (m p s l nA nC n : Nat) (Ic : pI) (Fc : pF) (I : pI) (F : pF) (v : Option Value) (I' : pI) (F' : pF) : Prop :=
  (∃ y, (rdV (I (m + 7)) l 20 0).2 = some y ∧ v = some (.int (-100 - nI y)) ∧ F' = F ∧ mEq m I I') ∨
  ((rdV (I (m + 7)) l 20 0).2 = none ∧
    ((∃ e, (folL p nA n (rdV (I (m + 7)) l 20 0).1 Ic Fc).1 = some e ∧ v = some (.int e) ∧ mBack m I F I' F') ∨
     ((folL p nA n (rdV (I (m + 7)) l 20 0).1 Ic Fc).1 = none ∧ v = some (.int (nI (rdV (I (m + 7)) l 20 0).1.length)) ∧
       Rp p nA nC n (I' (m + 1)) (F' (m + 2)) (F' (m + 3)) (folL p nA n (rdV (I (m + 7)) l 20 0).1 Ic Fc).2.1 (folL p nA n (rdV (I (m + 7)) l 20 0).1 Ic Fc).2.2 ∧ mHist m s I F I' F')))
theorem flt_n {x : Nat → Int32} {l : Nat} (hl : l ≤ 60) (h : fltV (rdV x l 20 0).2 = -5) : (rdV x l 20 0).2 = none := by
  rcases h1 : (rdV x l 20 0).2 with _ | y
  · rfl
  · rw [h1] at h
    have h2 := rd_z hl 20 0 y (by omega) h1
    have h3 : nI y = -5 := h
    have h4 := congrArg Int32.toInt h3
    rw [nI_toInt (by omega)] at h4
    have h5 : (-5 : Int32).toInt = -5 := by decide
    rw [h5] at h4
    omega
theorem flt_y {x : Nat → Int32} {l : Nat} (h : ¬ fltV (rdV x l 20 0).2 = -5) : ∃ y, (rdV x l 20 0).2 = some y := by
  rcases h1 : (rdV x l 20 0).2 with _ | y
  · rw [h1] at h
    exact absurd rfl h
  · exact ⟨y, rfl⟩
theorem Sim_0 {p m nA nC n : Nat} {E : Int32} {C M : Int32 × pI × pF} {I : pI} {F : pF} (h : Sim p m nA nC n E C M I F) (hE : E = 0) : C.1 = M.1 ∧ 0 ≤ C.1 ∧ Rp p nA nC n (M.2.1 (m + 1)) (M.2.2 (m + 2)) (M.2.2 (m + 3)) C.2.1 C.2.2 := by
  rcases h with ⟨-, h⟩ | ⟨h, -⟩
  · exact h
  · rw [hE] at h
    exact absurd h (by decide)
theorem Sim_n {p m nA nC n : Nat} {E : Int32} {C M : Int32 × pI × pF} {I : pI} {F : pF} (h : Sim p m nA nC n E C M I F) (hE : ¬ E = 0) : E < 0 ∧ C = (E, I, F) := by
  rcases h with ⟨h, -⟩ | h
  · exact absurd h hE
  · exact h

set_option maxRecDepth 4000 in
theorem sp_m_perform {σ : pT} {I : pI} {F : pF} {m p s l nA nC n : Nat} {Ic : pI} {Fc : pF} (h : isMo σ m) (hs : I m 6 = nI s) (hs4 : s ≤ 4) (hl : I m 9 = nI l) (hl6 : l ≤ 60) (hR : Rp p nA nC n (I (m + 1)) (F (m + 2)) (F (m + 3)) Ic Fc) : PR yX8_perform cX8_perform mX8_perform [.ref m] σ I F (mPerQ m p s l nA nC n Ic Fc I F) := by
  refine PR.of oP_X8_perform (catOK rfl) (Nat.le_of_ble_eq_true rfl) ?_
  show PW _ _ _ 0 [.ref m, pJ, pJ, pJ, pJ] [] _ _ _ _
  have L28 : ∀ k, k ≤ (rdV (I (m + 7)) l 20 0).1.length → ∀ (I0 I1 : pI) (F1 : pF) (I2 : pI) (F2 : pF) (Jc : pI) (Gc : pF) (a : Nat) (w3 w4 : Value), (rdV (I (m + 7)) l 20 0).2 = none → mEq m I I0 → mKeep m 5 I0 F I1 F1 → mLoop m I1 F1 I2 F2 → Rp p nA nC n (I2 (m + 1)) (F2 (m + 2)) (F2 (m + 3)) Jc Gc → I2 m 10 = nI a → a ≤ 61 → RemL (I (m + 7)) l a ((rdV (I (m + 7)) l 20 0).1.drop k) → folL p nA n (rdV (I (m + 7)) l 20 0).1 Ic Fc = folL p nA n ((rdV (I (m + 7)) l 20 0).1.drop k) Jc Gc → PW cX8_perform mX8_perform (fM (qR σ ((mPerQ m p s l nA nC n Ic Fc I F)))) 28 [.ref m, .int (fltV (rdV (I (m + 7)) l 20 0).2), .int (nI k), w3, w4] [] σ I2 F2 (0, 0) := by
    refine dn (fun k => ∀ (I0 I1 : pI) (F1 : pF) (I2 : pI) (F2 : pF) (Jc : pI) (Gc : pF) (a : Nat) (w3 w4 : Value), (rdV (I (m + 7)) l 20 0).2 = none → mEq m I I0 → mKeep m 5 I0 F I1 F1 → mLoop m I1 F1 I2 F2 → Rp p nA nC n (I2 (m + 1)) (F2 (m + 2)) (F2 (m + 3)) Jc Gc → I2 m 10 = nI a → a ≤ 61 → RemL (I (m + 7)) l a ((rdV (I (m + 7)) l 20 0).1.drop k) → folL p nA n (rdV (I (m + 7)) l 20 0).1 Ic Fc = folL p nA n ((rdV (I (m + 7)) l 20 0).1.drop k) Jc Gc → PW cX8_perform mX8_perform (fM (qR σ ((mPerQ m p s l nA nC n Ic Fc I F)))) 28 [.ref m, .int (fltV (rdV (I (m + 7)) l 20 0).2), .int (nI k), w3, w4] [] σ I2 F2 (0, 0)) (rdV (I (m + 7)) l 20 0).1.length ?_ ?_
    · intro I0 I1 F1 I2 F2 Jc Gc a w3 w4 hn0 h0 h1 h2 hRp ha ha6 hrem hx
      have hc9 : I2 m 9 = nI l := by rw [h2.2.1 9 (by decide), h1.1.1 m (by omega), h0 m 9 (by omega)]; exact hl
      have hX : I2 (m + 7) = I (m + 7) := by rw [h2.1 _ (by omega) (by omega), h1.1.1 _ (by omega)]; exact mEq_r h0 (by omega)
      have hc6 : I2 m 6 = nI s := by rw [h2.2.1 6 (by decide), h1.1.1 m (by omega), h0 m 6 (by omega)]; exact hs
      refine pw_aload_n dX8_perform_28 rfl rfl ?_
      refine pw_getI dX8_perform_29 fd_RX8_177 (by decide) (mo_k h) rfl ?_
      rw [ha]
      refine pw_aload_n dX8_perform_32 rfl rfl ?_
      refine pw_getI dX8_perform_33 fd_RX8_174 (by decide) (mo_k h) rfl ?_
      rw [hc9]
      refine pw_icmp_ge (tgt := 115) dX8_perform_36 (by decide) (fun c_36 => ?_) (fun c_36 => absurd (nI_le (by rw [List.drop_length] at hrem; rcases hrem with z | z; exact z.2; exact absurd rfl z.1) (by omega)) c_36)
      refine pw_aload_n dX8_perform_115 rfl rfl ?_
      refine pr_callV dX8_perform_116 oX_X8_recordsTrial lk_RX8_48 (sp_recordsTrial h hc6 hs4) (mo_k h) rfl rfl (Nat.le_of_ble_eq_true rfl) (by decide) (fun v I4 F4 hq => ?_)
      obtain ⟨rfl, hq4⟩ := hq
      refine pw_iload_n dX8_perform_119 rfl rfl ?_
      exact pw_iret dX8_perform_120 rfl ⟨rfl, Or.inr ⟨hn0, Or.inr ⟨by rw [hx, List.drop_length]; rfl, rfl, by rw [hx, List.drop_length, hq4.1 _ (by omega) (by omega), hq4.2.2.2.1 _ (by omega) (by omega), hq4.2.2.2.1 _ (by omega) (by omega)]; exact hRp, mHist_per h0 h1 h2 hq4⟩⟩⟩
    · intro k hk ih
      intro I0 I1 F1 I2 F2 Jc Gc a w3 w4 hn0 h0 h1 h2 hRp ha ha6 hrem hx
      have hc9 : I2 m 9 = nI l := by rw [h2.2.1 9 (by decide), h1.1.1 m (by omega), h0 m 9 (by omega)]; exact hl
      have hX : I2 (m + 7) = I (m + 7) := by rw [h2.1 _ (by omega) (by omega), h1.1.1 _ (by omega)]; exact mEq_r h0 (by omega)
      have hc6 : I2 m 6 = nI s := by rw [h2.2.1 6 (by decide), h1.1.1 m (by omega), h0 m 6 (by omega)]; exact hs
      refine pw_aload_n dX8_perform_28 rfl rfl ?_
      refine pw_getI dX8_perform_29 fd_RX8_177 (by decide) (mo_k h) rfl ?_
      rw [ha]
      refine pw_aload_n dX8_perform_32 rfl rfl ?_
      refine pw_getI dX8_perform_33 fd_RX8_174 (by decide) (mo_k h) rfl ?_
      rw [hc9]
      refine pw_icmp_ge (tgt := 115) dX8_perform_36 (by decide) (fun c_36 => absurd c_36 (nI_ge (by have hne : (rdV (I (m + 7)) l 20 0).1.drop k ≠ [] := (fun z => by have := congrArg List.length z; simp at this; omega); rcases hrem with z | z; exact absurd z.1 hne; exact z.2.1) (by omega))) (fun c_36 => ?_)
      refine pw_aload_n dX8_perform_39 rfl rfl ?_
      refine pr_callV dX8_perform_40 oX_X8_passesOrder lk_RX8_201 (sp_passesOrder (a := a) h hc9 hl6 ha ha6) (mo_k h) rfl rfl (Nat.le_of_ble_eq_true rfl) (by decide) (fun v I3 F3 hq => ?_)
      unfold poQ at hq
      rw [hX] at hq
      obtain ⟨rfl, rfl, hm3, ha3, ho3⟩ := hq
      obtain ⟨w9, hw9⟩ : ∃ w9, (rdV (I (m + 7)) l 20 0).1[k]? = some w9 := ⟨_, List.getElem?_eq_getElem hk⟩
      have hdrop : (rdV (I (m + 7)) l 20 0).1.drop k = w9 :: (rdV (I (m + 7)) l 20 0).1.drop (k + 1) := by
        have h8 := List.getElem?_eq_some_iff.mp hw9
        rw [← h8.2]
        exact List.drop_eq_getElem_cons h8.1
      rw [hdrop] at hrem
      obtain ⟨nf, hnf⟩ := hrem.elim (fun z => absurd z.1 (by simp)) (fun z => z.2.2)
      obtain ⟨ho1, ho2, hrem2⟩ := rem_step hl6 (by rcases hrem with z | z; exact absurd z.1 (by simp); exact z.2.1) hnf
      obtain ⟨p1, p2, p3⟩ := ho3 ho1
      rw [ho2] at p1 p2 p3
      have e31 : I3 (m + 1) = I2 (m + 1) := mEq_r hm3 (by omega)
      have hRp3 : Rp p nA nC n (I3 (m + 1)) (F3 (m + 2)) (F3 (m + 3)) Jc Gc := by rw [e31]; exact hRp
      have hsim := fol_sim (o := w9) hRp3
      have hfit := Rep_fit hRp3.1
      have hb60 := ord_le (x := I (m + 7)) (a := a) hl6 (by rcases hrem with z | z; exact absurd z.1 (by simp); omega)
      refine pw_istore_n dX8_perform_43 rfl (by decide) rfl ?_
      refine pw_aload_n dX8_perform_44 rfl rfl ?_
      refine pe_callVi dX8_perform_45 oX_X8_orderError lk_RX8_208 (sp_orderError h hfit ⟨p1, p2, p3⟩) (mo_k h) rfl rfl (Nat.le_of_ble_eq_true rfl) (by decide) ?_
      refine pw_istore dX8_perform_48 (by decide) rfl ?_
      refine pw_iload dX8_perform_50 rfl ?_
      refine pw_if_ne (tgt := 73) dX8_perform_52 (by decide) (fun c_52 => ?_) (fun c_52 => ?_)
      · refine pw_iload dX8_perform_73 rfl ?_
        refine pw_bipush (v := (-5)) dX8_perform_75 (by decide) ?_
        refine pw_icmp_ne (tgt := 86) dX8_perform_77 (by decide) (fun c_77 => ?_) (fun c_77 => ?_)
        · refine pw_aload_n dX8_perform_86 rfl rfl ?_
          refine pw_iconst (v := 5) dX8_perform_87 (by decide) ?_
          refine pr_callV dX8_perform_88 oX_X8_brings lk_RX8_51 (sp_brings (c := 5) h (by omega)) (mo_k h) rfl rfl (Nat.le_of_ble_eq_true rfl) (by decide) (fun v I4 F4 hq => ?_)
          obtain ⟨rfl, hq4⟩ := hq
          refine pw_iload dX8_perform_91 rfl ?_
          exact pw_iret dX8_perform_93 rfl ⟨rfl, Or.inr ⟨hn0, Or.inl ⟨_, by rw [hx, hdrop, fol_t (by rw [(Sim_n hsim c_52).2]; exact (Sim_n hsim c_52).1) (by rw [(Sim_n hsim c_52).2]; exact c_77)], by rw [(Sim_n hsim c_52).2], mBack_of h0 h1 (mLoop_e h2 hm3) hq4⟩⟩⟩
        · refine pw_iinc (v := nI (k + 1)) dX8_perform_80 rfl (nI_add _ _) rfl ?_
          refine pw_goto (tgt := 94) dX8_perform_83 (by decide) ?_
          refine pw_aload_n dX8_perform_94 rfl rfl ?_
          refine pw_dup dX8_perform_95 rfl ?_
          refine pw_getI dX8_perform_96 fd_RX8_177 (by decide) (mo_k h) rfl ?_
          rw [ha3]
          refine pw_iload_n dX8_perform_99 rfl rfl ?_
          refine pw_ifB_eq (tgt := 107) dX8_perform_100 (by decide) (fun c_100 => absurd (ho1.symm.trans c_100) (by decide)) (fun c_100 => ?_)
          refine pw_iconst (v := 1) dX8_perform_103 (by decide) ?_
          refine pw_goto (tgt := 108) dX8_perform_104 (by decide) ?_
          refine pw_iadd dX8_perform_108 ?_
          rw [nI_1]
          refine pw_putI dX8_perform_109 fd_RX8_177 (by decide) rfl ⟨rfl, rfl, rfl⟩ (mo_k h) ?_
          refine pw_goto (tgt := 28) dX8_perform_112 (by decide) ?_
          exact ih I0 I1 F1 _ _ _ _ _ _ _ hn0 h0 h1 (mLoop_e (mLoop_e h2 hm3) (mEq_u mEq_0 (by decide))) (by rw [up2_row (by omega)]; exact hRp3) up2_s (by omega) hrem2 (by rw [hx, hdrop, fol_f (fun z9 => z9.2 (by rw [(Sim_n hsim c_52).2]; exact c_77)), (Sim_n hsim c_52).2])
      · refine pw_iload_n dX8_perform_55 rfl rfl ?_
        refine pw_aload_n dX8_perform_56 rfl rfl ?_
        refine pe_callVi dX8_perform_57 oX_X8_does lk_RX8_211 (sp_does h hfit ⟨p1, p2, p3⟩ c_52) (mo_k h) rfl rfl (Nat.le_of_ble_eq_true rfl) (by decide) ?_
        refine pw_if_ge (tgt := 67) dX8_perform_60 (by decide) (fun c_60 => ?_) (fun c_60 => absurd (by rw [show (mFolR I3 F3 m nA n w9.1 w9.2.1 w9.2.2).1 = _ from (Sim_0 hsim c_52).1.symm]; exact (Sim_0 hsim c_52).2.1) c_60)
        refine pw_iconst (v := 1) dX8_perform_67 (by decide) ?_
        refine pw_iadd dX8_perform_68 ?_
        rw [nI_1]
        refine pw_istore_n dX8_perform_69 rfl (by decide) rfl ?_
        refine pw_goto (tgt := 94) dX8_perform_70 (by decide) ?_
        refine pw_aload_n dX8_perform_94 rfl rfl ?_
        refine pw_dup dX8_perform_95 rfl ?_
        refine pw_getI dX8_perform_96 fd_RX8_177 (by decide) (mo_k h) rfl ?_
        rw [congrFun (mLcl_fol.1 m (by omega)) 10, ha3]
        refine pw_iload_n dX8_perform_99 rfl rfl ?_
        refine pw_ifB_eq (tgt := 107) dX8_perform_100 (by decide) (fun c_100 => absurd (ho1.symm.trans c_100) (by decide)) (fun c_100 => ?_)
        refine pw_iconst (v := 1) dX8_perform_103 (by decide) ?_
        refine pw_goto (tgt := 108) dX8_perform_104 (by decide) ?_
        refine pw_iadd dX8_perform_108 ?_
        rw [nI_1]
        refine pw_putI dX8_perform_109 fd_RX8_177 (by decide) rfl ⟨rfl, rfl, rfl⟩ (mo_k h) ?_
        refine pw_goto (tgt := 28) dX8_perform_112 (by decide) ?_
        exact ih I0 I1 F1 _ _ _ _ _ _ _ hn0 h0 h1 (mLoop_e (mLoop_r (mLoop_e h2 hm3) mLcl_fol) (mEq_u mEq_0 (by decide))) (by rw [up2_row (by omega)]; exact (Sim_0 hsim c_52).2.2) up2_s (by omega) hrem2 (by rw [hx, hdrop, fol_f (fun z9 => i_nlt z9.1 (Sim_0 hsim c_52).2.1)])
  refine pw_aload_n dX8_perform_0 rfl rfl ?_
  refine pr_callV dX8_perform_1 oX_X8_faultOf lk_RX8_205 (sp_faultOf h hl hl6) (mo_k h) rfl rfl (Nat.le_of_ble_eq_true rfl) (by decide) (fun v I0 F0 hq => ?_)
  unfold fltQ at hq
  obtain ⟨rfl, rfl, hmq⟩ := hq
  refine pw_istore_n dX8_perform_4 rfl (by decide) rfl ?_
  refine pw_iload_n dX8_perform_5 rfl rfl ?_
  refine pw_bipush (v := (-5)) dX8_perform_6 (by decide) ?_
  refine pw_icmp_eq (tgt := 16) dX8_perform_8 (by decide) (fun c_8 => ?_) (fun c_8 => ?_)
  · have hn0 := flt_n hl6 c_8
    refine pw_aload_n dX8_perform_16 rfl rfl ?_
    refine pw_iconst (v := 5) dX8_perform_17 (by decide) ?_
    refine pr_callV dX8_perform_18 oX_X8_keeps lk_RX8_44 (sp_keeps (c := 5) h (by omega)) (mo_k h) rfl rfl (Nat.le_of_ble_eq_true rfl) (by decide) (fun v I1 F1 hq => ?_)
    obtain ⟨rfl, hq1⟩ := hq
    refine pw_iconst (v := 0) dX8_perform_21 (by decide) ?_
    refine pw_istore_n dX8_perform_22 rfl (by decide) rfl ?_
    refine pw_aload_n dX8_perform_23 rfl rfl ?_
    refine pw_iconst (v := 0) dX8_perform_24 (by decide) ?_
    refine pw_putI dX8_perform_25 fd_RX8_177 (by decide) rfl ⟨rfl, rfl, rfl⟩ (mo_k h) ?_
    exact L28 0 (Nat.zero_le _) I0 I1 F1 _ _ Ic Fc 0 _ _ hn0 hmq hq1 mLoop_0 (by rw [up2_row (by omega), hq1.1.1 _ (by omega), mEq_r hmq (by omega), hq1.1.2 _ (by omega) (by omega), hq1.1.2 _ (by omega) (by omega)]; exact hR) up2_s (by decide) (rem_0 hn0) rfl
  · obtain ⟨y, hr⟩ := flt_y c_8
    refine pw_bipush (v := (-100)) dX8_perform_11 (by decide) ?_
    refine pw_iload_n dX8_perform_13 rfl rfl ?_
    refine pw_isub dX8_perform_14 ?_
    exact pw_iret dX8_perform_15 rfl ⟨rfl, Or.inl ⟨y, hr, by rw [hr]; rfl, rfl, hmq⟩⟩
