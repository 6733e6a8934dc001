/-! texts, undo, keep, restore, perform -/
theorem step_tx {x m nA nC n o z l l' : Nat} {I I2 : pI} {F F2 : pF} (hm : x + 320 ≤ m) (h : InvP x m nA nC n o z l I F) (hI : ∀ i, i ≠ x + 297 → i ≠ x + 298 → i ≠ m → i ≠ m + 7 → I2 i = I i) (hF : F2 = F) (hM : ∀ j, j ≠ 9 → I2 m j = I m j) (ht : I2 (x + 297) 1 = nI l' ∧ I2 m 9 = nI l' ∧ l' ≤ 60 ∧ ∀ k, k < l' → I2 (x + 298) k = I2 (m + 7) k ∧ chr (I2 (x + 298) k)) : InvP x m nA nC n o z l' I2 F2 := by
  subst hF
  obtain ⟨hR0, ⟨ho, ho4, hz, hz4, hmz⟩, hH, hKp, -, hB1, hB2, hB3⟩ := h
  have fe : ∀ p, x + 1 ≤ p → p < x + 256 → FEq p p I F2 I2 F2 := fun p h1 h2 => FEq_fr (fun i h3 h4 => ⟨hI i (by omega) (by omega) (by omega) (by omega), rfl⟩)
  have e4 : I2 (m + 4) = I (m + 4) := hI _ (by omega) (by omega) (by omega) (by omega)
  refine ⟨?_, ⟨?_, ho4, ?_, hz4, (hM 6 (by decide)).trans hmz⟩, fun k hk => ?_, ?_, ht, RepB_eq hB1 (fun i h3 h4 => hI i (by omega) (by omega) (by omega) (by omega)), RepB_eq hB2 (fun i h3 h4 => hI i (by omega) (by omega) (by omega) (by omega)), fun i hi => RepB_eq (hB3 i hi) (fun j h3 h4 => hI j (by omega) (by omega) (by omega) (by omega))⟩
  · rw [hI (m + 1) (by omega) (by omega) (by omega) (by omega)]
    exact Rp_feq hR0 (fe _ (by omega) (by omega)) (fun _ _ => rfl) (fun _ _ => rfl) (fun _ _ => rfl)
  · rw [hI (x + 127) (by omega) (by omega) (by omega) (by omega)]; exact ho
  · rw [hI (x + 127) (by omega) (by omega) (by omega) (by omega)]; exact hz
  · obtain ⟨kA, kC, kT, hq⟩ := hH k hk
    unfold sI
    rw [e4]
    exact ⟨kA, kC, kT, Rp_feq hq (fe _ (by omega) (by omega)) (fun _ _ => rfl) (fun _ _ => rfl) (fun _ _ => rfl)⟩
  · unfold sI
    rw [hI x (by omega) (by omega) (by omega) (by omega), hM 7 (by decide), e4]
    rcases hKp with hk | ⟨h3, h4, kA, kC, kT, hq⟩
    · exact Or.inl hk
    · exact Or.inr ⟨h3, h4, kA, kC, kT, Rp_feq hq (fe _ (by omega) (by omega)) (fun _ _ => rfl) (fun _ _ => rfl) (fun _ _ => rfl)⟩
theorem st_type {x m nA nC n o z l : Nat} {c : Int32} {I : pI} {F : pF} (hm : x + 320 ≤ m) (h : InvP x m nA nC n o z l I F) (hc : chr c) (hc2 : vp_nar .char c = c) :
    (appR I F (x + 297) l c).1 = (mTypR (appR I F (x + 297) l c).2.1 (appR I F (x + 297) l c).2.2 m l c).1 ∧ Inv x m (mTypR (appR I F (x + 297) l c).2.1 (appR I F (x + 297) l c).2.2 m l c).2.1 (mTypR (appR I F (x + 297) l c).2.1 (appR I F (x + 297) l c).2.2 m l c).2.2 := by
  obtain ⟨hl1, hl2, hl6, hch⟩ := h.2.2.2.2.1
  unfold appR mTypR
  by_cases hl : l < 60
  · rw [if_pos hl, if_neg (by omega)]
    refine ⟨rfl, nA, nC, n, o, z, l + 1, step_tx hm h (fun i h1 h2 h3 h4 => (up2_row h3).trans ((up2_row h4).trans ((up2_row h1).trans (up2_row h2)))) rfl (fun j hj => (up2_nj hj).trans ((up2_ni (by omega)).trans ((up2_ni (by omega)).trans (up2_ni (by omega))))) ⟨?_, up2_s, by omega, fun k hk => ?_⟩⟩
    · exact (up2_ni (by omega)).trans ((up2_ni (by omega)).trans up2_s)
    · have e1 : ∀ j, up2 (up2 (up2 (up2 I (x + 297 + 1) l (vp_nar .char c)) (x + 297) 1 (nI (l + 1))) (m + 7) l c) m 9 (nI (l + 1)) (x + 298) j = up2 I (x + 297 + 1) l (vp_nar .char c) (x + 298) j := fun j => (up2_ni (by omega)).trans ((up2_ni (by omega)).trans (up2_ni (by omega)))
      have e2 : ∀ j, up2 (up2 (up2 (up2 I (x + 297 + 1) l (vp_nar .char c)) (x + 297) 1 (nI (l + 1))) (m + 7) l c) m 9 (nI (l + 1)) (m + 7) j = if j = l then c else I (m + 7) j := fun j => by
        rw [up2_ni (by omega)]
        by_cases hj : j = l
        · rw [hj, up2_s, if_pos rfl]
        · rw [up2_nj hj, if_neg hj, up2_ni (by omega), up2_ni (by omega)]
      show up2 _ m 9 _ (x + 298) k = up2 _ m 9 _ (m + 7) k ∧ chr (up2 _ m 9 _ (x + 298) k)
      rw [e1, e2]
      by_cases hj : k = l
      · subst hj
        rw [if_pos rfl, show up2 I (x + 297 + 1) k (vp_nar .char c) (x + 298) k = c from up2_s.trans hc2]
        exact ⟨rfl, hc⟩
      · rw [if_neg hj, up2_nj hj]
        exact hch k (by omega)
  · rw [if_neg hl, if_pos (by omega)]
    exact ⟨rfl, nA, nC, n, o, z, l, h⟩
theorem st_clear {x m nA nC n o z l : Nat} {I : pI} {F : pF} (hm : x + 320 ≤ m) (h : InvP x m nA nC n o z l I F) : I (x + 297) 1 = up2 I (x + 297) 1 0 m 9 ∧ Inv x m (up2 (up2 I (x + 297) 1 0) m 9 0) F := by
  obtain ⟨hl1, hl2, hl6, hch⟩ := h.2.2.2.2.1
  refine ⟨?_, nA, nC, n, o, z, 0, step_tx hm h (fun i h1 h2 h3 h4 => (up2_row h3).trans (up2_row h1)) rfl (fun j hj => (up2_nj hj).trans (up2_ni (by omega))) ⟨(up2_ni (by omega)).trans up2_s, up2_s, by omega, fun k hk => absurd hk (Nat.not_lt_zero _)⟩⟩
  rw [up2_ni (by omega), hl1, hl2]
theorem mid_undo {x o z : Nat} {I I1 : pI} {F F1 : pF} {v : Option Value} (hc : (z = 0 ∧ v = some (.int (-5)) ∧ I1 = I ∧ F1 = F) ∨ (0 < z ∧ v = some (.int (nI (z - 1))) ∧ Cpy (x + 1) (x + 127 + 2 + 42 * ((o + (z - 1)) % 4)) (up2 I (x + 127) 2 (nI (z - 1))) F I1 F1)) : mid x I F I1 F1 := by
  intro i hi
  rcases hc with ⟨-, -, h1, h2⟩ | ⟨-, -, h1⟩
  · rw [h1, h2]
    exact ⟨rfl, rfl⟩
  · have a := Cpy_fr h1 (i := i) (by omega)
    exact ⟨a.1.trans (up2_row (by omega)), a.2⟩
theorem st_undo {x m nA nC n o z l : Nat} {I I1 I2 : pI} {F F1 F2 : pF} {v v' : Option Value} (hm : x + 320 ≤ m) (h : InvP x m nA nC n o z l I F) (hc : (z = 0 ∧ v = some (.int (-5)) ∧ I1 = I ∧ F1 = F) ∨ (0 < z ∧ v = some (.int (nI (z - 1))) ∧ Cpy (x + 1) (x + 127 + 2 + 42 * ((o + (z - 1)) % 4)) (up2 I (x + 127) 2 (nI (z - 1))) F I1 F1))
    (hq : (z = 0 ∧ v' = some (.int (-5)) ∧ I2 = I1 ∧ F2 = F1) ∨ (0 < z ∧ v' = some (.int (nI (z - 1))) ∧ mBring m (z - 1) (up2 I1 m 6 (nI (z - 1))) F1 I2 F2)) : v = v' ∧ Inv x m I2 F2 := by
  have hmid := mid_undo hc
  rcases hc with ⟨h0, hv, e1, e2⟩ | ⟨h0, hv, hcp⟩
  · rcases hq with ⟨-, hv', e3, e4⟩ | ⟨h1, -⟩
    · exact ⟨hv.trans hv'.symm, nA, nC, n, o, z, l, by rw [e3, e4, e1, e2]; exact h⟩
    · omega
  · rcases hq with ⟨h1, -⟩ | ⟨-, hv', b1, b2, b3, b4, b5⟩
    · omega
    · refine ⟨hv.trans hv'.symm, ?_⟩
      obtain ⟨hR0, ⟨ho, ho4, hz, hz4, hmz⟩, hH, hKp, ⟨hl1, hl2, hl6, hch⟩, hB1, hB2, hB3⟩ := h
      have c1 : ∀ i, i ≠ m → i ≠ m + 1 → I2 i = I1 i := fun i h1 h2 => (b1 i h2).trans (up2_row h1)
      have far : ∀ i, (i < x + 1 ∨ x + 43 ≤ i) → i ≠ x + 127 → i ≠ m → i ≠ m + 1 → I2 i = I i := fun i h1 h2 h3 h4 => by
        rw [c1 i h3 h4, (Cpy_fr hcp (by omega)).1, up2_row h2]
      have farF : ∀ i, (i < x + 1 ∨ x + 43 ≤ i) → i ≠ m + 2 → i ≠ m + 3 → F2 i = F i := fun i h1 h2 h3 => by
        rw [b2 i h2 h3, (Cpy_fr hcp (by omega)).2]
      have fe : ∀ p, x + 43 ≤ p → p < x + 256 → (p + 42 ≤ x + 127 ∨ x + 127 < p) → FEq p p I F I2 F2 := fun p h1 h2 h5 => FEq_fr (fun i h3 h4 => ⟨far i (by omega) (by omega) (by omega) (by omega), farF i (by omega) (by omega) (by omega)⟩)
      have m4 : I2 (m + 4) = I (m + 4) := far _ (by omega) (by omega) (by omega) (by omega)
      have m5 : F2 (m + 5) = F (m + 5) := farF _ (by omega) (by omega) (by omega)
      have m6 : F2 (m + 6) = F (m + 6) := farF _ (by omega) (by omega) (by omega)
      have mc : ∀ j, j ≠ 6 → I2 m j = I m j := fun j hj => by
        rw [b1 m (by omega), up2_nj hj, (hmid m (by omega)).1]
      have mz : I2 m 6 = nI (z - 1) := by rw [b1 m (by omega), up2_s]
      obtain ⟨kA, kC, kT, hq⟩ := hH (z - 1) (by omega)
      have hq2 : Rp (x + 127 + 2 + 42 * ((o + (z - 1)) % 4)) kA kC kT (sI I m (z - 1)) (sF F (m + 5) (z - 1)) (sF F (m + 6) (z - 1)) (up2 I (x + 127) 2 (nI (z - 1))) F := Rp_feq hq (FEq_fr (fun i h3 h4 => ⟨up2_row (by omega), rfl⟩)) (fun _ _ => rfl) (fun _ _ => rfl) (fun _ _ => rfl)
      have now : Rp (x + 1) kA kC kT (I2 (m + 1)) (F2 (m + 2)) (F2 (m + 3)) I2 F2 := by
        refine Rp_feq hq2 (FEq_t (FEq_cpy hcp) (FEq_fr (fun i h3 h4 => ⟨c1 i (by omega) (by omega), b2 i (by omega) (by omega)⟩))) (fun j hj => ?_) (fun j hj => ?_) (fun j hj => ?_)
        · rw [b3 j hj, up2_row (by omega), (hmid _ (by omega)).1]; rfl
        · rw [b4 j hj, (hmid _ (by omega)).2]; rfl
        · rw [b5 j hj, (hmid _ (by omega)).2]; rfl
      refine ⟨kA, kC, kT, o, z - 1, l, now, ⟨?_, ho4, ?_, by omega, mz⟩, fun k hk => ?_, ?_, ?_, RepB_eq hB1 (fun i h3 h4 => far i (by omega) (by omega) (by omega) (by omega)), RepB_eq hB2 (fun i h3 h4 => far i (by omega) (by omega) (by omega) (by omega)), fun i hi => RepB_eq (hB3 i hi) (fun j h3 h4 => far j (by omega) (by omega) (by omega) (by omega))⟩
      · rw [c1 _ (by omega) (by omega), (Cpy_fr hcp (by omega)).1, up2_nj (by decide)]; exact ho
      · rw [c1 _ (by omega) (by omega), (Cpy_fr hcp (by omega)).1, up2_s]
      · obtain ⟨jA, jC, jT, hj⟩ := hH k (by omega)
        unfold sI sF
        rw [m4, m5, m6]
        exact ⟨jA, jC, jT, Rp_feq hj (fe _ (by omega) (by omega) (by omega)) (fun _ _ => rfl) (fun _ _ => rfl) (fun _ _ => rfl)⟩
      · unfold sI sF
        rw [far x (by omega) (by omega) (by omega) (by omega), mc 7 (by decide), m4, m5, m6]
        rcases hKp with hk | ⟨h3, h4, jA, jC, jT, hj⟩
        · exact Or.inl hk
        · exact Or.inr ⟨h3, h4, jA, jC, jT, Rp_feq hj (fe _ (by omega) (by omega) (by omega)) (fun _ _ => rfl) (fun _ _ => rfl) (fun _ _ => rfl)⟩
      · rw [far (x + 297) (by omega) (by omega) (by omega) (by omega), far (x + 298) (by omega) (by omega) (by omega) (by omega), far (m + 7) (by omega) (by omega) (by omega) (by omega), mc 9 (by decide)]
        exact ⟨hl1, hl2, hl6, hch⟩
theorem mid_keep {x : Nat} {I I1 : pI} {F F1 : pF} (hc : ∃ Ia, Cpy (x + 85) (x + 1) I F Ia F1 ∧ I1 = up2 Ia x 3 1) : (∀ i, (i < x ∨ x + 320 ≤ i) → I1 i = I i ∧ F1 i = F i) := by
  obtain ⟨Ia, h1, h2⟩ := hc
  intro i hi
  have a := Cpy_fr h1 (i := i) (by omega)
  exact ⟨by rw [h2, up2_row (by omega)]; exact a.1, a.2⟩
theorem st_keep {x m nA nC n o z l : Nat} {I I1 I2 : pI} {F F1 F2 : pF} {v v' : Option Value} (hm : x + 320 ≤ m) (h : InvP x m nA nC n o z l I F) (hc : v = some (.int (I (x + 1) 7)) ∧ ∃ Ia, Cpy (x + 85) (x + 1) I F Ia F1 ∧ I1 = up2 Ia x 3 1)
    (hq : v' = some (.int (I1 (m + 1) 0)) ∧ ∃ J, mKeep m 4 I1 F1 J F2 ∧ I2 = up2 J m 7 1) : v = v' ∧ Inv x m I2 F2 := by
  obtain ⟨hv, Ia, hcp, e1⟩ := hc
  obtain ⟨hv', J, ⟨⟨k1, k2⟩, k3, k4, k5⟩, e2⟩ := hq
  obtain ⟨hR0, ⟨ho, ho4, hz, hz4, hmz⟩, hH, hKp, ⟨hl1, hl2, hl6, hch⟩, hB1, hB2, hB3⟩ := h
  have i1 : ∀ i, i ≠ x → (i < x + 85 ∨ x + 127 ≤ i) → I1 i = I i := fun i h1 h2 => by
    rw [e1, up2_row h1, (Cpy_fr hcp h2).1]
  have f1 : ∀ i, (i < x + 85 ∨ x + 127 ≤ i) → F1 i = F i := fun i h2 => (Cpy_fr hcp h2).2
  have far : ∀ i, i ≠ x → (i < x + 85 ∨ x + 127 ≤ i) → i ≠ m → i ≠ m + 4 → I2 i = I i := fun i h1 h2 h3 h4 => by
    rw [e2, up2_row h3, k1 i h4, i1 i h1 h2]
  have farF : ∀ i, (i < x + 85 ∨ x + 127 ≤ i) → i ≠ m + 5 → i ≠ m + 6 → F2 i = F i := fun i h2 h3 h4 => by
    rw [k2 i h3 h4, f1 i h2]
  have fe : ∀ p, (p = x + 1 ∨ (x + 127 ≤ p ∧ p < x + 256)) → FEq p p I F I2 F2 := fun p h1 => FEq_fr (fun i h3 h4 => ⟨far i (by omega) (by omega) (by omega) (by omega), farF i (by omega) (by omega) (by omega)⟩)
  have mc : ∀ j, j ≠ 7 → I2 m j = I m j := fun j hj => by
    rw [e2, up2_nj hj, k1 m (by omega), i1 m (by omega) (by omega)]
  have m7 : I2 m 7 = 1 := by rw [e2, up2_s]
  have x3 : I2 x 3 = 1 := by rw [e2, up2_row (by omega), k1 x (by omega), e1, up2_s]
  have sl : ∀ d j, j < 491 → I2 (m + 4) (d * 491 + j) = if d = 4 then I (m + 1) j else I (m + 4) (d * 491 + j) := fun d j hj => by
    rw [e2, up2_row (by omega), k3 d j hj, i1 (m + 1) (by omega) (by omega), i1 (m + 4) (by omega) (by omega)]
  have sl5 : ∀ d j, j < 8 → F2 (m + 5) (8 * d + j) = if d = 4 then F (m + 2) j else F (m + 5) (8 * d + j) := fun d j hj => by
    rw [k4 d j hj, f1 (m + 2) (by omega), f1 (m + 5) (by omega)]
  have sl6 : ∀ d j, j < 8 → F2 (m + 6) (8 * d + j) = if d = 4 then F (m + 3) j else F (m + 6) (8 * d + j) := fun d j hj => by
    rw [k5 d j hj, f1 (m + 3) (by omega), f1 (m + 6) (by omega)]
  obtain ⟨hh, -, b2, b3⟩ := hR0.1.1.2.2.2.2.2.2.2.2.2
  refine ⟨?_, nA, nC, n, o, z, l, ?_, ⟨?_, ho4, ?_, hz4, (mc 6 (by decide)).trans hmz⟩, fun k hk => ?_, Or.inr ⟨by rw [x3]; decide, by rw [m7]; decide, nA, nC, n, ?_⟩, ?_, ?_, ?_, fun i hi => ?_⟩
  · rw [hv, hv', i1 (m + 1) (by omega) (by omega), b2, b3]
  · rw [far (m + 1) (by omega) (by omega) (by omega) (by omega), farF (m + 2) (by omega) (by omega) (by omega), farF (m + 3) (by omega) (by omega) (by omega)]
    exact Rp_feq hR0 (fe _ (Or.inl rfl)) (fun _ _ => rfl) (fun _ _ => rfl) (fun _ _ => rfl)
  · rw [far (x + 127) (by omega) (by omega) (by omega) (by omega)]; exact ho
  · rw [far (x + 127) (by omega) (by omega) (by omega) (by omega)]; exact hz
  · obtain ⟨kA, kC, kT, hq⟩ := hH k hk
    refine ⟨kA, kC, kT, Rp_feq hq (fe _ (Or.inr (by omega))) (fun j hj => ?_) (fun j hj => ?_) (fun j hj => ?_)⟩
    · show I2 (m + 4) (k * 491 + j) = I (m + 4) (k * 491 + j)
      rw [sl k j hj, if_neg (by omega)]
    · show F2 (m + 5) (8 * k + j) = F (m + 5) (8 * k + j)
      rw [sl5 k j hj, if_neg (by omega)]
    · show F2 (m + 6) (8 * k + j) = F (m + 6) (8 * k + j)
      rw [sl6 k j hj, if_neg (by omega)]
  · refine Rp_feq hR0 (FEq_t (FEq_cpy hcp) (FEq_fr (fun i h3 h4 => ⟨?_, k2 i (by omega) (by omega)⟩))) (fun j hj => ?_) (fun j hj => ?_) (fun j hj => ?_)
    · rw [e2, up2_row (by omega), k1 i (by omega), e1, up2_row (by omega)]
    · show I2 (m + 4) (4 * 491 + j) = I (m + 1) j
      rw [sl 4 j hj, if_pos rfl]
    · show F2 (m + 5) (8 * 4 + j) = F (m + 2) j
      rw [sl5 4 j hj, if_pos rfl]
    · show F2 (m + 6) (8 * 4 + j) = F (m + 3) j
      rw [sl6 4 j hj, if_pos rfl]
  · rw [far (x + 297) (by omega) (by omega) (by omega) (by omega), far (x + 298) (by omega) (by omega) (by omega) (by omega), far (m + 7) (by omega) (by omega) (by omega) (by omega), mc 9 (by decide)]
    exact ⟨hl1, hl2, hl6, hch⟩
  · exact RepB_eq hB1 (fun i h3 h4 => far i (by omega) (by omega) (by omega) (by omega))
  · intro a ha
    have e : I2 (x + 85 + 5 + a) 4 = I (x + 1 + 5 + a) 4 := by
      rw [e2, up2_row (by omega), k1 _ (by omega), e1, up2_row (by omega)]
      exact (hcp.1.2.1 a ha).2.1
    rw [e]
    exact hR0.1.2.2.2.2.2.2 a ha
  · exact RepB_eq (hB3 i hi) (fun j h3 h4 => far j (by omega) (by omega) (by omega) (by omega))
theorem rec_mid {x o z : Nat} {r : Int32} {I I1 : pI} {F F1 : pF} {v : Option Value} (h : recQ x o z r I F v I1 F1) : mid x I F I1 F1 := by
  obtain ⟨-, hq⟩ := h
  intro i hi
  rcases hq with ⟨-, h1, h2⟩ | ⟨-, Ib, h1, h2⟩
  · rw [h1, h2]
    exact ⟨rfl, rfl⟩
  · have b := Cpy_fr h1 (i := i) (by omega)
    refine ⟨?_, b.2⟩
    rw [h2]
    split
    · rw [up2_row (by omega)]; exact b.1
    · rw [up2_row (by omega)]; exact b.1
theorem mid_t {x : Nat} {I I1 I2 : pI} {F F1 F2 : pF} (h : mid x I F I1 F1) (h2 : mid x I1 F1 I2 F2) : mid x I F I2 F2 := fun i hi => ⟨(h2 i hi).1.trans (h i hi).1, (h2 i hi).2.trans (h i hi).2⟩
theorem mid_restore {x o z : Nat} {I I1 : pI} {F F1 : pF} {v : Option Value} (hc : (I x 3 = 0 ∧ v = some (.int (-5)) ∧ I1 = I ∧ F1 = F) ∨ (¬ I x 3 = 0 ∧ ∃ Ia Fa Ib Fb, Cpy (x + 43) (x + 1) I F Ia Fa ∧ Cpy (x + 1) (x + 85) Ia Fa Ib Fb ∧ recQ x o z (Ib (x + 1) 7) Ib Fb v I1 F1)) : mid x I F I1 F1 := by
  rcases hc with ⟨-, -, h1, h2⟩ | ⟨-, Ia, Fa, Ib, Fb, h1, h2, h3⟩
  · intro i hi
    rw [h1, h2]
    exact ⟨rfl, rfl⟩
  · exact mid_t (fun i hi => Cpy_fr h1 (by omega)) (mid_t (fun i hi => Cpy_fr h2 (by omega)) (rec_mid h3))
theorem st_restore {x m nA nC n o z l : Nat} {I I1 I2 : pI} {F F1 F2 : pF} {v v' : Option Value} (hm : x + 320 ≤ m) (h : InvP x m nA nC n o z l I F) (hc : (I x 3 = 0 ∧ v = some (.int (-5)) ∧ I1 = I ∧ F1 = F) ∨ (¬ I x 3 = 0 ∧ ∃ Ia Fa Ib Fb, Cpy (x + 43) (x + 1) I F Ia Fa ∧ Cpy (x + 1) (x + 85) Ia Fa Ib Fb ∧ recQ x o z (Ib (x + 1) 7) Ib Fb v I1 F1))
    (hq : (I1 m 7 = 0 ∧ v' = some (.int (-5)) ∧ I2 = I1 ∧ F2 = F1) ∨ (¬ I1 m 7 = 0 ∧ v' = some (.int (I2 (m + 1) 0)) ∧ ∃ J G, mRec m z I1 F1 J G ∧ mBring m 4 J G I2 F2)) : v = v' ∧ Inv x m I2 F2 := by
  have hmid := mid_restore hc
  have e7 : I1 m 7 = I m 7 := congrFun (hmid m (by omega)).1 7
  rw [e7] at hq
  have hKp := h.2.2.2.1
  rcases hc with ⟨h0, hv, e1, e2⟩ | ⟨h0, Ia, Fa, Ib, Fb, hcp, hcp2, hrec⟩
  · rcases hKp with ⟨-, g2⟩ | ⟨g1, -⟩
    · rcases hq with ⟨-, hv', e3, e4⟩ | ⟨h1, -⟩
      · exact ⟨hv.trans hv'.symm, nA, nC, n, o, z, l, by rw [e3, e4, e1, e2]; exact h⟩
      · exact absurd g2 h1
    · exact absurd h0 g1
  · rcases hKp with ⟨g1, -⟩ | ⟨-, g2, kA, kC, kT, hk⟩
    · exact absurd g1 h0
    · rcases hq with ⟨h1, -⟩ | ⟨-, hv', J, G, hmr, hmb⟩
      · exact absurd h1 g2
      · have hlcl : mLcl m J G I2 F2 := ⟨fun i hi => hmb.1 i hi, fun i h1 h2 => hmb.2.1 i h1 h2⟩
        have hh := mHist_of hmr hlcl
        have r4 : rsrc z 4 = 4 := by
          have := h.2.1.2.2.2.1
          unfold rsrc
          split
          · rfl
          · rw [if_neg (by omega)]
        have row : ∀ j, j < 491 → I2 (m + 1) j = sI I m 4 j := fun j hj => by
          rw [hmb.2.2.1 j hj, hmr.2.2.2.2.1 4 j (by decide) hj, r4, if_neg (by decide), (hmid _ (by omega)).1]
          rfl
        have rh : ∀ j, j < 8 → F2 (m + 2) j = sF F (m + 5) 4 j := fun j hj => by
          rw [hmb.2.2.2.1 j hj, hmr.2.2.2.2.2.1 4 j (by decide) hj, r4, if_neg (by decide), (hmid _ (by omega)).2]
          rfl
        have ro : ∀ j, j < 8 → F2 (m + 3) j = sF F (m + 6) 4 j := fun j hj => by
          rw [hmb.2.2.2.2 j hj, hmr.2.2.2.2.2.2 4 j (by decide) hj, r4, if_neg (by decide), (hmid _ (by omega)).2]
          rfl
        have hka : Rp (x + 85) kA kC kT (sI I m 4) (sF F (m + 5) 4) (sF F (m + 6) 4) Ia Fa := Rp_feq hk (FEq_fr (fun i h3 h4 => Cpy_fr hcp (by omega))) (fun _ _ => rfl) (fun _ _ => rfl) (fun _ _ => rfl)
        have hR : Rp (x + 1) kA kC kT (I2 (m + 1)) (F2 (m + 2)) (F2 (m + 3)) Ib Fb := Rp_feq hka (FEq_cpy hcp2) row rh ro
        obtain ⟨hr, b1, b2, b3⟩ := hR.1.1.2.2.2.2.2.2.2.2.2
        obtain ⟨hv, hrec⟩ := hrec
        have nneg : ¬ Ib (x + 1) 7 < 0 := by
          rw [b2]
          exact nI_pos (by omega)
        rcases hrec with ⟨h1, -⟩ | ⟨-, Ic, e1, e2⟩
        · exact absurd h1 nneg
        · refine ⟨by rw [hv, hv', b2, b3], step_ok hm h hcp ⟨fun i hi => (Cpy_fr hcp2 (by omega)).1, fun i hi => (Cpy_fr hcp2 (by omega)).2⟩ e1 e2 hh hh.1.1 hR⟩
