/-! THE WHOLE STATE: the class's object at x, the model at m -/
theorem Rp_feq {p r nA nC n : Nat} {N N' : Nat → Int32} {H H' O O' : Nat → UInt32} {I I' : pI} {F F' : pF} (h : Rp r nA nC n N H O I F) (hf : FEq p r I F I' F') (hN : ∀ j, j < 491 → N' j = N j) (hH : ∀ j, j < 8 → H' j = H j) (hO : ∀ j, j < 8 → O' j = O j) : Rp p nA nC n N' H' O' I' F' := by
  have a9 : n ≤ 24 := h.1.1.2.2.2.2.2.2.2.2.1
  exact ⟨Rep_feq h.1 hf hN hH hO, Slp_eq h.2 (hN 0 (by decide)) (fun t ht => Or.inl ⟨ht, hN _ (by omega)⟩)⟩
theorem FEq_t {p r q : Nat} {I I' I2 : pI} {F F' F2 : pF} (h : FEq p r I F I' F') (h2 : FEq q p I' F' I2 F2) : FEq q r I F I2 F2 := by
  obtain ⟨a1, a2, a3, a4, a5, a6, a7, a8⟩ := h
  obtain ⟨b1, b2, b3, b4, b5, b6, b7, b8⟩ := h2
  refine ⟨fun a ha => ?_, fun c hc => ?_, fun t j ht hj => (b3 t j ht hj).trans (a3 t j ht hj), fun k hk => (b4 k hk).trans (a4 k hk), b5.trans a5, b6.trans a6, b7.trans a7, b8.trans a8⟩
  · obtain ⟨c1, c2, c3, c4, c5, c6⟩ := a1 a ha
    obtain ⟨d1, d2, d3, d4, d5, d6⟩ := b1 a ha
    exact ⟨d1.trans c1, d2.trans c2, d3.trans c3, d4.trans c4, d5.trans c5, d6.trans c6⟩
  · exact ⟨(b2 c hc).1.trans (a2 c hc).1, (b2 c hc).2.trans (a2 c hc).2⟩
def sI (I : pI) (m k : Nat) : Nat → Int32 := fun j => I (m + 4) (k * 491 + j)
def sF (F : pF) (q k : Nat) : Nat → UInt32 := fun j => F q (8 * k + j)
def chr (c : Int32) : Prop := narrow .char (.int c) = .int c ∧ fits .char (.int c) = true
def InvP (x m nA nC n o z l : Nat) (I : pI) (F : pF) : Prop :=
  Rp (x + 1) nA nC n (I (m + 1)) (F (m + 2)) (F (m + 3)) I F ∧
  (I (x + 127) 1 = nI o ∧ o < 4 ∧ I (x + 127) 2 = nI z ∧ z ≤ 4 ∧ I m 6 = nI z) ∧
  (∀ k, k < z → ∃ kA kC kT, Rp (x + 127 + 2 + 42 * ((o + k) % 4)) kA kC kT (sI I m k) (sF F (m + 5) k) (sF F (m + 6) k) I F) ∧
  ((I x 3 = 0 ∧ I m 7 = 0) ∨ (¬ I x 3 = 0 ∧ ¬ I m 7 = 0 ∧ ∃ kA kC kT, Rp (x + 85) kA kC kT (sI I m 4) (sF F (m + 5) 4) (sF F (m + 6) 4) I F)) ∧
  (I (x + 297) 1 = nI l ∧ I m 9 = nI l ∧ l ≤ 60 ∧ ∀ k, k < l → I (x + 298) k = I (m + 7) k ∧ chr (I (x + 298) k)) ∧
  RepB (x + 43) I ∧ RepB (x + 85) I ∧ ∀ i, i < 4 → RepB (x + 127 + 2 + 42 * i) I
def Inv (x m : Nat) (I : pI) (F : pF) : Prop := ∃ nA nC n o z l, InvP x m nA nC n o z l I F
theorem RepB_eq {p : Nat} {I I' : pI} (h : RepB p I) (hI : ∀ i, p + 5 ≤ i → i < p + 13 → I' i = I i) : RepB p I' := fun a ha => by
  rw [hI _ (by omega) (by omega)]
  exact h a ha
theorem InvP_cOK {x m nA nC n o z l : Nat} {I : pI} {F : pF} (h : InvP x m nA nC n o z l I F) : cOK x I nA nC n o z := by
  obtain ⟨g1, g2, g3, g4, g5, g6, g7, g8, g9⟩ := Rep_pOK h.1.1
  exact ⟨g1, g2, g3, g4, g5, g6, g7, g8, g9, h.2.1.1, h.2.1.2.1, h.2.1.2.2.1, h.2.1.2.2.2.1⟩
/-- the object's cells and the rest: what a call of the class leaves -/
def mid (x : Nat) (I : pI) (F : pF) (I' : pI) (F' : pF) : Prop := ∀ i, (i < x ∨ x + 320 ≤ i) → I' i = I i ∧ F' i = F i
theorem mod_ne {o k z : Nat} (hk : k < z) (hz : z ≤ 4) (h : ¬ (k = 0 ∧ z = 4)) : (o + k) % 4 ≠ (o + z) % 4 := by omega
/-- an act done and recorded -/
theorem step_ok {x m nA nC n o z l nA' nC' n' : Nat} {I Ia C1 Ib I1 I2 : pI} {F Fa C2 F1 F2 : pF} (hm : x + 320 ≤ m) (h : InvP x m nA nC n o z l I F)
    (hcp : Cpy (x + 43) (x + 1) I F Ia Fa) (hl : lcl (x + 1) Ia C1 ∧ lcl (x + 1) Fa C2) (hrec : Cpy (x + 127 + 2 + 42 * ((o + z) % 4)) (x + 43) C1 C2 Ib F1) (h1 : I1 = (if z < 4 then up2 Ib (x + 127) 2 (nI (z + 1)) else up2 Ib (x + 127) 1 (nI ((o + 1) % 4))))
    (hh : mHist m z I1 F1 I2 F2) (hx : ∀ i, (i < m ∨ m + 8 ≤ i) → I2 i = I1 i ∧ F2 i = F1 i) (hR : Rp (x + 1) nA' nC' n' (I2 (m + 1)) (F2 (m + 2)) (F2 (m + 3)) C1 C2) : Inv x m I2 F2 := by
  obtain ⟨hR0, ⟨ho, ho4, hz, hz4, hmz⟩, hH, hKp, ⟨hl1, hl2, hl6, hch⟩, hB1, hB2, hB3⟩ := h
  obtain ⟨⟨-, m7, m77, m9⟩, m6, s1, s2, s3⟩ := hh
  -- cells of the object
  have q1 : ∀ i, i ≠ x + 127 → I1 i = Ib i := fun i hi => by
    rw [h1]
    split
    · exact up2_row hi
    · exact up2_row hi
  have fB : ∀ i, (i < x + 127 + 2 + 42 * ((o + z) % 4) ∨ x + 127 + 2 + 42 * ((o + z) % 4) + 42 ≤ i) → Ib i = C1 i ∧ F1 i = C2 i := fun i hi => Cpy_fr hrec hi
  have fC : ∀ i, (i < x + 1 ∨ x + 43 ≤ i) → C1 i = Ia i ∧ C2 i = Fa i := fun i hi => ⟨hl.1 i (by omega), hl.2 i (by omega)⟩
  have fA : ∀ i, (i < x + 43 ∨ x + 85 ≤ i) → Ia i = I i ∧ Fa i = F i := fun i hi => Cpy_fr hcp hi
  have far : ∀ i, (i < x + 1 ∨ x + 85 ≤ i) → i ≠ x + 127 → (i < x + 127 + 2 + 42 * ((o + z) % 4) ∨ x + 127 + 2 + 42 * ((o + z) % 4) + 42 ≤ i) → I1 i = I i ∧ F1 i = F i := fun i h3 h4 h5 => by
    rw [q1 i h4, (fB i h5).1, (fB i h5).2, (fC i (by omega)).1, (fC i (by omega)).2, (fA i (by omega)).1, (fA i (by omega)).2]
    exact ⟨rfl, rfl⟩
  have far2 : ∀ i, (i < x + 1 ∨ x + 85 ≤ i) → i < m → i ≠ x + 127 → (i < x + 127 + 2 + 42 * ((o + z) % 4) ∨ x + 127 + 2 + 42 * ((o + z) % 4) + 42 ≤ i) → I2 i = I i ∧ F2 i = F i := fun i h3 h3' h4 h5 => by
    rw [(hx i (by omega)).1, (hx i (by omega)).2]
    exact far i h3 h4 h5
  have mm : ∀ i, x + 320 ≤ i → I1 i = I i ∧ F1 i = F i := fun i hi => far i (by omega) (by omega) (by omega)
  -- the recorded plant
  have fe1 : FEq (x + 43) (x + 1) I F Ia Fa := FEq_cpy hcp
  have fe2 : FEq (x + 43) (x + 43) Ia Fa C1 C2 := FEq_fr (fun i h3 h4 => fC i (by omega))
  have fe3 : FEq (x + 127 + 2 + 42 * ((o + z) % 4)) (x + 43) C1 C2 Ib F1 := FEq_cpy hrec
  have fe4 : FEq (x + 127 + 2 + 42 * ((o + z) % 4)) (x + 127 + 2 + 42 * ((o + z) % 4)) Ib F1 I2 F2 := FEq_fr (fun i h3 h4 => by rw [(hx i (by omega)).1, (hx i (by omega)).2, q1 i (by omega)]; exact ⟨rfl, rfl⟩)
  have fe : FEq (x + 127 + 2 + 42 * ((o + z) % 4)) (x + 1) I F I2 F2 := FEq_t fe1 (FEq_t fe2 (FEq_t fe3 fe4))
  have b43 : RepB (x + 43) I2 := RepB_eq (I := Ia) (fun a ha => by rw [(fe1.1 a ha).2.1]; exact hR0.1.2.2.2.2.2.2 a ha) (fun i h3 h4 => by rw [(hx i (by omega)).1, q1 i (by omega), (fB i (by omega)).1]; exact (fC i (by omega)).1)
  have bS : RepB (x + 127 + 2 + 42 * ((o + z) % 4)) I2 := fun a ha => by
    rw [(fe.1 a ha).2.1]
    exact hR0.1.2.2.2.2.2.2 a ha
  -- a state that was kept before
  have old : ∀ k k', k < z → k' < 5 → rsrc z k' = k → (o + k) % 4 ≠ (o + z) % 4 → ∃ kA kC kT, Rp (x + 127 + 2 + 42 * ((o + k) % 4)) kA kC kT (sI I2 m k') (sF F2 (m + 5) k') (sF F2 (m + 6) k') I2 F2 := by
    intro k k' hk hk' hr hne
    obtain ⟨kA, kC, kT, hq⟩ := hH k hk
    refine ⟨kA, kC, kT, Rp_feq hq (FEq_fr (fun i h3 h4 => far2 i (by omega) (by omega) (by omega) (by omega))) (fun j hj => ?_) (fun j hj => ?_) (fun j hj => ?_)⟩
    · show I2 (m + 4) (k' * 491 + j) = I (m + 4) (k * 491 + j)
      rw [s1 k' j hk' hj, hr, if_neg (by omega), (mm _ (by omega)).1]
    · show F2 (m + 5) (8 * k' + j) = F (m + 5) (8 * k + j)
      rw [s2 k' j hk' hj, hr, if_neg (by omega), (mm _ (by omega)).2]
    · show F2 (m + 6) (8 * k' + j) = F (m + 6) (8 * k + j)
      rw [s3 k' j hk' hj, hr, if_neg (by omega), (mm _ (by omega)).2]
  have new : ∀ k', k' < 5 → rsrc z k' = 5 → ∃ kA kC kT, Rp (x + 127 + 2 + 42 * ((o + z) % 4)) kA kC kT (sI I2 m k') (sF F2 (m + 5) k') (sF F2 (m + 6) k') I2 F2 := by
    intro k' hk' hr
    refine ⟨nA, nC, n, Rp_feq hR0 fe (fun j hj => ?_) (fun j hj => ?_) (fun j hj => ?_)⟩
    · show I2 (m + 4) (k' * 491 + j) = I (m + 1) j
      rw [s1 k' j hk' hj, hr, if_pos rfl, (mm _ (by omega)).1]
    · show F2 (m + 5) (8 * k' + j) = F (m + 2) j
      rw [s2 k' j hk' hj, hr, if_pos rfl, (mm _ (by omega)).2]
    · show F2 (m + 6) (8 * k' + j) = F (m + 3) j
      rw [s3 k' j hk' hj, hr, if_pos rfl, (mm _ (by omega)).2]
  have r4 : rsrc z 4 = 4 := by
    unfold rsrc
    split
    · rfl
    · rw [if_neg (by omega)]
  have now2 : Rp (x + 1) nA' nC' n' (I2 (m + 1)) (F2 (m + 2)) (F2 (m + 3)) I2 F2 := Rp_feq hR (FEq_fr (fun i h3 h4 => by rw [(hx i (by omega)).1, (hx i (by omega)).2, q1 i (by omega)]; exact fB i (by omega))) (fun _ _ => rfl) (fun _ _ => rfl) (fun _ _ => rfl)
  have kp2 : (I2 x 3 = 0 ∧ I2 m 7 = 0) ∨ (¬ I2 x 3 = 0 ∧ ¬ I2 m 7 = 0 ∧ ∃ kA kC kT, Rp (x + 85) kA kC kT (sI I2 m 4) (sF F2 (m + 5) 4) (sF F2 (m + 6) 4) I2 F2) := by
    rw [(far2 x (by omega) (by omega) (by omega) (by omega)).1, m77, (mm m (by omega)).1]
    rcases hKp with hk | ⟨h3, h4, kA, kC, kT, hq⟩
    · exact Or.inl hk
    · refine Or.inr ⟨h3, h4, kA, kC, kT, Rp_feq hq (FEq_fr (fun i h5 h6 => far2 i (by omega) (by omega) (by omega) (by omega))) (fun j hj => ?_) (fun j hj => ?_) (fun j hj => ?_)⟩
      · show I2 (m + 4) (4 * 491 + j) = I (m + 4) (4 * 491 + j)
        rw [s1 4 j (by decide) hj, r4, if_neg (by decide), (mm _ (by omega)).1]
      · show F2 (m + 5) (8 * 4 + j) = F (m + 5) (8 * 4 + j)
        rw [s2 4 j (by decide) hj, r4, if_neg (by decide), (mm _ (by omega)).2]
      · show F2 (m + 6) (8 * 4 + j) = F (m + 6) (8 * 4 + j)
        rw [s3 4 j (by decide) hj, r4, if_neg (by decide), (mm _ (by omega)).2]
  have tx2 : I2 (x + 297) 1 = nI l ∧ I2 m 9 = nI l ∧ l ≤ 60 ∧ ∀ k, k < l → I2 (x + 298) k = I2 (m + 7) k ∧ chr (I2 (x + 298) k) := by
    rw [(far2 (x + 297) (by omega) (by omega) (by omega) (by omega)).1, (far2 (x + 298) (by omega) (by omega) (by omega) (by omega)).1, m9, m7, (mm m (by omega)).1, (mm (m + 7) (by omega)).1]
    exact ⟨hl1, hl2, hl6, hch⟩
  have b85 : RepB (x + 85) I2 := RepB_eq hB2 (fun i h3 h4 => (far2 i (by omega) (by omega) (by omega) (by omega)).1)
  have bH : ∀ i, i < 4 → RepB (x + 127 + 2 + 42 * i) I2 := fun i hi => by
    by_cases hc : i = (o + z) % 4
    · rw [hc]
      exact bS
    · exact RepB_eq (hB3 i hi) (fun j h3 h4 => (far2 j (by omega) (by omega) (by omega) (by omega)).1)
  have b127 : ∀ j, Ib (x + 127) j = I (x + 127) j := fun j => by
    rw [(fB _ (by omega)).1, (fC _ (by omega)).1, (fA _ (by omega)).1]
  by_cases hz5 : z < 4
  · rw [if_pos hz5] at h1
    rw [if_neg (by omega)] at m6
    refine ⟨nA', nC', n', o, z + 1, l, now2, ⟨?_, ho4, ?_, by omega, m6⟩, fun k hk => ?_, kp2, tx2, b43, b85, bH⟩
    · rw [(hx _ (by omega)).1, h1, up2_nj (by decide), b127]
      exact ho
    · rw [(hx _ (by omega)).1, h1, up2_s]
    · by_cases hc : k = z
      · subst hc
        exact new k (by omega) (by unfold rsrc; rw [if_neg (by omega), if_pos rfl])
      · exact old k k (by omega) (by omega) (by unfold rsrc; rw [if_neg (by omega), if_neg hc]) (by omega)
  · have z4 : z = 4 := by omega
    subst z4
    rw [if_neg hz5] at h1
    rw [if_pos rfl] at m6
    refine ⟨nA', nC', n', (o + 1) % 4, 4, l, now2, ⟨?_, by omega, ?_, by omega, m6⟩, fun k hk => ?_, kp2, tx2, b43, b85, bH⟩
    · rw [(hx _ (by omega)).1, h1, up2_s]
    · rw [(hx _ (by omega)).1, h1, up2_nj (by decide), b127]
      exact hz
    · by_cases hc : k = 3
      · subst hc
        have e := new 3 (by omega) (by unfold rsrc; simp)
        rw [show ((o + 1) % 4 + 3) % 4 = (o + 4) % 4 by omega]
        exact e
      · have e := old (k + 1) k (by omega) (by omega) (by unfold rsrc; rw [if_pos rfl, if_pos (by omega)]) (by omega)
        rw [show ((o + 1) % 4 + k) % 4 = (o + (k + 1)) % 4 by omega]
        exact e
/-- only the row before was written, or what is read of orders -/
theorem step_no {x m nA nC n o z l : Nat} {I I2 : pI} {F F2 : pF} (hm : x + 320 ≤ m) (h : InvP x m nA nC n o z l I F) (hI : ∀ i, i ≠ x + 297 → (i < x + 43 ∨ (x + 85 ≤ i ∧ i < x + 300) ∨ (x + 320 ≤ i ∧ i ≠ m)) → I2 i = I i) (hF : ∀ i, (i < x + 43 ∨ x + 85 ≤ i) → F2 i = F i) (h297 : I2 (x + 297) 1 = I (x + 297) 1) (hM : ∀ j, j < 10 → I2 m j = I m j) (hb : RepB (x + 43) I2) : InvP x m nA nC n o z l I2 F2 := by
  obtain ⟨hR0, ⟨ho, ho4, hz, hz4, hmz⟩, hH, hKp, ⟨hl1, hl2, hl6, hch⟩, hB1, hB2, hB3⟩ := h
  have fe : ∀ p, (p = x + 1 ∨ (x + 85 ≤ p ∧ p < x + 256)) → FEq p p I F I2 F2 := fun p hp => FEq_fr (fun i h3 h4 => ⟨hI i (by omega) (by omega), hF i (by omega)⟩)
  have e4 : I2 (m + 4) = I (m + 4) := hI _ (by omega) (by omega)
  have e5 : F2 (m + 5) = F (m + 5) := hF _ (by omega)
  have e6 : F2 (m + 6) = F (m + 6) := hF _ (by omega)
  unfold InvP sI sF
  rw [hI (m + 1) (by omega) (by omega), hF (m + 2) (by omega), hF (m + 3) (by omega), hI (x + 127) (by omega) (by omega), hM 6 (by decide), hM 7 (by decide), hM 9 (by decide), hI x (by omega) (by omega), h297, hI (x + 298) (by omega) (by omega), hI (m + 7) (by omega) (by omega), e4, e5, e6]
  refine ⟨Rp_feq hR0 (fe _ (Or.inl rfl)) (fun _ _ => rfl) (fun _ _ => rfl) (fun _ _ => rfl), ⟨ho, ho4, hz, hz4, hmz⟩, fun k hk => ?_, ?_, ⟨hl1, hl2, hl6, hch⟩, hb, RepB_eq hB2 (fun i h3 h4 => hI i (by omega) (by omega)), fun i hi => RepB_eq (hB3 i hi) (fun j h3 h4 => hI j (by omega) (by omega))⟩
  · obtain ⟨kA, kC, kT, hq⟩ := hH k hk
    exact ⟨kA, kC, kT, Rp_feq hq (fe _ (by omega)) (fun _ _ => rfl) (fun _ _ => rfl) (fun _ _ => rfl)⟩
  · rcases hKp with hk | ⟨h3, h4, kA, kC, kT, hq⟩
    · exact Or.inl hk
    · exact Or.inr ⟨h3, h4, kA, kC, kT, Rp_feq hq (fe _ (by omega)) (fun _ _ => rfl) (fun _ _ => rfl) (fun _ _ => rfl)⟩
theorem act_mid {x o z : Nat} {I I1 : pI} {F F1 : pF} {R : pI → pF → Int32 × pI × pF} {v : Option Value} (h : actQ x o z I F R v I1 F1) (hl : ∀ Ia Fa, Cpy (x + 43) (x + 1) I F Ia Fa → lcl (x + 1) Ia (R Ia Fa).2.1 ∧ lcl (x + 1) Fa (R Ia Fa).2.2) : mid x I F I1 F1 := by
  obtain ⟨Ia, Fa, hc, hv, hq⟩ := h
  obtain ⟨l1, l2⟩ := hl Ia Fa hc
  intro i hi
  have a := Cpy_fr hc (i := i) (by omega)
  rcases hq with ⟨-, h1, h2⟩ | ⟨-, Ib, h1, h2⟩
  · rw [h1, h2, l1 i (by omega), l2 i (by omega)]
    exact a
  · have b := Cpy_fr h1 (i := i) (by omega)
    refine ⟨?_, ?_⟩
    · rw [h2]
      split
      · rw [up2_row (by omega), b.1, l1 i (by omega)]; exact a.1
      · rw [up2_row (by omega), b.1, l1 i (by omega)]; exact a.1
    · rw [b.2, l2 i (by omega)]; exact a.2
/-- an act of the class, then the same of the model -/
theorem act_step {x m nA nC n o z l nA' nC' n' : Nat} {I I1 I2 : pI} {F F1 F2 : pF} {E : Int32} {CR MR : pI → pF → Int32 × pI × pF} {v v' : Option Value} (hm : x + 320 ≤ m) (h : InvP x m nA nC n o z l I F)
    (hc : actQ x o z I F CR v I1 F1) (hq : mActQ m z E MR I1 F1 v' I2 F2) (hl : ∀ Ia Fa, Cpy (x + 43) (x + 1) I F Ia Fa → lcl (x + 1) Ia (CR Ia Fa).2.1 ∧ lcl (x + 1) Fa (CR Ia Fa).2.2) (hM : ∀ J G, mLcl m J G (MR J G).2.1 (MR J G).2.2)
    (hs : ∀ Ia Fa J G, J (m + 1) = I (m + 1) → Rp (x + 1) nA nC n (J (m + 1)) (G (m + 2)) (G (m + 3)) Ia Fa → Sim (x + 1) m nA' nC' n' E (CR Ia Fa) (MR J G) Ia Fa) : v = v' ∧ Inv x m I2 F2 := by
  have hmid := act_mid hc hl
  obtain ⟨Ia, Fa, hcp, hv, hr⟩ := hc
  have hRa : Rp (x + 1) nA nC n (I (m + 1)) (F (m + 2)) (F (m + 3)) Ia Fa := Rp_feq h.1 (FEq_fr (fun i h3 h4 => Cpy_fr hcp (by omega))) (fun _ _ => rfl) (fun _ _ => rfl) (fun _ _ => rfl)
  obtain ⟨l1, l2⟩ := hl Ia Fa hcp
  rcases hq with ⟨hE, hv', rfl, rfl⟩ | ⟨hE, J, G, hrec, hv', hI2, hF2⟩
  · have s := Sim_n (hs Ia Fa I F rfl hRa) hE
    rw [s.2] at hr hv
    rcases hr with ⟨-, e1, e2⟩ | ⟨e1, -⟩
    · refine ⟨hv.trans hv'.symm, nA, nC, n, o, z, l, ?_⟩
      rw [e1, e2]
      show InvP x m nA nC n o z l Ia Fa
      exact step_no hm h (fun i h1 h2 => (Cpy_fr hcp (by omega)).1) (fun i h1 => (Cpy_fr hcp (by omega)).2) (by rw [(Cpy_fr hcp (by omega)).1]) (fun j hj => by rw [(Cpy_fr hcp (by omega)).1]) (fun a ha => by rw [(hcp.1.2.1 a ha).2.1]; exact h.1.1.2.2.2.2.2.2 a ha)
    · exact absurd s.1 e1
  · have eJ : J (m + 1) = I (m + 1) := (mRec_row hrec).trans (hmid _ (by omega)).1
    have eG2 : G (m + 2) = F (m + 2) := (hrec.2.2.2.1 _ (by omega) (by omega)).trans (hmid _ (by omega)).2
    have eG3 : G (m + 3) = F (m + 3) := (hrec.2.2.2.1 _ (by omega) (by omega)).trans (hmid _ (by omega)).2
    have s := Sim_0 (hs Ia Fa J G eJ (by rw [eJ, eG2, eG3]; exact hRa)) hE
    have nneg : ¬ (CR Ia Fa).1 < 0 := i_nle s.2.1
    rcases hr with ⟨e1, -⟩ | ⟨-, Ib, e1, e2⟩
    · exact absurd e1 nneg
    · have hh := mHist_of hrec (hM J G)
      rw [← hI2, ← hF2] at hh
      refine ⟨by rw [hv, hv', s.1], step_ok hm h hcp ⟨l1, l2⟩ e1 e2 hh hh.1.1 (by rw [hI2, hF2]; exact s.2.2)⟩
