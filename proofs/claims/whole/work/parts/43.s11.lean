/-! perform, class and model -/
section RC
variable {x x' : Nat → Int32} {l : Nat}
theorem dig_c (h : ∀ k, k < l → x' k = x k) (a : Nat) : digB x' l a = digB x l a := by
  unfold digB
  by_cases ha : a < l
  · rw [h a ha]
  · rw [decide_eq_false ha, Bool.false_and, Bool.false_and]
theorem sgn_c (h : ∀ k, k < l → x' k = x k) (a : Nat) (g : Int32) : sgnB x' l a g = sgnB x l a g := by
  unfold sgnB
  by_cases ha : a < l
  · rw [h a ha]
  · rw [decide_eq_false ha, Bool.false_and, Bool.false_and]
theorem num_c (h : ∀ k, k < l → x' k = x k) {a : Nat} (ha : digB x l a = true) : numV x' l a = numV x l a := by
  unfold numV
  rw [dig_c h, h a (dig_lt ha)]
  by_cases hc : ¬ x a - 48 = 0 ∧ digB x l (a + 1) = true
  · rw [if_pos hc, if_pos hc, h (a + 1) (dig_lt hc.2)]
  · rw [if_neg hc, if_neg hc]
theorem ord_c (h : ∀ k, k < l → x' k = x k) (a : Nat) : ordV x' l a = ordV x l a := by
  unfold ordV
  by_cases h0 : a < l
  · rw [if_pos h0, if_pos h0]
    simp only [dig_c h, sgn_c h, h a h0]
    by_cases h1 : digB x l (a + 1) = true
    · simp only [if_pos h1, num_c h h1, h (a + 1) (dig_lt h1)]
      by_cases h2 : digB x l ((numV x l (a + 1)).2 + 1) = true
      · simp only [if_pos h2, h _ (dig_lt h2)]
      · simp only [if_neg h2]
    · simp only [if_neg h1]
  · rw [if_neg h0, if_neg h0]
theorem rd_c (h : ∀ k, k < l → x' k = x k) : ∀ (n a : Nat), rdV x' l n a = rdV x l n a
  | 0, _ => rfl
  | n + 1, a => by
    rw [rdV, rdV, ord_c h, sgn_c h, rd_c h n]
end RC
theorem folL_lcl {p nA nC n : Nat} : ∀ (L : List (Int32 × Int32 × Int32)) (I : pI) (F : pF), pOK p I nA nC n → lcl p I (folL p nA n L I F).2.1 ∧ lcl p F (folL p nA n L I F).2.2
  | [], _, _, _ => ⟨lcl_0, lcl_0⟩
  | o :: L, I, F, h => by
    obtain ⟨h1, h2, h3⟩ := pk_fol (F := F) (o := o) h
    by_cases hc : (folR I F p nA n o).1 < 0 ∧ ¬ (folR I F p nA n o).1 = -5
    · rw [fol_t hc.1 hc.2]
      exact ⟨h2, h3⟩
    · rw [fol_f hc]
      obtain ⟨h4, h5⟩ := folL_lcl L _ (folR I F p nA n o).2.2 h1
      exact ⟨fun i hi => (h4 i hi).trans (h2 i hi), fun i hi => (h5 i hi).trans (h3 i hi)⟩
theorem step_bk {x m nA nC n o z l : Nat} {I I1 I2 : pI} {F F1 F2 : pF} (hm : x + 320 ≤ m) (h : InvP x m nA nC n o z l I F) (now : FEq (x + 1) (x + 1) I F I1 F1) (far : ∀ i, i ≠ x + 297 → (i < x + 1 ∨ (x + 85 ≤ i ∧ i < x + 300) ∨ x + 320 ≤ i) → I1 i = I i) (farF : ∀ i, (i < x + 1 ∨ x + 85 ≤ i) → F1 i = F i) (h297 : I1 (x + 297) 1 = I (x + 297) 1) (hb : RepB (x + 43) I1) (hk : mBack m I1 F1 I2 F2) : Inv x m I2 F2 := by
  obtain ⟨hR0, ⟨ho, ho4, hz, hz4, hmz⟩, hH, hKp, ⟨hl1, hl2, hl6, hch⟩, hB1, hB2, hB3⟩ := h
  obtain ⟨⟨k1, k7, k77, k9⟩, k6, ⟨s1, s2, s3⟩, r1, r2, r3⟩ := hk
  have far2 : ∀ i, i ≠ x + 297 → (i < x + 1 ∨ (x + 85 ≤ i ∧ i < x + 300)) → I2 i = I i := fun i h1 h2 => by
    rw [(k1 i (by omega)).1, far i h1 (by omega)]
  have farF2 : ∀ i, (i < x + 1 ∨ x + 85 ≤ i) → i < m → F2 i = F i := fun i h1 h2 => by
    rw [(k1 i (by omega)).2, farF i h1]
  have fe : ∀ p, x + 85 ≤ p → p < x + 256 → FEq p p I F I2 F2 := fun p h1 h2 => FEq_fr (fun i h3 h4 => ⟨far2 i (by omega) (by omega), farF2 i (by omega) (by omega)⟩)
  have eq1 : ∀ i, x + 320 ≤ i → I1 i = I i ∧ F1 i = F i := fun i hi => ⟨far i (by omega) (by omega), farF i (by omega)⟩
  have slI : ∀ k, k < 5 → ∀ j, j < 491 → sI I2 m k j = sI I m k j := fun k hk j hj => by
    show I2 (m + 4) (k * 491 + j) = I (m + 4) (k * 491 + j)
    have s : I2 (m + 4) (k * 491 + j) = if k = 5 then I1 (m + 1) j else I1 (m + 4) (k * 491 + j) := s1 k j hk hj
    rw [s, if_neg (by omega), (eq1 _ (by omega)).1]
  have sl5 : ∀ k, k < 5 → ∀ j, j < 8 → sF F2 (m + 5) k j = sF F (m + 5) k j := fun k hk j hj => by
    show F2 (m + 5) (8 * k + j) = F (m + 5) (8 * k + j)
    have s : F2 (m + 5) (8 * k + j) = if k = 5 then F1 (m + 2) j else F1 (m + 5) (8 * k + j) := s2 k j hk hj
    rw [s, if_neg (by omega), (eq1 _ (by omega)).2]
  have sl6 : ∀ k, k < 5 → ∀ j, j < 8 → sF F2 (m + 6) k j = sF F (m + 6) k j := fun k hk j hj => by
    show F2 (m + 6) (8 * k + j) = F (m + 6) (8 * k + j)
    have s : F2 (m + 6) (8 * k + j) = if k = 5 then F1 (m + 3) j else F1 (m + 6) (8 * k + j) := s3 k j hk hj
    rw [s, if_neg (by omega), (eq1 _ (by omega)).2]
  refine ⟨nA, nC, n, o, z, l, ?_, ⟨?_, ho4, ?_, hz4, ?_⟩, fun k hk => ?_, ?_, ?_, ?_, ?_, fun i hi => ?_⟩
  · refine Rp_feq hR0 (FEq_t now (FEq_fr (fun i h3 h4 => k1 i (by omega)))) (fun j hj => ?_) (fun j hj => ?_) (fun j hj => ?_)
    · rw [r1 j hj, (eq1 _ (by omega)).1]
    · rw [r2 j hj, (eq1 _ (by omega)).2]
    · rw [r3 j hj, (eq1 _ (by omega)).2]
  · rw [far2 (x + 127) (by omega) (by omega)]; exact ho
  · rw [far2 (x + 127) (by omega) (by omega)]; exact hz
  · rw [k6, (eq1 m hm).1]; exact hmz
  · obtain ⟨kA, kC, kT, hq⟩ := hH k hk
    exact ⟨kA, kC, kT, Rp_feq hq (fe _ (by omega) (by omega)) (slI k (by omega)) (sl5 k (by omega)) (sl6 k (by omega))⟩
  · rw [far2 x (by omega) (by omega), k77, (eq1 m hm).1]
    rcases hKp with hk | ⟨h3, h4, kA, kC, kT, hq⟩
    · exact Or.inl hk
    · exact Or.inr ⟨h3, h4, kA, kC, kT, Rp_feq hq (fe _ (by omega) (by omega)) (slI 4 (by decide)) (sl5 4 (by decide)) (sl6 4 (by decide))⟩
  · rw [(k1 (x + 297) (by omega)).1, h297, k9, (eq1 m hm).1, far2 (x + 298) (by omega) (by omega), k7, (eq1 (m + 7) (by omega)).1]
    exact ⟨hl1, hl2, hl6, hch⟩
  · exact RepB_eq hb (fun i h3 h4 => (k1 i (by omega)).1)
  · exact RepB_eq hB2 (fun i h3 h4 => far2 i (by omega) (by omega))
  · exact RepB_eq (hB3 i hi) (fun j h3 h4 => far2 j (by omega) (by omega))
theorem st_perform {x m nA nC n o z l : Nat} {I I1 : pI} {F F1 : pF} {v : Option Value} (hm : x + 320 ≤ m) (h : InvP x m nA nC n o z l I F) (hc : perQ x l nA n o z I F v I1 F1) :
    I1 m 6 = nI z ∧ z ≤ 4 ∧ I1 m 9 = nI l ∧ l ≤ 60 ∧ ∃ Ic Fc, Rp (x + 1) nA nC n (I1 (m + 1)) (F1 (m + 2)) (F1 (m + 3)) Ic Fc ∧ ∀ v' I2 F2, mPerQ m (x + 1) z l nA nC n Ic Fc I1 F1 v' I2 F2 → v = v' ∧ Inv x m I2 F2 := by
  have hkk := InvP_cOK h
  obtain ⟨hR0, ⟨ho, ho4, hz, hz4, hmz⟩, hH, hKp, ⟨hl1, hl2, hl6, hch⟩, hB1, hB2, hB3⟩ := id h
  have frn : ∀ J : pI, frR (x + 297) I J → InvP x m nA nC n o z l J F := fun J hf => by
    have hr : ∀ i, i ≠ x + 297 → (i < x + 300 ∨ x + 320 ≤ i) → J i = I i := fun i h1 h2 => funext fun j => hf i j (by omega) (by omega)
    exact step_no hm h (fun i h1 h2 => hr i h1 (by omega)) (fun _ _ => rfl) (hf _ _ (by omega) (by omega)) (fun j hj => by rw [hr m (by omega) (by omega)]) (RepB_eq hB1 (fun i h3 h4 => hr i (by omega) (by omega)))
  rcases hc with ⟨y, hy, hv, e1, hf⟩ | ⟨hy, I0, Ia, Fa, hf, hcp, hq⟩
  · have hi1 := frn I1 hf
    have e7 : I1 (m + 7) = I (m + 7) := funext fun j => hf _ _ (by omega) (by omega)
    have em : I1 m = I m := funext fun j => hf _ _ (by omega) (by omega)
    rw [e1]
    refine ⟨hi1.2.1.2.2.2.2, hz4, hi1.2.2.2.2.1.2.1, hl6, I1, F, hi1.1, fun v' I2 F2 hq => ?_⟩
    have erd : rdV (I1 (m + 7)) l 20 0 = rdV (I (x + 298)) l 20 0 := rd_c (fun k hk => by rw [e7]; exact ((hch k hk).1).symm) 20 0
    unfold mPerQ at hq
    rw [erd, hy] at hq
    rcases hq with ⟨y', hy', hv', e2, hme⟩ | ⟨hn, -⟩
    · cases hy'
      refine ⟨hv.trans hv'.symm, nA, nC, n, o, z, l, ?_⟩
      rw [e2]
      exact step_no hm hi1 (fun i h1 h2 => mEq_r hme (by omega)) (fun _ _ => rfl) (by rw [mEq_r hme (by omega)]) (fun j hj => hme m j (by omega)) (RepB_eq hi1.2.2.2.2.2.1 (fun i h3 h4 => mEq_r hme (by omega)))
    · cases hn
  · have hi0 := frn I0 hf
    have hRa : Rp (x + 1) nA nC n (I0 (m + 1)) (F (m + 2)) (F (m + 3)) Ia Fa := Rp_feq hi0.1 (FEq_fr (fun i h3 h4 => Cpy_fr hcp (by omega))) (fun _ _ => rfl) (fun _ _ => rfl) (fun _ _ => rfl)
    obtain ⟨lc1, lc2⟩ := folL_lcl (rdV (I (x + 298)) l 20 0).1 Ia Fa (Rep_pOK hRa.1)
    -- what the class leaves of the rest
    have hmid : ∀ i, x + 320 ≤ i → I1 i = I0 i ∧ F1 i = F i := fun i hi => by
      have a := Cpy_fr hcp (i := i) (by omega)
      have b := lc1 i (by omega)
      have c := lc2 i (by omega)
      rcases hq with ⟨e, -, -, hb⟩ | ⟨-, hb⟩
      · have d := Cpy_fr hb (i := i) (by omega)
        exact ⟨d.1.trans (b.trans a.1), d.2.trans (c.trans a.2)⟩
      · have d := rec_mid hb i (by omega)
        exact ⟨d.1.trans (b.trans a.1), d.2.trans (c.trans a.2)⟩
    have em : I1 m = I0 m := (hmid m hm).1
    have em1 : I1 (m + 1) = I0 (m + 1) := (hmid _ (by omega)).1
    have e7 : I1 (m + 7) = I (m + 7) := (hmid _ (by omega)).1.trans (funext fun j => hf _ _ (by omega) (by omega))
    refine ⟨by rw [em]; exact hi0.2.1.2.2.2.2, hz4, by rw [em]; exact hi0.2.2.2.2.1.2.1, hl6, Ia, Fa, by rw [em1, (hmid (m + 2) (by omega)).2, (hmid (m + 3) (by omega)).2]; exact hRa, fun v' I2 F2 hq2 => ?_⟩
    have erd : rdV (I1 (m + 7)) l 20 0 = rdV (I (x + 298)) l 20 0 := rd_c (fun k hk => by rw [e7]; exact ((hch k hk).1).symm) 20 0
    unfold mPerQ at hq2
    rw [erd, hy] at hq2
    rcases hq2 with ⟨y', hy', -⟩ | ⟨-, hq2⟩
    · cases hy'
    · rcases hq with ⟨e, he, hv, hb⟩ | ⟨he, hb⟩
      · rcases hq2 with ⟨e', he', hv', hk⟩ | ⟨he', -⟩
        · rw [he] at he'
          cases he'
          refine ⟨hv.trans hv'.symm, step_bk hm hi0 ?_ (fun i h1 h2 => ?_) (fun i h1 => ?_) ?_ (fun a ha => ?_) hk⟩
          · exact FEq_t (FEq_cpy hcp) (FEq_t (FEq_fr (fun i h3 h4 => ⟨lc1 i (by omega), lc2 i (by omega)⟩)) (FEq_cpy hb))
          · rw [(Cpy_fr hb (by omega)).1, lc1 i (by omega), (Cpy_fr hcp (by omega)).1]
          · rw [(Cpy_fr hb (by omega)).2, lc2 i (by omega), (Cpy_fr hcp (by omega)).2]
          · rw [(Cpy_fr hb (by omega)).1, lc1 _ (by omega), (Cpy_fr hcp (by omega)).1]
          · rw [(Cpy_fr hb (by omega)).1, lc1 _ (by omega), (hcp.1.2.1 a ha).2.1]
            exact hi0.1.1.2.2.2.2.2.2 a ha
        · rw [he] at he'
          cases he'
      · rcases hq2 with ⟨e', he', -⟩ | ⟨-, hv', hR, hh⟩
        · rw [he] at he'
          cases he'
        · obtain ⟨hv, hb⟩ := hb
          have nn : ¬ nI (rdV (I (x + 298)) l 20 0).1.length < 0 := by
            have := rd_len (x := I (x + 298)) (l := l) 20 0
            exact nI_pos (by omega)
          rcases hb with ⟨h1, -⟩ | ⟨-, Ib, h1, h2⟩
          · exact absurd h1 nn
          · exact ⟨hv.trans hv'.symm, step_ok hm hi0 hcp ⟨lc1, lc2⟩ h1 h2 hh hh.1.1 hR⟩
