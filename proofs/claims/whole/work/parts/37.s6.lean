/-! a tag hung, a tag lifted -/
/-- one task's tag comes -/
theorem tags_up {p n t0 a0 : Nat} {I I' : pI} (hI : ∀ t, t < n → t ≠ t0 → I' (p + 18 + t) 0 = I (p + 18 + t) 0 ∧ I' (p + 18 + t) 7 = I (p + 18 + t) 7) (h0 : I' (p + 18 + t0) 0 = I (p + 18 + t0) 0) (e0 : I (p + 18 + t0) 0 = nI a0) (ht : t0 < n) (g1 : ¬ hng I p t0) (g2 : hng I' p t0) : tagsC I' p n (nI a0) = tagsC I p n (nI a0) + 1 := by
  unfold tagsC
  refine cnt_set (t0 := t0) ?_ ?_ ht (fun t h1 h2 => ?_)
  · rw [decide_eq_false (show ¬ (1 ≤ I (p + 18 + t0) 7 ∧ I (p + 18 + t0) 7 ≤ 3) from g1), Bool.and_false]
  · rw [h0, e0, decide_eq_true rfl, decide_eq_true (show 1 ≤ I' (p + 18 + t0) 7 ∧ I' (p + 18 + t0) 7 ≤ 3 from g2)]
    rfl
  · rw [(hI t h1 h2).1, (hI t h1 h2).2]
theorem tags_ne {p n t0 a0 a : Nat} {I I' : pI} (hI : ∀ t, t < n → t ≠ t0 → I' (p + 18 + t) 0 = I (p + 18 + t) 0 ∧ I' (p + 18 + t) 7 = I (p + 18 + t) 7) (h0 : I' (p + 18 + t0) 0 = I (p + 18 + t0) 0) (e0 : I (p + 18 + t0) 0 = nI a0) (hne : a ≠ a0) (ha : a < 8) (ha0 : a0 < 8) : tagsC I' p n (nI a) = tagsC I p n (nI a) := by
  unfold tagsC
  refine cnt_congr (fun t ht => ?_)
  by_cases hc : t = t0
  · subst hc
    rw [h0, e0, decide_eq_false (fun z => hne ((nI_eq (by omega) (by omega)).mp z).symm), Bool.false_and, Bool.false_and]
  · rw [(hI t ht hc).1, (hI t ht hc).2]
theorem Rep_hang {p nA nC n t0 a0 c0 : Nat} {N N' : Nat → Int32} {H O : Nat → UInt32} {I I' : pI} {F : pF} (h : Rep p nA nC n N H O I F) (ht : t0 < n) (ha0 : a0 < nA) (ea : N (251 + 10 * t0 + 0) = nI a0) (hc0 : c0 < nC) (st : N (251 + 10 * t0 + 6) = 0)
    (hI : ∀ i, i ≠ p + 18 + t0 → I' i = I i) (hJ : ∀ j, j ≠ 7 → j ≠ 8 → j ≠ 11 → I' (p + 18 + t0) j = I (p + 18 + t0) j) (i7 : I' (p + 18 + t0) 7 = 1) (i8 : I' (p + 18 + t0) 8 = nI c0) (i11 : I' (p + 18 + t0) 11 = nI (tagsC I p n (nI a0)))
    (hN : ∀ j, j ≠ 44 + 24 * a0 + tagsC I p n (nI a0) → j ≠ 4 + 5 * a0 + 4 → j ≠ 251 + 10 * t0 + 6 → j ≠ 251 + 10 * t0 + 7 → N' j = N j) (nT : N' (44 + 24 * a0 + tagsC I p n (nI a0)) = nI t0) (nG : N' (4 + 5 * a0 + 4) = nI (tagsC I p n (nI a0) + 1)) (n6 : N' (251 + 10 * t0 + 6) = 1) (n7 : N' (251 + 10 * t0 + 7) = nI c0) : Rep p nA nC n N' H O I' F := by
  obtain ⟨⟨a1, a2, a3, a4, a5, a6, a7, a8, a9, hh, b1, b2, b3⟩, hR, hA, hC, hT, hK, hB⟩ := id h
  have g0 := hT t0 ht
  have e0 : I (p + 18 + t0) 0 = nI a0 := (Tj g0 (by decide)).trans ea
  have nh : ¬ hng I p t0 := by
    unfold hng
    rw [T7 g0, st]
    decide
  have yh : hng I' p t0 := by
    unfold hng
    rw [i7]
    decide
  have hI2 : ∀ t, t < n → t ≠ t0 → I' (p + 18 + t) 0 = I (p + 18 + t) 0 ∧ I' (p + 18 + t) 7 = I (p + 18 + t) 7 := fun t _ hne => by rw [hI _ (by omega)]; exact ⟨rfl, rfl⟩
  have tu := tags_up hI2 (hJ 0 (by decide) (by decide) (by decide)) e0 ht nh yh
  have tn : ∀ a, a < nA → a ≠ a0 → tagsC I' p n (nI a) = tagsC I p n (nI a) := fun a ha hne => tags_ne hI2 (hJ 0 (by decide) (by decide) (by decide)) e0 hne (by omega) (by omega)
  have q0 : tagsC I' p n (nI a0) ≤ 24 := tags_24 a9
  have tq : ∀ a, tagsC I p n (nI a) ≤ 24 := fun a => tags_24 a9
  have tle : ∀ a, a < nA → tagsC I p n (nI a) ≤ tagsC I' p n (nI a) := fun a ha => by
    by_cases hc : a = a0
    · subst hc
      omega
    · rw [tn a ha hc]
      exact Nat.le_refl _
  have ep := hI p (by omega)
  refine ⟨⟨(congrFun ep 4).trans a1, (hN 1 (by omega) (by omega) (by omega) (by omega)).trans a2, a3, (congrFun ep 5).trans a4, (hN 2 (by omega) (by omega) (by omega) (by omega)).trans a5, a6, (congrFun ep 6).trans a7, (hN 3 (by omega) (by omega) (by omega) (by omega)).trans a8, a9, hh, b1, (congrFun ep 7).trans b2, (hN 0 (by omega) (by omega) (by omega) (by omega)).trans b3⟩, fun k hk => ?_, fun a ha => ?_, fun c hc => ?_, fun t ht' => ?_, fun a ha g hg => ?_, fun a ha => ?_⟩
  · rw [hI _ (by omega), hN _ (by omega) (by omega) (by omega) (by omega)]
    exact hR k hk
  · by_cases hc : a = a0
    · subst hc
      obtain ⟨c1, c2, c3, c4, c5, c6, c7, c8⟩ := hA a ha
      unfold RepA mWear
      rw [tu, nG, hI _ (by omega), hN (4 + 5 * a + 0) (by omega) (by omega) (by omega) (by omega), hN (4 + 5 * a + 1) (by omega) (by omega) (by omega) (by omega), hN (4 + 5 * a + 2) (by omega) (by omega) (by omega) (by omega), hN (4 + 5 * a + 3) (by omega) (by omega) (by omega) (by omega)]
      exact ⟨c1, c2, c3, c4, c5, c6, c7, rfl⟩
    · exact RepA_fr (hA a ha) (hI _ (by omega)) rfl (fun j _ => hN _ (by omega) (by omega) (by omega) (by omega)) rfl rfl (tn a ha hc)
  · rw [hI _ (by omega), hN _ (by omega) (by omega) (by omega) (by omega), hN _ (by omega) (by omega) (by omega) (by omega)]
    exact hC c hc
  · by_cases hc : t = t0
    · subst hc
      obtain ⟨c1, c2, c3, c4, c5, c6, a, ha, c7, c8⟩ := g0
      have nj : ∀ j, j ≠ 6 → j ≠ 7 → N' (251 + 10 * t + j) = N (251 + 10 * t + j) := fun j h1 h2 => hN _ (by omega) (by omega) (by omega) (by omega)
      refine ⟨fun j hj => ?_, ?_, fun j h1 h2 => ?_, by rw [nj 3 (by decide) (by decide)]; exact c4, by rw [nj 4 (by decide) (by decide)]; exact c5, fun z => absurd (n6.symm.trans z) (by decide), a0, ha0, (nj 0 (by decide) (by decide)).trans ea, fun _ => ⟨⟨c0, hc0, n7⟩, tagsC I p n (nI a0), by omega, i11, nT⟩⟩
      · rw [hJ j (by omega) (by omega) (by omega), nj j (by omega) (by omega)]
        exact c1 j hj
      · rw [hJ 6 (by decide) (by decide) (by decide), mEnd, nj 5 (by decide) (by decide), nj 4 (by decide) (by decide)]
        exact c2
      · rcases (show j = 7 ∨ j = 8 ∨ j = 9 ∨ j = 10 by omega) with rfl | rfl | rfl | rfl
        · exact i7.trans n6.symm
        · exact i8.trans n7.symm
        · exact (hJ 9 (by decide) (by decide) (by decide)).trans ((c3 9 (by decide) (by decide)).trans (nj 8 (by decide) (by decide)).symm)
        · exact (hJ 10 (by decide) (by decide) (by decide)).trans ((c3 10 (by decide) (by decide)).trans (nj 9 (by decide) (by decide)).symm)
    · exact RepT_fr (hT t ht') (fun j _ => by rw [hI _ (by omega)]) (fun j _ => hN _ (by omega) (by omega) (by omega) (by omega)) (Nat.le_refl _) (Nat.le_refl _) (fun a g ha _ _ _ h5 _ => ⟨Nat.lt_of_lt_of_le h5 (tle a ha), by
        have := tq a
        have := tq a0
        refine hN _ ?_ (by omega) (by omega) (by omega)
        by_cases hq : a = a0
        · subst hq
          omega
        · omega⟩)
  · by_cases hc : a = a0
    · subst hc
      rw [tu] at hg
      by_cases hl : g = tagsC I p n (nI a)
      · subst hl
        exact ⟨t0, ht, (hJ 0 (by decide) (by decide) (by decide)).trans e0, yh, i11⟩
      · obtain ⟨t, d1, d2, d3, d4⟩ := hK a ha g (by omega)
        have hne : t ≠ t0 := fun z => nh (z ▸ d3)
        exact ⟨t, d1, by rw [hI _ (by omega)]; exact d2, (hng_eq (by rw [hI _ (by omega)])).mpr d3, by rw [hI _ (by omega)]; exact d4⟩
    · rw [tn a ha hc] at hg
      obtain ⟨t, d1, d2, d3, d4⟩ := hK a ha g hg
      have hne : t ≠ t0 := fun z => nh (z ▸ d3)
      exact ⟨t, d1, by rw [hI _ (by omega)]; exact d2, (hng_eq (by rw [hI _ (by omega)])).mpr d3, by rw [hI _ (by omega)]; exact d4⟩
  · rw [hI _ (by omega)]
    exact hB a ha
theorem hang_sim {p m nA nC n : Nat} {a c : Int32} {J : pI} {G : pF} {I : pI} {F : pF} (hp : Rp p nA nC n (J (m + 1)) (G (m + 2)) (G (m + 3)) I F) : Sim p m nA nC n (mHangE (J (m + 1)) n a c) (hangR I F p n a c) (mHangR J G m a c) I F := by
  obtain ⟨h, hS⟩ := hp
  have a9 : n ≤ 24 := h.1.2.2.2.2.2.2.2.2.1
  have a3 : nA ≤ 8 := h.1.2.2.1
  have a6 : nC ≤ 5 := h.1.2.2.2.2.2.1
  unfold hangR mHangE
  rw [h.1.2.2.2.2.2.2.1, h.1.2.2.2.2.2.2.2.1, h.1.2.2.2.1, h.1.2.2.2.2.1]
  by_cases hc : (0 ≤ a ∧ a < nI n) ∧ (0 ≤ c ∧ c < nI nC)
  · rw [if_pos hc, if_pos hc]
    obtain ⟨t, ht, rfl⟩ := has_nat (decide_eq_true hc.1) rfl (by omega)
    obtain ⟨d, hd, rfl⟩ := has_nat (decide_eq_true hc.2) rfl (by omega)
    have cl : (nI t).toNatClampNeg = t := nI_clamp (by omega)
    have cld : (nI d).toNatClampNeg = d := nI_clamp (by omega)
    have g := h.2.2.2.2.1 t ht
    obtain ⟨a', k, ha, hk, e0, e3, eA, eK, f0, f3⟩ := atk h ht
    have cla : (nI a').toNatClampNeg = a' := nI_clamp (by omega)
    obtain ⟨-, -, -, -, c5, -, -, c8⟩ := h.2.2.1 a' ha
    have tq : tagsC I p n (nI a') ≤ 24 := tags_24 a9
    unfold mHangR
    rw [cl, cld, eA, f0, cla, c5, T7 g, serve_eq h hd ht, c8, nI_clamp (show tagsC I p n (nI a') < 2 ^ 31 by omega)]
    by_cases hs : J (m + 1) (251 + 10 * t + 6) = 0 ∧ J (m + 1) (4 + 5 * a' + 2) = 0 ∧ mServe (J (m + 1)) n t d = true
    · rw [if_pos hs, if_pos hs]
      refine Or.inl ⟨rfl, rfl, nI_pos' (by omega), ?_, ?_⟩
      · refine Rep_hang h ht ha e0 hd hs.1 (fun i hi => (up2_row hi).trans ((up2_row hi).trans (up2_row hi))) (fun j h1 h2 h3 => (up2_nj h2).trans ((up2_nj h1).trans (up2_nj h3))) ((up2_nj (by decide)).trans up2_s) up2_s ?_ (fun j h1 h2 h3 h4 => (up2_nj h4).trans ((up2_nj h3).trans ((up2_nj h2).trans (up2_nj h1)))) ?_ ?_ ?_ up2_s
        · exact (up2_nj (by decide)).trans ((up2_nj (by decide)).trans (up2_s.trans (by rw [f0])))
        · exact (up2_nj (by omega)).trans ((up2_nj (by omega)).trans ((up2_nj (by omega)).trans up2_s))
        · exact (up2_nj (by omega)).trans ((up2_nj (by omega)).trans up2_s)
        · exact (up2_nj (by omega)).trans up2_s
      · exact Slp_eq hS ((up2_nj (by omega)).trans ((up2_nj (by omega)).trans ((up2_nj (by omega)).trans (up2_nj (by omega))))) (fun t' ht' => Or.inl ⟨ht', (up2_nj (by omega)).trans ((up2_nj (by omega)).trans ((up2_nj (by omega)).trans (up2_nj (by omega))))⟩)
    · rw [if_neg hs, if_neg hs]
      exact Or.inr ⟨by decide, rfl⟩
  · rw [if_neg hc, if_neg hc]
    exact Or.inr ⟨by decide, rfl⟩
theorem Rep_lift {p nA nC n t0 a0 : Nat} {N N' : Nat → Int32} {H O : Nat → UInt32} {I I' : pI} {F : pF} (h : Rep p nA nC n N H O I F) (ht : t0 < n) (ha0 : a0 < nA) (ea : N (251 + 10 * t0 + 0) = nI a0) (hg0 : hng I p t0) (ng0 : ¬ hng I' p t0) (top : N (44 + 24 * a0 + tagsC I p n (nI a0) - 1) = nI t0)
    (hI : ∀ i, i ≠ p + 18 + t0 → I' i = I i) (hJ : ∀ j, j ≠ 7 → j ≠ 8 → I' (p + 18 + t0) j = I (p + 18 + t0) j) (i7 : I' (p + 18 + t0) 7 = N' (251 + 10 * t0 + 6)) (i8 : I' (p + 18 + t0) 8 = N' (251 + 10 * t0 + 7)) (n6 : ¬ N' (251 + 10 * t0 + 6) = 2)
    (hN : ∀ j, j ≠ 4 + 5 * a0 + 4 → j ≠ 251 + 10 * t0 + 6 → j ≠ 251 + 10 * t0 + 7 → N' j = N j) (nG : N' (4 + 5 * a0 + 4) = N (4 + 5 * a0 + 4) - 1) : Rep p nA nC n N' H O I' F ∧ nI (tagsC I' p n (nI a0)) = N (4 + 5 * a0 + 4) - 1 ∧ tagsC I' p n (nI a0) ≤ 24 := by
  obtain ⟨⟨a1, a2, a3, a4, a5, a6, a7, a8, a9, hh, b1, b2, b3⟩, hR, hA, hC, hT, hK, hB⟩ := id h
  have gt := hT t0 ht
  have e0 : I (p + 18 + t0) 0 = nI a0 := (Tj gt (by decide)).trans ea
  have e0' : I' (p + 18 + t0) 0 = nI a0 := (hJ 0 (by decide) (by decide)).trans e0
  have hI2 : ∀ t, t < n → t ≠ t0 → I (p + 18 + t) 0 = I' (p + 18 + t) 0 ∧ I (p + 18 + t) 7 = I' (p + 18 + t) 7 := fun t _ hne => by rw [hI _ (by omega)]; exact ⟨rfl, rfl⟩
  have tu := tags_up hI2 (e0.trans e0'.symm) e0' ht ng0 hg0
  have tn : ∀ a, a < nA → a ≠ a0 → tagsC I' p n (nI a) = tagsC I p n (nI a) := fun a ha hne => (tags_ne hI2 (e0.trans e0'.symm) e0' hne (by omega) (by omega)).symm
  have tq : ∀ a, tagsC I p n (nI a) ≤ 24 := fun a => tags_24 a9
  have q9 := tq a0
  have c8 := (hA a0 ha0).2.2.2.2.2.2.2
  have nG2 : N (4 + 5 * a0 + 4) - 1 = nI (tagsC I' p n (nI a0)) := by
    rw [c8, tu]
    exact pk_sub (a := tagsC I' p n (nI a0) + 1) (b := 1) (by omega)
  have own : ∀ t a g, t < n → a < nA → N (251 + 10 * t + 0) = nI a → I (p + 18 + t) 11 = nI g → hng I p t → t ≠ t0 → g < tagsC I p n (nI a) → N (44 + 24 * a + g) = nI t → g < tagsC I' p n (nI a) := by
    intro t a g ht' ha e1 e2 e3 e4 e5 e6
    by_cases hc : a = a0
    · subst hc
      rcases Nat.lt_or_ge g (tagsC I' p n (nI a)) with h1 | h1
      · exact h1
      · have eg : 44 + 24 * a + g = 44 + 24 * a + tagsC I p n (nI a) - 1 := by omega
        rw [eg, top] at e6
        exact absurd ((nI_eq (by omega) (by omega)).mp e6).symm e4
    · rw [tn a ha hc]
      exact e5
  have ep := hI p (by omega)
  refine ⟨⟨⟨(congrFun ep 4).trans a1, (hN 1 (by omega) (by omega) (by omega)).trans a2, a3, (congrFun ep 5).trans a4, (hN 2 (by omega) (by omega) (by omega)).trans a5, a6, (congrFun ep 6).trans a7, (hN 3 (by omega) (by omega) (by omega)).trans a8, a9, hh, b1, (congrFun ep 7).trans b2, (hN 0 (by omega) (by omega) (by omega)).trans b3⟩, fun k hk => ?_, fun a ha => ?_, fun c hc => ?_, fun t ht' => ?_, fun a ha g hg => ?_, fun a ha => ?_⟩, nG2.symm, by omega⟩
  · rw [hI _ (by omega), hN _ (by omega) (by omega) (by omega)]
    exact hR k hk
  · by_cases hc : a = a0
    · subst hc
      obtain ⟨c1, c2, c3, c4, c5, c6, c7, -⟩ := hA a ha
      unfold RepA mWear
      rw [nG, nG2, hI _ (by omega), hN (4 + 5 * a + 0) (by omega) (by omega) (by omega), hN (4 + 5 * a + 1) (by omega) (by omega) (by omega), hN (4 + 5 * a + 2) (by omega) (by omega) (by omega), hN (4 + 5 * a + 3) (by omega) (by omega) (by omega)]
      exact ⟨c1, c2, c3, c4, c5, c6, c7, rfl⟩
    · exact RepA_fr (hA a ha) (hI _ (by omega)) rfl (fun j _ => hN _ (by omega) (by omega) (by omega)) rfl rfl (tn a ha hc)
  · rw [hI _ (by omega), hN _ (by omega) (by omega) (by omega), hN _ (by omega) (by omega) (by omega)]
    exact hC c hc
  · by_cases hc : t = t0
    · subst hc
      obtain ⟨c1, c2, c3, c4, c5, c6, a, ha, c7, -⟩ := gt
      have nj : ∀ j, j ≠ 6 → j ≠ 7 → N' (251 + 10 * t + j) = N (251 + 10 * t + j) := fun j h1 h2 => hN _ (by omega) (by omega) (by omega)
      refine ⟨fun j hj => ?_, ?_, fun j h1 h2 => ?_, by rw [nj 3 (by decide) (by decide)]; exact c4, by rw [nj 4 (by decide) (by decide)]; exact c5, fun z => absurd z n6, a0, ha0, (nj 0 (by decide) (by decide)).trans ea, fun z => absurd z ng0⟩
      · rw [hJ j (by omega) (by omega), nj j (by omega) (by omega)]
        exact c1 j hj
      · rw [hJ 6 (by decide) (by decide), mEnd, nj 5 (by decide) (by decide), nj 4 (by decide) (by decide)]
        exact c2
      · rcases (show j = 7 ∨ j = 8 ∨ j = 9 ∨ j = 10 by omega) with rfl | rfl | rfl | rfl
        · exact i7
        · exact i8
        · exact (hJ 9 (by decide) (by decide)).trans ((c3 9 (by decide) (by decide)).trans (nj 8 (by decide) (by decide)).symm)
        · exact (hJ 10 (by decide) (by decide)).trans ((c3 10 (by decide) (by decide)).trans (nj 9 (by decide) (by decide)).symm)
    · exact RepT_fr (hT t ht') (fun j _ => by rw [hI _ (by omega)]) (fun j _ => hN _ (by omega) (by omega) (by omega)) (Nat.le_refl _) (Nat.le_refl _) (fun a g ha e1 e2 e3 h5 e6 => ⟨own t a g ht' ha e1 e3 e2 hc h5 e6, by
        have := tq a
        exact hN _ (by omega) (by omega) (by omega)⟩)
  · have hg' : g < tagsC I p n (nI a) := by
      by_cases hc : a = a0
      · subst hc
        omega
      · rw [← tn a ha hc]
        exact hg
    obtain ⟨t, d1, d2, d3, d4⟩ := hK a ha g hg'
    have hne : t ≠ t0 := by
      intro z
      subst z
      obtain ⟨c1, c2, c3, c4, c5, c6, a', ha', c7, c8'⟩ := gt
      have ea' : a' = a := (nI_eq (by omega) (by omega)).mp (c7.symm.trans ((c1 0 (by decide)).symm.trans d2))
      have ea0 : a0 = a := (nI_eq (by omega) (by omega)).mp (e0.symm.trans d2)
      subst ea'
      subst ea0
      -- the stack's top is this task, so its height is the top's
      obtain ⟨t2, f1, f2, f3, f4⟩ := hK a0 ha (tagsC I p n (nI a0) - 1) (by omega)
      obtain ⟨k1, k2, k3, k4, k5, k6, a2', ha2, k7, k8⟩ := hT t2 f1
      have ea2 : a2' = a0 := (nI_eq (by omega) (by omega)).mp (k7.symm.trans ((k1 0 (by decide)).symm.trans f2))
      subst ea2
      obtain ⟨-, g2, w1, w2, w3⟩ := k8 f3
      have hg2 : g2 = tagsC I p n (nI a2') - 1 := (nI_eq (by omega) (by omega)).mp (w2.symm.trans f4)
      rw [hg2, show 44 + 24 * a2' + (tagsC I p n (nI a2') - 1) = 44 + 24 * a2' + tagsC I p n (nI a2') - 1 by omega, top] at w3
      have et : t = t2 := (nI_eq (by omega) (by omega)).mp w3
      subst et
      have : g = tagsC I p n (nI a2') - 1 := (nI_eq (by omega) (by omega)).mp (d4.symm.trans f4)
      omega
    exact ⟨t, d1, by rw [hI _ (by omega)]; exact d2, (hng_eq (by rw [hI _ (by omega)])).mpr d3, by rw [hI _ (by omega)]; exact d4⟩
  · rw [hI _ (by omega)]
    exact hB a ha
theorem lift_sim {p m nA nC n : Nat} {a c : Int32} {J : pI} {G : pF} {I : pI} {F : pF} (hp : Rp p nA nC n (J (m + 1)) (G (m + 2)) (G (m + 3)) I F) : Sim p m nA nC n (mLiftE (J (m + 1)) a c) (liftR I F p n a c) (mLiftR J G m a) I F := by
  obtain ⟨h, hS⟩ := hp
  have a9 : n ≤ 24 := h.1.2.2.2.2.2.2.2.2.1
  have a3 : nA ≤ 8 := h.1.2.2.1
  have a6 : nC ≤ 5 := h.1.2.2.2.2.2.1
  unfold liftR mLiftE
  rw [h.1.2.2.2.2.2.2.1, h.1.2.2.2.2.2.2.2.1, h.1.2.2.2.1, h.1.2.2.2.2.1]
  by_cases hc : (0 ≤ a ∧ a < nI n) ∧ (0 ≤ c ∧ c < nI nC)
  · rw [if_pos hc, if_pos hc]
    obtain ⟨t, ht, rfl⟩ := has_nat (decide_eq_true hc.1) rfl (by omega)
    have cl : (nI t).toNatClampNeg = t := nI_clamp (by omega)
    have g := h.2.2.2.2.1 t ht
    obtain ⟨a', k, ha, hk, e0, e3, eA, eK, f0, f3⟩ := atk h ht
    have tq : tagsC I p n (nI a') ≤ 24 := tags_24 a9
    unfold mLiftR
    rw [cl, eA, f0, T7 g, T8 g, top_eq h ha]
    by_cases hs : (J (m + 1) (251 + 10 * t + 6) = 1 ∨ J (m + 1) (251 + 10 * t + 6) = 3) ∧ J (m + 1) (251 + 10 * t + 7) = c ∧ mTop (J (m + 1)) a' = nI t
    · rw [if_pos hs, if_pos hs]
      have hg0 : hng I p t := by
        unfold hng
        rw [T7 g]
        rcases hs.1 with z | z <;> rw [z] <;> decide
      have c8 := (h.2.2.1 a' ha).2.2.2.2.2.2.2
      have top : J (m + 1) (44 + 24 * a' + tagsC I p n (nI a') - 1) = nI t := by
        have z := hs.2.2
        unfold mTop at z
        rw [c8, nI_clamp (show tagsC I p n (nI a') < 2 ^ 31 by omega)] at z
        split at z
        · exact absurd z.symm (fun w => by
            have := congrArg Int32.toInt w
            rw [nI_toInt (by omega)] at this
            have e5 : (-5 : Int32).toInt = -5 := by decide
            rw [e5] at this
            omega)
        · exact z
      have key : Rep p nA nC n (mLiftI J m t a' (m + 1)) (G (m + 2)) (G (m + 3)) (liftI I p t) F ∧ nI (tagsC (liftI I p t) p n (nI a')) = J (m + 1) (4 + 5 * a' + 4) - 1 ∧ tagsC (liftI I p t) p n (nI a') ≤ 24 ∧ Slp n (mLiftI J m t a' (m + 1)) := by
        unfold liftI mLiftI
        rw [T7 g]
        by_cases h3 : J (m + 1) (251 + 10 * t + 6) = 3
        · rw [if_pos h3, if_pos h3]
          have r := Rep_lift (I' := up2 I (p + 18 + t) 7 4) (N' := up2 (up2 J (m + 1) (4 + 5 * a' + 4) (J (m + 1) (4 + 5 * a' + 4) - 1)) (m + 1) (251 + 10 * t + 6) 4 (m + 1)) h ht ha e0 hg0 (by unfold hng; rw [up2_s]; decide) top (fun i hi => up2_row hi) (fun j h1 h2 => up2_nj h1) (up2_s.trans up2_s.symm) ((up2_nj (by decide)).trans ((T8 g).trans ((up2_nj (by omega)).trans (up2_nj (by omega))).symm)) (by rw [up2_s]; decide) (fun j h1 h2 h3 => (up2_nj h2).trans (up2_nj h1)) ((up2_nj (by omega)).trans up2_s)
          exact ⟨r.1, r.2.1, r.2.2, Slp_eq hS ((up2_nj (by omega)).trans (up2_nj (by omega))) (fun t' ht' => Or.inl ⟨ht', (up2_nj (by omega)).trans (up2_nj (by omega))⟩)⟩
        · rw [if_neg h3, if_neg h3]
          have r := Rep_lift (I' := up2 (up2 I (p + 18 + t) 7 0) (p + 18 + t) 8 (-5)) (N' := up2 (up2 (up2 J (m + 1) (4 + 5 * a' + 4) (J (m + 1) (4 + 5 * a' + 4) - 1)) (m + 1) (251 + 10 * t + 6) 0) (m + 1) (251 + 10 * t + 7) (-5) (m + 1)) h ht ha e0 hg0 (by unfold hng; rw [up2_nj (show 7 ≠ 8 by decide), up2_s]; decide) top (fun i hi => (up2_row hi).trans (up2_row hi)) (fun j h1 h2 => (up2_nj h2).trans (up2_nj h1)) (((up2_nj (by decide)).trans up2_s).trans ((up2_nj (by omega)).trans up2_s).symm) (up2_s.trans up2_s.symm) (by rw [up2_nj (by omega), up2_s]; decide) (fun j h1 h2 h3 => (up2_nj h3).trans ((up2_nj h2).trans (up2_nj h1))) ((up2_nj (by omega)).trans ((up2_nj (by omega)).trans up2_s))
          exact ⟨r.1, r.2.1, r.2.2, Slp_eq hS ((up2_nj (by omega)).trans ((up2_nj (by omega)).trans (up2_nj (by omega)))) (fun t' ht' => Or.inl ⟨ht', (up2_nj (by omega)).trans ((up2_nj (by omega)).trans (up2_nj (by omega)))⟩)⟩
      exact Or.inl ⟨rfl, key.2.1, nI_pos' (by have := key.2.2.1; omega), key.1, key.2.2.2⟩
    · rw [if_neg hs, if_neg hs]
      exact Or.inr ⟨by decide, rfl⟩
  · rw [if_neg hc, if_neg hc]
    exact Or.inr ⟨by decide, rfl⟩
