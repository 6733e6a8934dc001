/-! hours -/
theorem run_step {p m nA nC n i : Nat} {J : pI} {G : pF} {I : pI} {F : pF} (h : Rep p nA nC n (J (m + 1)) (G (m + 2)) (G (m + 3)) I F) (hi : i < nA) : Rep p nA nC n (J (m + 1)) (mRunOne J m i G (m + 2)) (mRunOne J m i G (m + 3)) I (runOne I (p + 5 + i) F) := by
  refine Rep_asset h (fun _ _ => rfl) (fun _ _ => rfl) (fun a ha => ?_) h.2.2.2.2.2.2
  by_cases hc : a = i
  · subst hc
    obtain ⟨c1, c2, c3, c4, c5, c6, c7, c8⟩ := h.2.2.1 a ha
    refine ⟨c1, ((up2_nj (by decide)).trans (up2_nj (by decide))).trans c2, ?_, ?_, c5, c6, c7, c8⟩
    · show runOne I (p + 5 + a) F (p + 5 + a) 2 = mRunOne J m a G (m + 2) a
      unfold runOne mRunOne
      rw [up2_s, up2_s, c2, c3]
    · show runOne I (p + 5 + a) F (p + 5 + a) 3 = mRunOne J m a G (m + 3) a
      unfold runOne mRunOne
      rw [up2_nj (show 3 ≠ 2 by decide), up2_s, up2_ni (show m + 3 ≠ m + 2 by omega), up2_s, c1, c3, c4]
  · exact RepA_fr (h.2.2.1 a ha) rfl ((up2_row (by omega)).trans (up2_row (by omega))) (fun _ _ => rfl) ((up2_nj hc).trans (up2_ni (by omega))) ((up2_ni (by omega)).trans (up2_nj hc)) rfl
theorem run_all {p m nA nC n : Nat} {J : pI} {G : pF} {I : pI} {F : pF} (h : Rep p nA nC n (J (m + 1)) (G (m + 2)) (G (m + 3)) I F) : ∀ k, k ≤ nA → Rep p nA nC n (J (m + 1)) (mRunN J m k G (m + 2)) (mRunN J m k G (m + 3)) I (runAF I p k F)
  | 0, _ => h
  | k + 1, hk => by
    have ih := run_all h k (by omega)
    have h8 : nA ≤ 8 := h.1.2.2.1
    have c5 := (h.2.2.1 k (by omega)).2.2.2.2.1
    have hb := h.2.2.2.2.2.2 k (by omega)
    rcases hb with hb | hb
    · rw [runAF_f hb, mRun_f (by rw [← c5, hb]; decide)]
      exact ih
    · rw [runAF_t (by rw [hb]; decide), mRun_t (by rw [← c5, hb])]
      exact run_step ih (by omega)
theorem mend_step {p m nA nC n i : Nat} {N : Nat → Int32} {G : pF} {I : pI} {F : pF} (h : Rep p nA nC n N (G (m + 2)) (G (m + 3)) I F) (hi : i < nA) : Rep p nA nC n N (mMend G m i (m + 2)) (mMend G m i (m + 3)) I (mendF F (p + 5 + i)) := by
  refine Rep_asset h (fun _ _ => rfl) (fun _ _ => rfl) (fun a ha => ?_) h.2.2.2.2.2.2
  by_cases hc : a = i
  · subst hc
    obtain ⟨c1, c2, c3, c4, c5, c6, c7, c8⟩ := h.2.2.1 a ha
    refine ⟨c1, (up2_nj (by decide)).trans c2, ?_, (up2_nj (by decide)).trans (c4.trans (up2_ni (by omega)).symm), c5, c6, c7, c8⟩
    show mendF F (p + 5 + a) (p + 5 + a) 2 = mMend G m a (m + 2) a
    unfold mendF mMend
    rw [up2_s, up2_s, c3]
  · exact RepA_fr (h.2.2.1 a ha) rfl (up2_row (by omega)) (fun _ _ => rfl) (up2_nj hc) (up2_ni (by omega)) rfl
theorem wk_step {p m nA nC n k c : Nat} {J : pI} {G : pF} {I : pI} {F : pF} (h : Rep p nA nC n (J (m + 1)) (G (m + 2)) (G (m + 3)) I F) (hk : k < n) :
    Rep p nA nC n ((mWk1 m k (J, G, c)).1 (m + 1)) ((mWk1 m k (J, G, c)).2.1 (m + 2)) ((mWk1 m k (J, G, c)).2.1 (m + 3)) (wk1 p k (I, F, c)).1 (wk1 p k (I, F, c)).2.1 ∧ (wk1 p k (I, F, c)).2.2 = (mWk1 m k (J, G, c)).2.2 ∧ (wk1 p k (I, F, c)).2.2 ≤ c + 1 := by
  have a9 : n ≤ 24 := h.1.2.2.2.2.2.2.2.2.1
  have a3 : nA ≤ 8 := h.1.2.2.1
  have g := h.2.2.2.2.1 k hk
  by_cases hs : J (m + 1) (251 + 10 * k + 6) = 2
  · obtain ⟨w, hw1, hw2, hw⟩ := g.2.2.2.2.2.1 hs
    have e1 : I (p + 18 + k) 9 - 1 = nI (w - 1) := by
      rw [T9 g, hw]
      exact pk_sub (a := w) (b := 1) hw1
    have e2 : J (m + 1) (251 + 10 * k + 8) - 1 = nI (w - 1) := by
      rw [hw]
      exact pk_sub (a := w) (b := 1) hw1
    have hI7 : I (p + 18 + k) 7 = 2 := (T7 g).trans hs
    have n1 : hng I p k := by
      unfold hng
      rw [hI7]
      decide
    by_cases hw0 : w - 1 = 0
    · obtain ⟨a, k', ha, hk', f0, f3, eA, eK, i0, i3⟩ := atk h hk
      rw [wk1_b hI7 (by rw [e1, hw0]; decide) i0 (by omega), mWk1_b hs (by rw [e2, hw0]; rfl) f0 (by omega), e1, e2]
      refine ⟨?_, rfl, Nat.le_refl _⟩
      refine mend_step ?_ ha
      have nj : ∀ j, j ≠ 6 → j ≠ 8 → up2 (up2 J (m + 1) (251 + 10 * k + 8) (nI (w - 1))) (m + 1) (251 + 10 * k + 6) 3 (m + 1) (251 + 10 * k + j) = J (m + 1) (251 + 10 * k + j) := fun j h1 h2 => (up2_nj (by omega)).trans (up2_nj (by omega))
      have n2 : hng (up2 (up2 I (p + 18 + k) 9 (nI (w - 1))) (p + 18 + k) 7 3) p k := by
        unfold hng
        rw [up2_s]
        decide
      have nh : hng (up2 (up2 I (p + 18 + k) 9 (nI (w - 1))) (p + 18 + k) 7 3) p k ↔ hng I p k := ⟨fun _ => n1, fun _ => n2⟩
      refine Rep_task h hk (fun i hi => (up2_row hi).trans (up2_row hi)) ((up2_nj (by decide)).trans (up2_nj (by decide))) ((up2_nj (by decide)).trans (up2_nj (by decide))) nh (fun j hj => (up2_nj (by omega)).trans (up2_nj (by omega))) ?_
      refine RepT_set g (fun j hj => ?_) ?_ (fun j hj1 hj2 => ?_) (nj 3 (by decide) (by decide)) (nj 4 (by decide) (by decide)) (nj 0 (by decide) (by decide)) (fun z => absurd (up2_s.symm.trans z) (by decide)) (fun _ => n1) (fun _ => nj 7 (by decide) (by decide)) ((up2_nj (by decide)).trans (up2_nj (by decide))) (tags_one (fun i hi => (up2_row hi).trans (up2_row hi)) ((up2_nj (by decide)).trans (up2_nj (by decide))) nh) (fun q hq => (up2_nj (by omega)).trans (up2_nj (by omega))) a9 a3
      · exact ((up2_nj (by omega)).trans (up2_nj (by omega))).trans ((Tj g hj).trans (nj j (by omega) (by omega)).symm)
      · rw [mEnd]
        dsimp only
        rw [nj 5 (by decide) (by decide), nj 4 (by decide) (by decide)]
        exact ((up2_nj (by decide)).trans (up2_nj (by decide))).trans g.2.1
      · rcases (show j = 7 ∨ j = 8 ∨ j = 9 ∨ j = 10 by omega) with rfl | rfl | rfl | rfl
        · exact up2_s.trans up2_s.symm
        · exact ((up2_nj (by decide)).trans (up2_nj (by decide))).trans ((T8 g).trans (nj 7 (by decide) (by decide)).symm)
        · exact ((up2_nj (by decide)).trans up2_s).trans ((up2_nj (by omega)).trans up2_s).symm
        · exact ((up2_nj (by decide)).trans (up2_nj (by decide))).trans ((T10 g).trans (nj 9 (by decide) (by decide)).symm)
    · rw [wk1_a hI7 (by rw [e1]; exact nI_lt (a := 0) (by omega) (by omega)), mWk1_a hs (by rw [e2]; exact nI_ne0 (by omega) (by omega)), e1, e2]
      refine ⟨?_, rfl, Nat.le_succ _⟩
      have nj : ∀ j, j ≠ 8 → up2 J (m + 1) (251 + 10 * k + 8) (nI (w - 1)) (m + 1) (251 + 10 * k + j) = J (m + 1) (251 + 10 * k + j) := fun j h2 => up2_nj (by omega)
      have n2 : hng (up2 I (p + 18 + k) 9 (nI (w - 1))) p k := by
        unfold hng
        rw [up2_nj (show 7 ≠ 9 by decide), hI7]
        decide
      have nh : hng (up2 I (p + 18 + k) 9 (nI (w - 1))) p k ↔ hng I p k := ⟨fun _ => n1, fun _ => n2⟩
      refine Rep_task h hk (fun i hi => up2_row hi) (up2_nj (by decide)) (up2_nj (by decide)) nh (fun j hj => up2_nj (by omega)) ?_
      refine RepT_set g (fun j hj => ?_) ?_ (fun j hj1 hj2 => ?_) (nj 3 (by decide)) (nj 4 (by decide)) (nj 0 (by decide)) (fun z => ⟨w - 1, by omega, by omega, up2_s⟩) (fun _ => n1) (fun _ => nj 7 (by decide)) (up2_nj (by decide)) (tags_one (fun i hi => up2_row hi) (up2_nj (by decide)) nh) (fun q hq => up2_nj (by omega)) a9 a3
      · exact (up2_nj (by omega)).trans ((Tj g hj).trans (nj j (by omega)).symm)
      · rw [mEnd]
        dsimp only
        rw [nj 5 (by decide), nj 4 (by decide)]
        exact (up2_nj (by decide)).trans g.2.1
      · rcases (show j = 7 ∨ j = 8 ∨ j = 9 ∨ j = 10 by omega) with rfl | rfl | rfl | rfl
        · exact (up2_nj (by decide)).trans ((T7 g).trans (nj 6 (by decide)).symm)
        · exact (up2_nj (by decide)).trans ((T8 g).trans (nj 7 (by decide)).symm)
        · exact up2_s.trans up2_s.symm
        · exact (up2_nj (by decide)).trans ((T10 g).trans (nj 9 (by decide)).symm)
  · rw [wk1_n (show ¬ ((I, F, c) : pI × pF × Nat).1 (p + 18 + k) 7 = 2 from fun z => hs ((T7 g).symm.trans z)), mWk1_n (show ¬ ((J, G, c) : pI × pF × Nat).1 (m + 1) (251 + 10 * k + 6) = 2 from hs)]
    exact ⟨h, rfl, Nat.le_succ _⟩
theorem wk_all {p m nA nC n : Nat} {J : pI} {G : pF} {I : pI} {F : pF} (h : Rep p nA nC n (J (m + 1)) (G (m + 2)) (G (m + 3)) I F) : ∀ k, k ≤ n → Rep p nA nC n ((mWkN m k J G).1 (m + 1)) ((mWkN m k J G).2.1 (m + 2)) ((mWkN m k J G).2.1 (m + 3)) (wkN p k I F).1 (wkN p k I F).2.1 ∧ (wkN p k I F).2.2 = (mWkN m k J G).2.2 ∧ (wkN p k I F).2.2 ≤ k
  | 0, _ => ⟨h, rfl, Nat.le_refl _⟩
  | k + 1, hk => by
    have ih := wk_all h k (by omega)
    rw [show wkN p (k + 1) I F = wk1 p k (wkN p k I F) from rfl, show mWkN m (k + 1) J G = mWk1 m k (mWkN m k J G) from rfl]
    revert ih
    generalize wkN p k I F = W
    generalize mWkN m k J G = V
    obtain ⟨I1, F1, c1⟩ := W
    obtain ⟨J1, G1, c2⟩ := V
    intro ih
    dsimp only at ih
    obtain ⟨i1, rfl, i3⟩ := ih
    have s := wk_step (c := c1) i1 (show k < n by omega)
    exact ⟨s.1, s.2.1, by omega⟩
theorem Rep_hour {p nA nC n hh : Nat} {N N' : Nat → Int32} {H O : Nat → UInt32} {I I' : pI} {F : pF} (h : Rep p nA nC n N H O I F) (h1 : hh + 1 ≤ 2000) (hI : ∀ q, q ≠ p → I' q = I q) (hP : ∀ j, j ≠ 7 → I' p j = I p j) (i7 : I' p 7 = nI (hh + 1)) (hN : ∀ j, j ≠ 0 → N' j = N j) (n0 : N' 0 = nI (hh + 1)) : Rep p nA nC n N' H O I' F := by
  obtain ⟨⟨a1, a2, a3, a4, a5, a6, a7, a8, a9, hh0, b1, b2, b3⟩, hR, hA, hC, hT, hK, hB⟩ := id h
  have tg : ∀ a, tagsC I' p n a = tagsC I p n a := fun a => tags_eq (fun t ht => by rw [hI _ (by omega)]; exact ⟨rfl, Or.inl rfl⟩)
  refine ⟨⟨(hP 4 (by decide)).trans a1, (hN 1 (by decide)).trans a2, a3, (hP 5 (by decide)).trans a4, (hN 2 (by decide)).trans a5, a6, (hP 6 (by decide)).trans a7, (hN 3 (by decide)).trans a8, a9, hh + 1, h1, i7, n0⟩, fun k hk => ?_, fun a ha => ?_, fun c hc => ?_, fun t ht => ?_, fun a ha g hg => ?_, fun a ha => ?_⟩
  · rw [hI _ (by omega), hN _ (by omega)]
    exact hR k hk
  · exact RepA_fr (hA a ha) (hI _ (by omega)) rfl (fun j _ => hN _ (by omega)) rfl rfl (tg _)
  · rw [hI _ (by omega), hN _ (by omega), hN _ (by omega)]
    exact hC c hc
  · exact RepT_fr (hT t ht) (fun j _ => by rw [hI _ (by omega)]) (fun j _ => hN _ (by omega)) (Nat.le_refl _) (Nat.le_refl _) (fun a g ha _ _ _ h5 _ => ⟨by rw [tg]; exact h5, hN _ (by omega)⟩)
  · rw [tg] at hg
    obtain ⟨t, d1, d2, d3, d4⟩ := hK a ha g hg
    exact ⟨t, d1, by rw [hI _ (by omega)]; exact d2, (hng_eq (by rw [hI _ (by omega)])).mpr d3, by rw [hI _ (by omega)]; exact d4⟩
  · rw [hI _ (by omega)]
    exact hB a ha
theorem end_24 (x y : Int32) : x + y + 6 + 24 = x + 24 + y + 6 := by
  rw [Int32.add_assoc x 24 y, Int32.add_comm 24 y, ← Int32.add_assoc, Int32.add_assoc (x + y) 24 6, Int32.add_comm 24 6, ← Int32.add_assoc]
theorem sl_step {p m nA nC n k : Nat} {J : pI} {H O : Nat → UInt32} {I : pI} {F : pF} (h : Rep p nA nC n (J (m + 1)) H O I F) (hk : k < n) : Rep p nA nC n (mSl1 m k J (m + 1)) H O (sl1 p k I) F := by
  have a9 : n ≤ 24 := h.1.2.2.2.2.2.2.2.2.1
  have a3 : nA ≤ 8 := h.1.2.2.1
  obtain ⟨hh, b1, b2, b3⟩ := h.1.2.2.2.2.2.2.2.2.2
  have g := h.2.2.2.2.1 k hk
  unfold sl1 mSl1
  rw [T7 g, g.2.1, b2, b3, Tj g (j := 4) (by decide)]
  by_cases hs : (0 ≤ J (m + 1) (251 + 10 * k + 6) ∧ J (m + 1) (251 + 10 * k + 6) ≤ 1) ∧ mEnd (J (m + 1)) k < nI hh + J (m + 1) (251 + 10 * k + 4)
  · rw [if_pos hs, if_pos hs]
    unfold slipI mSlipI
    rw [T7 g, T10 g]
    by_cases h3 : J (m + 1) (251 + 10 * k + 6) = 0 ∧ 3 ≤ J (m + 1) (251 + 10 * k + 9)
    · rw [if_pos h3, if_pos h3]
      have n1 : ¬ hng I p k := by
        unfold hng
        rw [T7 g, h3.1]
        decide
      have n2 : ¬ hng (up2 I (p + 18 + k) 7 5) p k := by
        unfold hng
        rw [up2_s]
        decide
      have nh : hng (up2 I (p + 18 + k) 7 5) p k ↔ hng I p k := ⟨fun z => absurd z n2, fun z => absurd z n1⟩
      have nj : ∀ j, j ≠ 6 → up2 J (m + 1) (251 + 10 * k + 6) 5 (m + 1) (251 + 10 * k + j) = J (m + 1) (251 + 10 * k + j) := fun j hj => up2_nj (by omega)
      refine Rep_task h hk (fun i hi => up2_row hi) (up2_nj (by decide)) (up2_nj (by decide)) nh (fun j hj => up2_nj (by omega)) ?_
      refine RepT_set g (fun j hj => ?_) ?_ (fun j hj1 hj2 => ?_) (nj 3 (by decide)) (nj 4 (by decide)) (nj 0 (by decide)) (fun z => absurd (up2_s.symm.trans z) (by decide)) (fun z => absurd z n2) (fun z => absurd z n2) (up2_nj (by decide)) (tags_one (fun i hi => up2_row hi) (up2_nj (by decide)) nh) (fun q hq => up2_nj (by omega)) a9 a3
      · exact (up2_nj (by omega)).trans ((Tj g hj).trans (nj j (by omega)).symm)
      · rw [mEnd, nj 5 (by decide), nj 4 (by decide)]
        exact (up2_nj (by decide)).trans g.2.1
      · rcases (show j = 7 ∨ j = 8 ∨ j = 9 ∨ j = 10 by omega) with rfl | rfl | rfl | rfl
        · exact up2_s.trans up2_s.symm
        · exact (up2_nj (by decide)).trans ((T8 g).trans (nj 7 (by decide)).symm)
        · exact (up2_nj (by decide)).trans ((T9 g).trans (nj 8 (by decide)).symm)
        · exact (up2_nj (by decide)).trans ((T10 g).trans (nj 9 (by decide)).symm)
    · rw [if_neg h3, if_neg h3, Tj g (j := 5) (by decide), g.2.1]
      generalize hx5 : J (m + 1) (251 + 10 * k + 5) + 24 = x5
      generalize hx6 : mEnd (J (m + 1)) k + 24 = x6
      generalize hx9 : J (m + 1) (251 + 10 * k + 9) + 1 = x9
      have hI : ∀ j, j ≠ 5 → j ≠ 6 → j ≠ 10 → up2 (up2 (up2 I (p + 18 + k) 5 x5) (p + 18 + k) 6 x6) (p + 18 + k) 10 x9 (p + 18 + k) j = I (p + 18 + k) j := fun j h1 h2 h3 => (up2_nj h3).trans ((up2_nj h2).trans (up2_nj h1))
      have nh : hng (up2 (up2 (up2 I (p + 18 + k) 5 x5) (p + 18 + k) 6 x6) (p + 18 + k) 10 x9) p k ↔ hng I p k := hng_eq (hI 7 (by decide) (by decide) (by decide))
      have nj : ∀ j, j ≠ 5 → j ≠ 9 → up2 (up2 J (m + 1) (251 + 10 * k + 5) x5) (m + 1) (251 + 10 * k + 9) x9 (m + 1) (251 + 10 * k + j) = J (m + 1) (251 + 10 * k + j) := fun j h1 h2 => (up2_nj (by omega)).trans (up2_nj (by omega))
      have n5 : up2 (up2 J (m + 1) (251 + 10 * k + 5) x5) (m + 1) (251 + 10 * k + 9) x9 (m + 1) (251 + 10 * k + 5) = x5 := (up2_nj (by omega)).trans up2_s
      refine Rep_task h hk (fun i hi => (up2_row hi).trans ((up2_row hi).trans (up2_row hi))) (hI 0 (by decide) (by decide) (by decide)) (hI 11 (by decide) (by decide) (by decide)) nh (fun j hj => (up2_nj (by omega)).trans (up2_nj (by omega))) ?_
      refine RepT_set g (fun j hj => ?_) ?_ (fun j hj1 hj2 => ?_) (nj 3 (by decide) (by decide)) (nj 4 (by decide) (by decide)) (nj 0 (by decide) (by decide)) (fun z => ?_) (fun z => nh.mp z) (fun _ => nj 7 (by decide) (by decide)) (hI 11 (by decide) (by decide) (by decide)) (tags_one (fun i hi => (up2_row hi).trans ((up2_row hi).trans (up2_row hi))) (hI 0 (by decide) (by decide) (by decide)) nh) (fun q hq => (up2_nj (by omega)).trans (up2_nj (by omega))) a9 a3
      · by_cases h5 : j = 5
        · subst h5
          exact ((up2_nj (by decide)).trans ((up2_nj (by decide)).trans up2_s)).trans n5.symm
        · exact (hI j h5 (by omega) (by omega)).trans ((Tj g hj).trans (nj j h5 (by omega)).symm)
      · rw [mEnd, n5, nj 4 (by decide) (by decide), ← hx5, ← end_24]
        exact ((up2_nj (by decide)).trans up2_s).trans hx6.symm
      · rcases (show j = 7 ∨ j = 8 ∨ j = 9 ∨ j = 10 by omega) with rfl | rfl | rfl | rfl
        · exact (hI 7 (by decide) (by decide) (by decide)).trans ((T7 g).trans (nj 6 (by decide) (by decide)).symm)
        · exact (hI 8 (by decide) (by decide) (by decide)).trans ((T8 g).trans (nj 7 (by decide) (by decide)).symm)
        · exact (hI 9 (by decide) (by decide) (by decide)).trans ((T9 g).trans (nj 8 (by decide) (by decide)).symm)
        · exact up2_s.trans up2_s.symm
      · obtain ⟨w, w1, w2, w3⟩ := g.2.2.2.2.2.1 ((nj 6 (by decide) (by decide)).symm.trans z)
        exact ⟨w, w1, w2, (nj 8 (by decide) (by decide)).trans w3⟩
  · rw [if_neg hs, if_neg hs]
    exact h
theorem sl_all {p m nA nC n : Nat} {J : pI} {H O : Nat → UInt32} {I : pI} {F : pF} (h : Rep p nA nC n (J (m + 1)) H O I F) : ∀ k, k ≤ n → Rep p nA nC n (mSlN m k J (m + 1)) H O (slN p k I) F
  | 0, _ => h
  | k + 1, hk => sl_step (sl_all h k (by omega)) (by omega)
theorem slp_one {m k : Nat} {J : pI} : mSl1 m k J (m + 1) (251 + 10 * k + 9) = J (m + 1) (251 + 10 * k + 9) ∨ mSl1 m k J (m + 1) (251 + 10 * k + 9) = J (m + 1) (251 + 10 * k + 9) + 1 := by
  unfold mSl1
  split
  · unfold mSlipI
    split
    · exact Or.inl (up2_nj (by omega))
    · exact Or.inr up2_s
  · exact Or.inl rfl
theorem slp_all {m n hh : Nat} {J : pI} (h : ∀ t, t < n → ∃ s, s ≤ hh ∧ J (m + 1) (251 + 10 * t + 9) = nI s) : ∀ k, k ≤ n → ∀ t, t < n → ∃ s, s ≤ hh + (if t < k then 1 else 0) ∧ mSlN m k J (m + 1) (251 + 10 * t + 9) = nI s
  | 0, _, t, ht => by
    obtain ⟨s, h1, h2⟩ := h t ht
    exact ⟨s, by omega, h2⟩
  | k + 1, hk, t, ht => by
    obtain ⟨s, h1, h2⟩ := slp_all h k (by omega) t ht
    by_cases hc : t = k
    · subst hc
      rw [if_neg (Nat.lt_irrefl _)] at h1
      rcases slp_one (m := m) (k := t) (J := mSlN m t J) with e | e
      · exact ⟨s, by omega, e.trans h2⟩
      · refine ⟨s + 1, by rw [if_pos (Nat.lt_succ_self _)]; omega, e.trans ?_⟩
        rw [h2]
        exact (nI_succ s).symm
    · refine ⟨s, ?_, (mSl1_fr (by omega)).trans h2⟩
      by_cases hl : t < k
      · rw [if_pos hl] at h1
        rw [if_pos (by omega)]
        exact h1
      · rw [if_neg hl] at h1
        omega
theorem mWk1_9 {m k t : Nat} {W : pI × pF × Nat} : (mWk1 m k W).1 (m + 1) (251 + 10 * t + 9) = W.1 (m + 1) (251 + 10 * t + 9) := mWk1_fr (by omega)
theorem mWkN_9 {m t : Nat} {J : pI} {G : pF} : ∀ k, (mWkN m k J G).1 (m + 1) (251 + 10 * t + 9) = J (m + 1) (251 + 10 * t + 9)
  | 0 => rfl
  | k + 1 => mWk1_9.trans (mWkN_9 k)
theorem hr_step {p m nA nC n hh c : Nat} {J : pI} {G : pF} {I : pI} {F : pF} (hp : Rp p nA nC n (J (m + 1)) (G (m + 2)) (G (m + 3)) I F) (e0 : J (m + 1) 0 = nI hh) (h1 : hh + 1 ≤ 2000) :
    Rp p nA nC n ((mHr m nA n (J, G, c)).1 (m + 1)) ((mHr m nA n (J, G, c)).2.1 (m + 2)) ((mHr m nA n (J, G, c)).2.1 (m + 3)) (hrS p nA n (I, F, c)).1 (hrS p nA n (I, F, c)).2.1 ∧ (hrS p nA n (I, F, c)).2.2 = (mHr m nA n (J, G, c)).2.2 ∧ (hrS p nA n (I, F, c)).2.2 ≤ c + n ∧ (mHr m nA n (J, G, c)).1 (m + 1) 0 = nI (hh + 1) := by
  obtain ⟨h, hS⟩ := hp
  have r1 := run_all h nA (Nat.le_refl _)
  obtain ⟨r2, r3, r4⟩ := wk_all r1 n (Nat.le_refl _)
  have f0 : (mWkN m n J (mRunN J m nA G)).1 (m + 1) 0 = nI hh := (mWkN_fr (by omega) n).trans e0
  have hn0 : (wkN p n I (runAF I p nA F)).1 p 7 = nI hh := by
    obtain ⟨h0, -, q2, q3⟩ := r2.1.2.2.2.2.2.2.2.2.2
    rw [q2, ← q3, f0]
  have x1 : (mWkN m n J (mRunN J m nA G)).1 (m + 1) 0 + 1 = nI (hh + 1) := by
    rw [f0]
    exact (nI_succ hh).symm
  have x2 : (wkN p n I (runAF I p nA F)).1 p 7 + 1 = nI (hh + 1) := by
    rw [hn0]
    exact (nI_succ hh).symm
  have r5 := Rep_hour (N' := up2 (mWkN m n J (mRunN J m nA G)).1 (m + 1) 0 (nI (hh + 1)) (m + 1)) (I' := up2 (wkN p n I (runAF I p nA F)).1 p 7 (nI (hh + 1))) r2 h1 (fun q hq => up2_row hq) (fun j hj => up2_nj hj) up2_s (fun j hj => up2_nj hj) up2_s
  have r6 := sl_all r5 n (Nat.le_refl _)
  have y0 : (mHr m nA n (J, G, c)).1 (m + 1) 0 = nI (hh + 1) := by
    show mSlN m n (up2 _ (m + 1) 0 _) (m + 1) 0 = _
    rw [mSlN_fr (by omega), up2_s, x1]
  have e1 : (mHr m nA n (J, G, c)).1 = mSlN m n (up2 (mWkN m n J (mRunN J m nA G)).1 (m + 1) 0 (nI (hh + 1))) := by
    show mSlN m n (up2 _ (m + 1) 0 _) = _
    rw [x1]
  have e2 : (hrS p nA n (I, F, c)).1 = slN p n (up2 (wkN p n I (runAF I p nA F)).1 p 7 (nI (hh + 1))) := by
    show slN p n (up2 _ p 7 _) = _
    rw [x2]
  refine ⟨⟨?_, ?_⟩, ?_, ?_, y0⟩
  · rw [e1, e2]
    exact r6
  · obtain ⟨hh2, s1, s2, s3⟩ := hS
    have : hh2 = hh := (nI_eq (by omega) (by omega)).mp (s2.symm.trans e0)
    subst this
    refine ⟨hh2 + 1, h1, y0, fun t ht => ?_⟩
    rw [e1]
    have hb : ∀ t, t < n → ∃ s, s ≤ hh2 ∧ up2 (mWkN m n J (mRunN J m nA G)).1 (m + 1) 0 (nI (hh2 + 1)) (m + 1) (251 + 10 * t + 9) = nI s := by
      intro t ht
      obtain ⟨s, w1, w2⟩ := s3 t ht
      refine ⟨s, w1, (up2_nj (by omega)).trans (Eq.trans ?_ w2)⟩
      exact mWkN_9 n
    obtain ⟨s, w1, w2⟩ := slp_all hb n (Nat.le_refl _) t ht
    rw [if_pos ht] at w1
    exact ⟨s, w1, w2⟩
  · show c + (wkN p n I (runAF I p nA F)).2.2 = c + (mWkN m n J (mRunN J m nA G)).2.2
    rw [r3]
  · show c + (wkN p n I (runAF I p nA F)).2.2 ≤ c + n
    omega
theorem ps_all {p m nA nC n hh : Nat} {J : pI} {G : pF} {I : pI} {F : pF} (hp : Rp p nA nC n (J (m + 1)) (G (m + 2)) (G (m + 3)) I F) (e0 : J (m + 1) 0 = nI hh) : ∀ k, hh + k ≤ 2000 →
    Rp p nA nC n ((mPsN m nA n k J G).1 (m + 1)) ((mPsN m nA n k J G).2.1 (m + 2)) ((mPsN m nA n k J G).2.1 (m + 3)) (psN p nA n k I F).1 (psN p nA n k I F).2.1 ∧ (psN p nA n k I F).2.2 = (mPsN m nA n k J G).2.2 ∧ (psN p nA n k I F).2.2 ≤ k * n ∧ (mPsN m nA n k J G).1 (m + 1) 0 = nI (hh + k)
  | 0, _ => ⟨hp, rfl, Nat.zero_le _, e0⟩
  | k + 1, hk => by
    have ih := ps_all hp e0 k (by omega)
    rw [show psN p nA n (k + 1) I F = hrS p nA n (psN p nA n k I F) from rfl, show mPsN m nA n (k + 1) J G = mHr m nA n (mPsN m nA n k J G) from rfl]
    revert ih
    generalize psN p nA n k I F = W
    generalize mPsN m nA n k J G = V
    obtain ⟨I1, F1, c1⟩ := W
    obtain ⟨J1, G1, c2⟩ := V
    intro ih
    dsimp only at ih
    obtain ⟨i1, rfl, i3, i4⟩ := ih
    have s := hr_step (c := c1) i1 i4 (by omega)
    refine ⟨s.1, s.2.1, ?_, s.2.2.2⟩
    have := s.2.2.1
    rw [Nat.add_mul, Nat.one_mul]
    omega
theorem pass_sim {p m nA nC n : Nat} {x : Int32} {J : pI} {G : pF} {I : pI} {F : pF} (hp : Rp p nA nC n (J (m + 1)) (G (m + 2)) (G (m + 3)) I F) : Sim p m nA nC n (mPassE (J (m + 1)) x) (passR I F p nA n x) (mPassR J G m nA n x) I F := by
  obtain ⟨hh, b1, b2, b3⟩ := hp.1.1.2.2.2.2.2.2.2.2.2
  have a9 : n ≤ 24 := hp.1.1.2.2.2.2.2.2.2.2.1
  unfold passR mPassE
  rw [b2, b3]
  by_cases hc : 1 ≤ x ∧ x ≤ 48
  · rw [if_pos hc, if_pos hc]
    by_cases hl : nI hh + x ≤ 2000
    · rw [if_pos hl, if_pos hl]
      obtain ⟨d, hd1, hd2, rfl⟩ := win_nat (lo := 1) (hi := 48) (decide_eq_true hc) (by decide) (by decide)
      have cl : (nI d).toNatClampNeg = d := nI_clamp (by omega)
      have hle : hh + d ≤ 2000 := by
        rw [nI_add] at hl
        rcases Nat.lt_or_ge 2000 (hh + d) with h1 | h1
        · exact absurd hl (nI_ge (a := 2000) h1 (by omega))
        · exact h1
      have s := ps_all hp b3 d hle
      unfold mPassR
      rw [cl]
      refine Or.inl ⟨rfl, ?_, ?_, s.1⟩
      · show nI _ = nI _
        rw [s.2.1]
      · have h2 : d * n ≤ 48 * 24 := Nat.mul_le_mul hd2 a9
        exact nI_pos' (by have := s.2.2.1; omega)
    · rw [if_neg hl, if_neg hl]
      exact Or.inr ⟨by decide, rfl⟩
  · rw [if_neg hc, if_neg hc]
    exact Or.inr ⟨by decide, rfl⟩
