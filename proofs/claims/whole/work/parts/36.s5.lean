/-! an asset more, a task more -/
theorem tags_24 {p n : Nat} {I : pI} {a : Int32} (hn : n ≤ 24) : tagsC I p n a ≤ 24 := Nat.le_trans (cnt_le n) hn
theorem Rep_addA {p nA nC n : Nat} {r w : Int32} {N N' : Nat → Int32} {H H' O O' : Nat → UInt32} {I I' : pI} {F F' : pF} (h : Rep p nA nC n N H O I F) (h5 : nA < 8)
    (eN : ∀ q, q ≠ 1 → (q < 4 + 5 * nA ∨ 4 + 5 * nA + 5 ≤ q) → N' q = N q) (n0 : N' (4 + 5 * nA + 0) = r) (n1 : N' (4 + 5 * nA + 1) = w) (n2 : N' (4 + 5 * nA + 2) = 0) (n3 : N' (4 + 5 * nA + 3) = 0) (n4 : N' (4 + 5 * nA + 4) = 0) (nn : N' 1 = nI (nA + 1))
    (gH : ∀ a, a ≠ nA → H' a = H a) (gO : ∀ a, a ≠ nA → O' a = O a) (hN : H' nA = 1065353216) (oN : O' nA = 0)
    (eI : ∀ q, q ≠ p → q ≠ p + 5 + nA → I' q = I q) (eP : ∀ j, j ≠ 4 → I' p j = I p j) (i4 : I' p 4 = nI (nA + 1)) (j0 : I' (p + 5 + nA) 0 = r) (j4 : I' (p + 5 + nA) 4 = 0) (j5 : I' (p + 5 + nA) 5 = 0)
    (eF : ∀ q, q ≠ p + 5 + nA → F' q = F q) (f1 : F' (p + 5 + nA) 1 = FP.fdiv (FP.i2f w) 1148846080) (f2 : F' (p + 5 + nA) 2 = 1065353216) (f3 : F' (p + 5 + nA) 3 = 0) : Rep p (nA + 1) nC n N' H' O' I' F' := by
  obtain ⟨⟨a1, a2, a3, a4, a5, a6, a7, a8, a9, hh, b1, b2, b3⟩, hR, hA, hC, hT, hK, hB⟩ := id h
  have tg : ∀ a, tagsC I' p n a = tagsC I p n a := fun a => tags_eq (fun t ht => by rw [eI _ (by omega) (by omega)]; exact ⟨rfl, Or.inl rfl⟩)
  have t0 : tagsC I p n (nI nA) = 0 := cnt_0 (fun t ht => by
    obtain ⟨a, k, ha, -, -, -, -, -, e0, -⟩ := atk h ht
    rw [e0, decide_eq_false (fun z => absurd ((nI_eq (by omega) (by omega)).mp z) (by omega)), Bool.false_and])
  refine ⟨⟨i4, nn, by omega, (eP 5 (by decide)).trans a4, (eN 2 (by omega) (by omega)).trans a5, a6, (eP 6 (by decide)).trans a7, (eN 3 (by omega) (by omega)).trans a8, a9, hh, b1, (eP 7 (by decide)).trans b2, (eN 0 (by omega) (by omega)).trans b3⟩, fun k hk => ?_, fun a ha => ?_, fun c hc => ?_, fun t ht => ?_, fun a ha g hg => ?_, fun a ha => ?_⟩
  · rw [eI _ (by omega) (by omega), eN _ (by omega) (by omega)]
    exact hR k hk
  · by_cases hc : a = nA
    · subst hc
      unfold RepA mWear
      rw [tg, t0, n0, n1, n2, n3, n4, hN, oN, j0, j4, j5, f1, f2, f3]
      exact ⟨rfl, rfl, rfl, rfl, rfl, rfl, ⟨0, by decide, rfl⟩, rfl⟩
    · exact RepA_fr (hA a (by omega)) (eI _ (by omega) (by omega)) (eF _ (by omega)) (fun j _ => eN _ (by omega) (by omega)) (gH a hc) (gO a hc) (tg _)
  · rw [eI _ (by omega) (by omega), eN _ (by omega) (by omega), eN _ (by omega) (by omega)]
    exact hC c hc
  · exact RepT_fr (hT t ht) (fun j _ => by rw [eI _ (by omega) (by omega)]) (fun j _ => eN _ (by omega) (by omega)) (by omega) (Nat.le_refl _) (fun a g ha _ _ _ h6 _ => ⟨by rw [tg]; exact h6, eN _ (by omega) (by omega)⟩)
  · rw [tg] at hg
    by_cases hc : a = nA
    · subst hc
      rw [t0] at hg
      exact absurd hg (Nat.not_lt_zero _)
    · obtain ⟨t, d1, d2, d3, d4⟩ := hK a (by omega) g hg
      exact ⟨t, d1, by rw [eI _ (by omega) (by omega)]; exact d2, (hng_eq (by rw [eI _ (by omega) (by omega)])).mpr d3, by rw [eI _ (by omega) (by omega)]; exact d4⟩
  · by_cases hc : a = nA
    · subst hc
      exact Or.inl j4
    · rw [eI _ (by omega) (by omega)]
      exact hB a ha
theorem assetAdd_sim {p m nA nC n : Nat} {r w : Int32} {J : pI} {G : pF} {I : pI} {F : pF} (hp : Rp p nA nC n (J (m + 1)) (G (m + 2)) (G (m + 3)) I F) : Sim p m (nA + 1) nC n (mAddE (J (m + 1)) r w) (newAssetR I F p nA r w) (mAddR J G m nA r w) I F := by
  obtain ⟨h, hS⟩ := hp
  have a2 := h.1.2.1
  have a3 : nA ≤ 8 := h.1.2.2.1
  unfold newAssetR mAddE
  by_cases hc : (1 ≤ r ∧ r ≤ 100) ∧ (1 ≤ w ∧ w ≤ 200)
  · rw [if_pos hc, if_pos hc, a2]
    by_cases h5 : nA < 8
    · rw [if_pos h5, if_neg (show ¬ nI nA = 8 from fun z => absurd ((nI_eq (a := nA) (b := 8) (by omega) (by decide)).mp z) (by omega))]
      have eN : ∀ q, q ≠ 1 → (q < 4 + 5 * nA ∨ 4 + 5 * nA + 5 ≤ q) → (mAddR J G m nA r w).2.1 (m + 1) q = J (m + 1) q := fun q h1 h2 => (up2_nj (by omega)).trans ((up2_nj (by omega)).trans ((up2_nj (by omega)).trans ((up2_nj (by omega)).trans ((up2_nj (by omega)).trans (up2_nj h1)))))
      refine Or.inl ⟨rfl, rfl, nI_pos' (by omega), ?_, Slp_eq hS (eN 0 (by omega) (by omega)) (fun t ht => Or.inl ⟨ht, eN _ (by omega) (by omega)⟩)⟩
      refine Rep_addA (r := r) (w := w) h h5 eN ?_ ?_ ?_ ?_ up2_s ?_ (fun a ha => (up2_ni (by omega)).trans (up2_nj ha)) (fun a ha => (up2_nj ha).trans (up2_ni (by omega))) ((up2_ni (by omega)).trans up2_s) up2_s ?_ ?_ up2_s ?_ ?_ ?_ ?_ ?_ ?_ up2_s
      · exact (up2_nj (by omega)).trans ((up2_nj (by omega)).trans ((up2_nj (by omega)).trans ((up2_nj (by omega)).trans up2_s)))
      · exact (up2_nj (by omega)).trans ((up2_nj (by omega)).trans ((up2_nj (by omega)).trans up2_s))
      · exact (up2_nj (by omega)).trans ((up2_nj (by omega)).trans up2_s)
      · exact (up2_nj (by omega)).trans up2_s
      · exact (up2_nj (by omega)).trans ((up2_nj (by omega)).trans ((up2_nj (by omega)).trans ((up2_nj (by omega)).trans ((up2_nj (by omega)).trans up2_s))))
      · exact fun q h1 h2 => (up2_row h1).trans ((up2_row h2).trans ((up2_row h2).trans (up2_row h2)))
      · exact fun j hj => (up2_nj hj).trans ((up2_ni (by omega)).trans ((up2_ni (by omega)).trans (up2_ni (by omega))))
      · exact (up2_ni (by omega)).trans ((up2_nj (by decide)).trans ((up2_nj (by decide)).trans up2_s))
      · exact (up2_ni (by omega)).trans ((up2_nj (by decide)).trans up2_s)
      · exact (up2_ni (by omega)).trans up2_s
      · exact fun q h2 => (up2_row h2).trans ((up2_row h2).trans (up2_row h2))
      · exact (up2_nj (by decide)).trans ((up2_nj (by decide)).trans up2_s)
      · exact (up2_nj (by decide)).trans up2_s
    · rw [if_neg h5, if_pos (show nI nA = 8 by rw [show nA = 8 by omega]; rfl)]
      exact Or.inr ⟨by decide, rfl⟩
  · rw [if_neg hc, if_neg hc]
    exact Or.inr ⟨by decide, rfl⟩
theorem Rep_addT {p nA nC n a0 k0 e0 : Nat} {N N' : Nat → Int32} {H O : Nat → UInt32} {I I' : pI} {F : pF} (h : Rep p nA nC n N H O I F) (h5 : n < 24)
    (eN : ∀ q, q ≠ 3 → (q < 251 + 10 * n ∨ 251 + 10 * n + 10 ≤ q) → N' q = N q) (nn : N' 3 = nI (n + 1)) (eI : ∀ q, q ≠ p → q ≠ p + 18 + n → I' q = I q) (eP : ∀ j, j ≠ 6 → I' p j = I p j) (i6 : I' p 6 = nI (n + 1))
    (h05 : ∀ j, j < 6 → I' (p + 18 + n) j = N' (251 + 10 * n + j)) (h6 : I' (p + 18 + n) 6 = mEnd N' n) (h7 : ∀ j, 7 ≤ j → j < 11 → I' (p + 18 + n) j = N' (251 + 10 * n + j - 1)) (k3 : N' (251 + 10 * n + 3) = nI k0) (hk0 : k0 < 5) (k4 : N' (251 + 10 * n + 4) = nI e0) (he0 : 1 ≤ e0 ∧ e0 ≤ 48) (ka : N' (251 + 10 * n + 0) = nI a0) (ha0 : a0 < nA) (ks : N' (251 + 10 * n + 6) = 0) : Rep p nA nC (n + 1) N' H O I' F := by
  obtain ⟨⟨a1, a2, a3, a4, a5, a6, a7, a8, a9, hh, b1, b2, b3⟩, hR, hA, hC, hT, hK, hB⟩ := id h
  have s0 : I' (p + 18 + n) 7 = 0 := (h7 7 (by decide) (by decide)).trans ks
  have nh : ¬ hng I' p n := by
    unfold hng
    rw [s0]
    decide
  have tg : ∀ a, tagsC I' p (n + 1) a = tagsC I p n a := fun a => by
    unfold tagsC
    rw [cnt_f (by rw [decide_eq_false (show ¬ (1 ≤ I' (p + 18 + n) 7 ∧ I' (p + 18 + n) 7 ≤ 3) from nh), Bool.and_false])]
    exact cnt_congr (fun t ht => by rw [eI _ (by omega) (by omega)])
  refine ⟨⟨(eP 4 (by decide)).trans a1, (eN 1 (by omega) (by omega)).trans a2, a3, (eP 5 (by decide)).trans a4, (eN 2 (by omega) (by omega)).trans a5, a6, i6, nn, by omega, hh, b1, (eP 7 (by decide)).trans b2, (eN 0 (by omega) (by omega)).trans b3⟩, fun k hk => ?_, fun a ha => ?_, fun c hc => ?_, fun t ht => ?_, fun a ha g hg => ?_, fun a ha => ?_⟩
  · rw [eI _ (by omega) (by omega), eN _ (by omega) (by omega)]
    exact hR k hk
  · have e := hA a ha
    unfold RepA mWear at e ⊢
    rw [tg, eI _ (by omega) (by omega), eN (4 + 5 * a + 0) (by omega) (by omega), eN (4 + 5 * a + 1) (by omega) (by omega), eN (4 + 5 * a + 2) (by omega) (by omega), eN (4 + 5 * a + 3) (by omega) (by omega), eN (4 + 5 * a + 4) (by omega) (by omega)]
    exact e
  · rw [eI _ (by omega) (by omega), eN _ (by omega) (by omega), eN _ (by omega) (by omega)]
    exact hC c hc
  · by_cases hc : t = n
    · subst hc
      exact ⟨h05, h6, h7, ⟨k0, hk0, k3⟩, ⟨e0, he0.1, he0.2, k4⟩, fun z => absurd (ks.symm.trans z) (by decide), a0, ha0, ka, fun z => absurd z nh⟩
    · exact RepT_fr (hT t (by omega)) (fun j _ => by rw [eI _ (by omega) (by omega)]) (fun j _ => eN _ (by omega) (by omega)) (Nat.le_refl _) (Nat.le_refl _) (fun a g ha _ _ _ h6 _ => ⟨by rw [tg]; exact h6, by have := tags_24 (I := I) (p := p) (a := nI a) a9; exact eN _ (by omega) (by omega)⟩)
  · rw [tg] at hg
    obtain ⟨t, d1, d2, d3, d4⟩ := hK a ha g hg
    exact ⟨t, by omega, by rw [eI _ (by omega) (by omega)]; exact d2, (hng_eq (by rw [eI _ (by omega) (by omega)])).mpr d3, by rw [eI _ (by omega) (by omega)]; exact d4⟩
  · rw [eI _ (by omega) (by omega)]
    exact hB a ha
theorem taskAdd_sim {p m nA nC n : Nat} {a s c d e f : Int32} {J : pI} {G : pF} {I : pI} {F : pF} (hp : Rp p nA nC n (J (m + 1)) (G (m + 2)) (G (m + 3)) I F) : Sim p m nA nC (n + 1) (mTaskE (J (m + 1)) a s c d e f) (newTaskR I F p n a s c d e f) (mTaskR J G m n a s c d e f) I F := by
  obtain ⟨h, hS⟩ := hp
  have a9 : n ≤ 24 := h.1.2.2.2.2.2.2.2.2.1
  have a3 : nA ≤ 8 := h.1.2.2.1
  obtain ⟨hh, b1, b2, b3⟩ := h.1.2.2.2.2.2.2.2.2.2
  unfold newTaskR mTaskE
  rw [h.1.1, h.1.2.1, h.1.2.2.2.2.2.2.2.1, b2, b3]
  by_cases hc : 0 ≤ a ∧ a < nI nA
  · rw [if_pos hc, if_pos hc]
    by_cases hc2 : (0 ≤ s ∧ s ≤ 3) ∧ (1 ≤ c ∧ c ≤ 6) ∧ (0 ≤ d ∧ d ≤ 4) ∧ (1 ≤ e ∧ e ≤ 48) ∧ (nI hh ≤ f ∧ f ≤ 2000)
    · rw [if_pos hc2, if_pos hc2]
      by_cases h5 : n < 24
      · rw [if_pos h5, if_neg (show ¬ nI n = 24 from fun z => absurd ((nI_eq (a := n) (b := 24) (by omega) (by decide)).mp z) (by omega))]
        obtain ⟨i, hi, rfl⟩ := has_nat (decide_eq_true hc) rfl (by omega)
        obtain ⟨k0, -, hk0, rfl⟩ := win_nat (lo := 0) (hi := 4) (decide_eq_true hc2.2.2.1) (by decide) (by decide)
        obtain ⟨e0, he1, he2, rfl⟩ := win_nat (lo := 1) (hi := 48) (decide_eq_true hc2.2.2.2.1) (by decide) (by decide)
        have eN : ∀ q, q ≠ 3 → (q < 251 + 10 * n ∨ 251 + 10 * n + 10 ≤ q) → mTaskI J m n (nI i) s c (nI k0) (nI e0) f (m + 1) q = J (m + 1) q := fun q h1 h2 => by
          unfold mTaskI
          rw [up2_nj (by omega), up2_nj (by omega), up2_nj (by omega), up2_nj (by omega), up2_nj (by omega), up2_nj (by omega), up2_nj (by omega), up2_nj (by omega), up2_nj (by omega), up2_nj (by omega), up2_nj h1]
        have nj : ∀ k j : Nat, k ≠ j → 251 + 10 * n + j ≠ 251 + 10 * n + k := fun k j hk => by omega
        have v0 : mTaskI J m n (nI i) s c (nI k0) (nI e0) f (m + 1) (251 + 10 * n + 0) = nI i := by
          unfold mTaskI
          rw [up2_nj (nj 9 0 (by decide)), up2_nj (nj 8 0 (by decide)), up2_nj (nj 7 0 (by decide)), up2_nj (nj 6 0 (by decide)), up2_nj (nj 5 0 (by decide)), up2_nj (nj 4 0 (by decide)), up2_nj (nj 3 0 (by decide)), up2_nj (nj 2 0 (by decide)), up2_nj (nj 1 0 (by decide)), up2_s]
        have v1 : mTaskI J m n (nI i) s c (nI k0) (nI e0) f (m + 1) (251 + 10 * n + 1) = s := by
          unfold mTaskI
          rw [up2_nj (nj 9 1 (by decide)), up2_nj (nj 8 1 (by decide)), up2_nj (nj 7 1 (by decide)), up2_nj (nj 6 1 (by decide)), up2_nj (nj 5 1 (by decide)), up2_nj (nj 4 1 (by decide)), up2_nj (nj 3 1 (by decide)), up2_nj (nj 2 1 (by decide)), up2_s]
        have v2 : mTaskI J m n (nI i) s c (nI k0) (nI e0) f (m + 1) (251 + 10 * n + 2) = c := by
          unfold mTaskI
          rw [up2_nj (nj 9 2 (by decide)), up2_nj (nj 8 2 (by decide)), up2_nj (nj 7 2 (by decide)), up2_nj (nj 6 2 (by decide)), up2_nj (nj 5 2 (by decide)), up2_nj (nj 4 2 (by decide)), up2_nj (nj 3 2 (by decide)), up2_s]
        have v3 : mTaskI J m n (nI i) s c (nI k0) (nI e0) f (m + 1) (251 + 10 * n + 3) = nI k0 := by
          unfold mTaskI
          rw [up2_nj (nj 9 3 (by decide)), up2_nj (nj 8 3 (by decide)), up2_nj (nj 7 3 (by decide)), up2_nj (nj 6 3 (by decide)), up2_nj (nj 5 3 (by decide)), up2_nj (nj 4 3 (by decide)), up2_s]
        have v4 : mTaskI J m n (nI i) s c (nI k0) (nI e0) f (m + 1) (251 + 10 * n + 4) = nI e0 := by
          unfold mTaskI
          rw [up2_nj (nj 9 4 (by decide)), up2_nj (nj 8 4 (by decide)), up2_nj (nj 7 4 (by decide)), up2_nj (nj 6 4 (by decide)), up2_nj (nj 5 4 (by decide)), up2_s]
        have v5 : mTaskI J m n (nI i) s c (nI k0) (nI e0) f (m + 1) (251 + 10 * n + 5) = f := by
          unfold mTaskI
          rw [up2_nj (nj 9 5 (by decide)), up2_nj (nj 8 5 (by decide)), up2_nj (nj 7 5 (by decide)), up2_nj (nj 6 5 (by decide)), up2_s]
        have v6 : mTaskI J m n (nI i) s c (nI k0) (nI e0) f (m + 1) (251 + 10 * n + 6) = 0 := by
          unfold mTaskI
          rw [up2_nj (nj 9 6 (by decide)), up2_nj (nj 8 6 (by decide)), up2_nj (nj 7 6 (by decide)), up2_s]
        have v7 : mTaskI J m n (nI i) s c (nI k0) (nI e0) f (m + 1) (251 + 10 * n + 7) = -5 := by
          unfold mTaskI
          rw [up2_nj (nj 9 7 (by decide)), up2_nj (nj 8 7 (by decide)), up2_s]
        have v8 : mTaskI J m n (nI i) s c (nI k0) (nI e0) f (m + 1) (251 + 10 * n + 8) = 0 := by
          unfold mTaskI
          rw [up2_nj (nj 9 8 (by decide)), up2_s]
        have v9 : mTaskI J m n (nI i) s c (nI k0) (nI e0) f (m + 1) (251 + 10 * n + 9) = 0 := by
          unfold mTaskI
          rw [up2_s]
        have vn : mTaskI J m n (nI i) s c (nI k0) (nI e0) f (m + 1) 3 = nI (n + 1) := by
          unfold mTaskI
          rw [up2_nj (by omega), up2_nj (by omega), up2_nj (by omega), up2_nj (by omega), up2_nj (by omega), up2_nj (by omega), up2_nj (by omega), up2_nj (by omega), up2_nj (by omega), up2_nj (by omega), up2_s]
        have tI : ∀ j, up2 (taskI I (p + 18 + n) (nI i) s c (nI k0) (nI e0) f) p 6 (nI (n + 1)) (p + 18 + n) j = taskI I (p + 18 + n) (nI i) s c (nI k0) (nI e0) f (p + 18 + n) j := fun j => up2_ni (by omega)
        refine Or.inl ⟨rfl, rfl, nI_pos' (by omega), ?_, ?_⟩
        · refine Rep_addT (a0 := i) (k0 := k0) (e0 := e0) h h5 eN vn (fun q h1 h2 => (up2_row h1).trans (funext fun j => taskI_fr h2)) (fun j hj => (up2_nj hj).trans (taskI_fr (by omega))) up2_s ?_ ?_ ?_ v3 (by omega) v4 ⟨he1, he2⟩ v0 hi v6
          · intro j hj
            show up2 _ _ _ _ _ _ = mTaskI J m n (nI i) s c (nI k0) (nI e0) f (m + 1) _
            rw [tI]
            rcases (show j = 0 ∨ j = 1 ∨ j = 2 ∨ j = 3 ∨ j = 4 ∨ j = 5 by omega) with rfl | rfl | rfl | rfl | rfl | rfl
            · rw [v0]; simp [taskI, up2]
            · rw [v1]; simp [taskI, up2]
            · rw [v2]; simp [taskI, up2]
            · rw [v3]; simp [taskI, up2]
            · rw [v4]; simp [taskI, up2]
            · rw [v5]; simp [taskI, up2]
          · show up2 _ _ _ _ _ _ = mEnd (mTaskI J m n (nI i) s c (nI k0) (nI e0) f (m + 1)) n
            rw [tI, mEnd, v4, v5]
            simp [taskI, up2]
          · intro j hj hj2
            show up2 _ _ _ _ _ _ = mTaskI J m n (nI i) s c (nI k0) (nI e0) f (m + 1) _
            rw [tI]
            rcases (show j = 7 ∨ j = 8 ∨ j = 9 ∨ j = 10 by omega) with rfl | rfl | rfl | rfl
            · rw [show 251 + 10 * n + 7 - 1 = 251 + 10 * n + 6 from rfl, v6]; simp [taskI, up2]
            · rw [show 251 + 10 * n + 8 - 1 = 251 + 10 * n + 7 from rfl, v7]; simp [taskI, up2]
            · rw [show 251 + 10 * n + 9 - 1 = 251 + 10 * n + 8 from rfl, v8]; simp [taskI, up2]
            · rw [show 251 + 10 * n + 10 - 1 = 251 + 10 * n + 9 from rfl, v9]; simp [taskI, up2]
        · refine Slp_eq hS (eN 0 (by omega) (by omega)) (fun t ht => ?_)
          by_cases hc : t = n
          · subst hc
            exact Or.inr v9
          · exact Or.inl ⟨by omega, eN _ (by omega) (by omega)⟩
      · rw [if_neg h5, if_pos (show nI n = 24 by rw [show n = 24 by omega]; rfl)]
        exact Or.inr ⟨by decide, rfl⟩
    · rw [if_neg hc2, if_neg hc2]
      exact Or.inr ⟨by decide, rfl⟩
  · rw [if_neg hc, if_neg hc]
    exact Or.inr ⟨by decide, rfl⟩
/-! one task's own numbers -/
theorem RepT_set {p nA nC n t : Nat} {N N' : Nat → Int32} {I I' : pI} (h : RepT p nA nC n N I t) (h05 : ∀ j, j < 6 → I' (p + 18 + t) j = N' (251 + 10 * t + j)) (h6 : I' (p + 18 + t) 6 = mEnd N' t) (h7 : ∀ j, 7 ≤ j → j < 11 → I' (p + 18 + t) j = N' (251 + 10 * t + j - 1)) (k3 : N' (251 + 10 * t + 3) = N (251 + 10 * t + 3)) (k4 : N' (251 + 10 * t + 4) = N (251 + 10 * t + 4)) (k0 : N' (251 + 10 * t + 0) = N (251 + 10 * t + 0))
    (kw : N' (251 + 10 * t + 6) = 2 → ∃ w, 1 ≤ w ∧ w ≤ 48 ∧ N' (251 + 10 * t + 8) = nI w) (hg : hng I' p t → hng I p t) (k7 : hng I' p t → N' (251 + 10 * t + 7) = N (251 + 10 * t + 7)) (h11 : I' (p + 18 + t) 11 = I (p + 18 + t) 11) (htg : ∀ a, tagsC I' p n a = tagsC I p n a) (hst : ∀ q, q < 236 → N' q = N q) (hn : n ≤ 24) (h8 : nA ≤ 8) : RepT p nA nC n N' I' t := by
  obtain ⟨c1, c2, c3, c4, c5, c6, a, ha, c7, c8⟩ := h
  refine ⟨h05, h6, h7, by rw [k3]; exact c4, by rw [k4]; exact c5, kw, a, ha, k0.trans c7, fun z => ?_⟩
  obtain ⟨⟨c, d1, d2⟩, g, d3, d4, d5⟩ := c8 (hg z)
  have := tags_24 (I := I) (p := p) (a := nI a) hn
  exact ⟨⟨c, d1, (k7 z).trans d2⟩, g, by rw [htg]; exact d3, h11.trans d4, (hst _ (by omega)).trans d5⟩
theorem tags_one {p n t0 : Nat} {I I' : pI} (hI : ∀ i, i ≠ p + 18 + t0 → I' i = I i) (h0 : I' (p + 18 + t0) 0 = I (p + 18 + t0) 0) (hg : hng I' p t0 ↔ hng I p t0) (a : Int32) : tagsC I' p n a = tagsC I p n a := tags_eq (fun t ht => by
    by_cases hc : t = t0
    · subst hc
      refine ⟨h0, ?_⟩
      by_cases hx : hng I p t
      · exact Or.inr (Or.inl ⟨hg.mpr hx, hx⟩)
      · exact Or.inr (Or.inr ⟨fun z => hx (hg.mp z), hx⟩)
    · rw [hI _ (by omega)]
      exact ⟨rfl, Or.inl rfl⟩)
theorem cancel_sim {p m nA nC n : Nat} {a : Int32} {J : pI} {G : pF} {I : pI} {F : pF} (hp : Rp p nA nC n (J (m + 1)) (G (m + 2)) (G (m + 3)) I F) : Sim p m nA nC n (mCanE (J (m + 1)) a) (cancelR I F p a) (mCanR J G m a) I F := by
  obtain ⟨h, hS⟩ := hp
  have a9 : n ≤ 24 := h.1.2.2.2.2.2.2.2.2.1
  have a3 : nA ≤ 8 := h.1.2.2.1
  unfold cancelR mCanE
  rw [h.1.2.2.2.2.2.2.1, h.1.2.2.2.2.2.2.2.1]
  by_cases hc : 0 ≤ a ∧ a < nI n
  · rw [if_pos hc, if_pos hc]
    obtain ⟨t, ht, rfl⟩ := has_nat (decide_eq_true hc) rfl (by omega)
    have cl : (nI t).toNatClampNeg = t := nI_clamp (by omega)
    have g := h.2.2.2.2.1 t ht
    unfold mCanR
    rw [cl, T7 g]
    by_cases hs : J (m + 1) (251 + 10 * t + 6) = 0
    · rw [if_pos hs, if_pos hs]
      obtain ⟨hh, e1, e2, e3⟩ := id hS
      obtain ⟨s, e4, e5⟩ := e3 t ht
      have n1 : ¬ hng I p t := by
        unfold hng
        rw [T7 g, hs]
        decide
      have n2 : ¬ hng (up2 I (p + 18 + t) 7 6) p t := by
        unfold hng
        rw [up2_s]
        decide
      have nj : ∀ j, j ≠ 6 → up2 J (m + 1) (251 + 10 * t + 6) 6 (m + 1) (251 + 10 * t + j) = J (m + 1) (251 + 10 * t + j) := fun j hj => up2_nj (by omega)
      refine Or.inl ⟨rfl, T10 g, ?_, ?_, Slp_eq hS (up2_nj (by omega)) (fun t' ht' => Or.inl ⟨ht', up2_nj (by omega)⟩)⟩
      · show 0 ≤ I (p + 18 + t) 10
        rw [T10 g, e5]
        exact nI_pos' (by omega)
      · refine Rep_task h ht (fun i hi => up2_row hi) (up2_nj (by decide)) (up2_nj (by decide)) ⟨fun z => absurd z n2, fun z => absurd z n1⟩ (fun j hj => up2_nj (by omega)) ?_
        refine RepT_set g (fun j hj => ?_) ?_ (fun j hj1 hj2 => ?_) (nj 3 (by decide)) (nj 4 (by decide)) (nj 0 (by decide)) (fun z => ?_) (fun z => absurd z n2) (fun z => absurd z n2) (up2_nj (by decide)) (tags_one (fun i hi => up2_row hi) (up2_nj (by decide)) ⟨fun z => absurd z n2, fun z => absurd z n1⟩) (fun q hq => up2_nj (by omega)) a9 a3
        · exact (up2_nj (by omega)).trans ((Tj g hj).trans (nj j (by omega)).symm)
        · show up2 I (p + 18 + t) 7 6 (p + 18 + t) 6 = mEnd (up2 J (m + 1) (251 + 10 * t + 6) 6 (m + 1)) t
          rw [mEnd, nj 5 (by decide), nj 4 (by decide)]
          exact (up2_nj (by decide)).trans g.2.1
        · rcases (show j = 7 ∨ j = 8 ∨ j = 9 ∨ j = 10 by omega) with rfl | rfl | rfl | rfl
          · exact up2_s.trans up2_s.symm
          · exact (up2_nj (by decide)).trans ((T8 g).trans (nj 7 (by decide)).symm)
          · exact (up2_nj (by decide)).trans ((T9 g).trans (nj 8 (by decide)).symm)
          · exact (up2_nj (by decide)).trans ((T10 g).trans (nj 9 (by decide)).symm)
        · exact absurd (up2_s.symm.trans z) (by decide)
    · rw [if_neg hs, if_neg hs]
      exact Or.inr ⟨by decide, rfl⟩
  · rw [if_neg hc, if_neg hc]
    exact Or.inr ⟨by decide, rfl⟩
theorem begin_sim {p m nA nC n : Nat} {a : Int32} {J : pI} {G : pF} {I : pI} {F : pF} (hp : Rp p nA nC n (J (m + 1)) (G (m + 2)) (G (m + 3)) I F) : Sim p m nA nC n (mBeginE (J (m + 1)) n a) (beginR I F p n a) (mBeginR J G m a) I F := by
  obtain ⟨h, hS⟩ := hp
  have a9 : n ≤ 24 := h.1.2.2.2.2.2.2.2.2.1
  have a3 : nA ≤ 8 := h.1.2.2.1
  obtain ⟨hh, b1, b2, b3⟩ := h.1.2.2.2.2.2.2.2.2.2
  unfold beginR mBeginE
  rw [h.1.2.2.2.2.2.2.1, h.1.2.2.2.2.2.2.2.1]
  by_cases hc : 0 ≤ a ∧ a < nI n
  · rw [if_pos hc, if_pos hc]
    obtain ⟨t, ht, rfl⟩ := has_nat (decide_eq_true hc) rfl (by omega)
    have cl : (nI t).toNatClampNeg = t := nI_clamp (by omega)
    have g := h.2.2.2.2.1 t ht
    obtain ⟨a', k, ha, hk, e0, e3, eA, eK, f0, f3⟩ := atk h ht
    unfold mBeginR
    rw [cl, eA, eK, f0, f3, nI_clamp (show a' < 2 ^ 31 by omega), nI_clamp (show k < 2 ^ 31 by omega), reas_eq h hk ha ht]
    by_cases hs : mReas (J (m + 1)) n t k a' = 0
    · rw [if_pos hs, if_pos hs]
      have st1 : J (m + 1) (251 + 10 * t + 6) = 1 := by
        by_cases z : J (m + 1) (251 + 10 * t + 6) = 1
        · exact z
        · rw [mReas, if_neg z] at hs
          exact absurd hs (by decide)
      obtain ⟨e, he1, he2, he⟩ := g.2.2.2.2.1
      have n1 : hng I p t := by
        unfold hng
        rw [T7 g, st1]
        decide
      have n2 : hng (up2 (up2 I (p + 18 + t) 7 2) (p + 18 + t) 9 (I (p + 18 + t) 4)) p t := by
        unfold hng
        rw [up2_nj (show 7 ≠ 9 by decide), up2_s]
        decide
      have nj : ∀ j, j ≠ 6 → j ≠ 8 → up2 (up2 J (m + 1) (251 + 10 * t + 6) 2) (m + 1) (251 + 10 * t + 8) (J (m + 1) (251 + 10 * t + 4)) (m + 1) (251 + 10 * t + j) = J (m + 1) (251 + 10 * t + j) := fun j hj hj2 => (up2_nj (by omega)).trans (up2_nj (by omega))
      have nh : hng (up2 (up2 I (p + 18 + t) 7 2) (p + 18 + t) 9 (I (p + 18 + t) 4)) p t ↔ hng I p t := ⟨fun _ => n1, fun _ => n2⟩
      refine Or.inl ⟨rfl, ?_, ?_, ?_, Slp_eq hS ((up2_nj (by omega)).trans (up2_nj (by omega))) (fun t' ht' => Or.inl ⟨ht', (up2_nj (by omega)).trans (up2_nj (by omega))⟩)⟩
      · show I p 7 + I (p + 18 + t) 4 = J (m + 1) 0 + J (m + 1) (251 + 10 * t + 4)
        rw [b2, b3, Tj g (j := 4) (by decide)]
      · show 0 ≤ I p 7 + I (p + 18 + t) 4
        rw [b2, Tj g (j := 4) (by decide), he, nI_add]
        exact nI_pos' (by omega)
      · refine Rep_task h ht (fun i hi => (up2_row hi).trans (up2_row hi)) ((up2_nj (by decide)).trans (up2_nj (by decide))) ((up2_nj (by decide)).trans (up2_nj (by decide))) nh (fun j hj => (up2_nj (by omega)).trans (up2_nj (by omega))) ?_
        refine RepT_set g (fun j hj => ?_) ?_ (fun j hj1 hj2 => ?_) (nj 3 (by decide) (by decide)) (nj 4 (by decide) (by decide)) (nj 0 (by decide) (by decide)) (fun z => ⟨e, he1, he2, up2_s.trans he⟩) (fun _ => n1) (fun _ => nj 7 (by decide) (by decide)) ((up2_nj (by decide)).trans (up2_nj (by decide))) (tags_one (fun i hi => (up2_row hi).trans (up2_row hi)) ((up2_nj (by decide)).trans (up2_nj (by decide))) nh) (fun q hq => (up2_nj (by omega)).trans (up2_nj (by omega))) a9 a3
        · exact ((up2_nj (by omega)).trans (up2_nj (by omega))).trans ((Tj g hj).trans (nj j (by omega) (by omega)).symm)
        · show up2 (up2 I (p + 18 + t) 7 2) (p + 18 + t) 9 (I (p + 18 + t) 4) (p + 18 + t) 6 = mEnd (up2 (up2 J (m + 1) (251 + 10 * t + 6) 2) (m + 1) (251 + 10 * t + 8) (J (m + 1) (251 + 10 * t + 4)) (m + 1)) t
          rw [mEnd, nj 5 (by decide) (by decide), nj 4 (by decide) (by decide)]
          exact ((up2_nj (by decide)).trans (up2_nj (by decide))).trans g.2.1
        · rcases (show j = 7 ∨ j = 8 ∨ j = 9 ∨ j = 10 by omega) with rfl | rfl | rfl | rfl
          · exact ((up2_nj (by decide)).trans up2_s).trans ((up2_nj (by omega)).trans up2_s).symm
          · exact ((up2_nj (by decide)).trans (up2_nj (by decide))).trans ((T8 g).trans (nj 7 (by decide) (by decide)).symm)
          · exact up2_s.trans ((Tj g (j := 4) (by decide)).trans up2_s.symm)
          · exact ((up2_nj (by decide)).trans (up2_nj (by decide))).trans ((T10 g).trans (nj 9 (by decide) (by decide)).symm)
    · rw [if_neg hs, if_neg hs]
      exact Or.inr ⟨by decide, rfl⟩
  · rw [if_neg hc, if_neg hc]
    exact Or.inr ⟨by decide, rfl⟩
