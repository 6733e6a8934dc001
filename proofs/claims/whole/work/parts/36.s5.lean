/-! an asset more, a task more -/
theorem assetAdd_sim {p m nA nC n : Nat} {r w : Int32} {J : pI} {G : pF} {I : pI} {F : pF} (hp : Rp p nA nC n (J (m + 1)) (G (m + 2)) (G (m + 3)) I F) : Sim p m (nA + 1) nC n (mAddE (J (m + 1)) r w) (newAssetR I F p nA r w) (mAddR J G m nA r w) I F := by
  obtain ⟨⟨⟨a1, a2, a3, a4, a5, a6, a7, a8, a9, hh, b1, b2, b3⟩, hR, hA, hC, hT, hK, hB⟩, hS⟩ := hp
  unfold newAssetR mAddE
  by_cases hc : (1 ≤ r ∧ r ≤ 100) ∧ (1 ≤ w ∧ w ≤ 200)
  · rw [if_pos hc, if_pos hc, a2]
    by_cases h5 : nA < 8
    · rw [if_pos h5, if_neg (show ¬ nI nA = 8 from fun z => absurd ((nI_eq (a := nA) (b := 8) (by omega) (by decide)).mp z) (by omega))]
      have eN : ∀ q, q ≠ 1 → (q < 4 + 5 * nA ∨ 4 + 5 * nA + 5 ≤ q) → (mAddR J G m nA r w).2.1 (m + 1) q = J (m + 1) q := fun q h1 h2 => (up2_nj (by omega)).trans ((up2_nj (by omega)).trans ((up2_nj (by omega)).trans ((up2_nj (by omega)).trans ((up2_nj (by omega)).trans (up2_nj h1)))))
      have n0 : (mAddR J G m nA r w).2.1 (m + 1) (4 + 5 * nA + 0) = r := (up2_nj (by omega)).trans ((up2_nj (by omega)).trans ((up2_nj (by omega)).trans ((up2_nj (by omega)).trans up2_s)))
      have n1 : (mAddR J G m nA r w).2.1 (m + 1) (4 + 5 * nA + 1) = w := (up2_nj (by omega)).trans ((up2_nj (by omega)).trans ((up2_nj (by omega)).trans up2_s))
      have n2 : (mAddR J G m nA r w).2.1 (m + 1) (4 + 5 * nA + 2) = 0 := (up2_nj (by omega)).trans ((up2_nj (by omega)).trans up2_s)
      have n3 : (mAddR J G m nA r w).2.1 (m + 1) (4 + 5 * nA + 3) = 0 := (up2_nj (by omega)).trans up2_s
      have n4 : (mAddR J G m nA r w).2.1 (m + 1) (4 + 5 * nA + 4) = 0 := up2_s
      have nn : (mAddR J G m nA r w).2.1 (m + 1) 1 = nI (nA + 1) := (up2_nj (by omega)).trans ((up2_nj (by omega)).trans ((up2_nj (by omega)).trans ((up2_nj (by omega)).trans ((up2_nj (by omega)).trans up2_s))))
      have gH : ∀ a, a ≠ nA → (mAddR J G m nA r w).2.2 (m + 2) a = G (m + 2) a := fun a ha => (up2_ni (by omega)).trans (up2_nj ha)
      have gO : ∀ a, a ≠ nA → (mAddR J G m nA r w).2.2 (m + 3) a = G (m + 3) a := fun a ha => (up2_nj ha).trans (up2_ni (by omega))
      have hN : (mAddR J G m nA r w).2.2 (m + 2) nA = 1065353216 := (up2_ni (by omega)).trans up2_s
      have oN : (mAddR J G m nA r w).2.2 (m + 3) nA = 0 := up2_s
      revert eN n0 n1 n2 n3 n4 nn gH gO hN oN
      generalize (mAddR J G m nA r w).2.1 (m + 1) = N'
      intro eN n0 n1 n2 n3 n4 nn
      refine fun gH gO hN oN => Or.inl ⟨rfl, rfl, nI_pos' (by omega), ?_, ?_⟩
      · show Rep p (nA + 1) nC n _ _ _ (up2 (up2 (up2 (up2 I (p + 5 + nA) 0 r) (p + 5 + nA) 4 0) (p + 5 + nA) 5 0) p 4 (nI (nA + 1))) (up2 (up2 (up2 F (p + 5 + nA) 1 (FP.fdiv (FP.i2f w) 1148846080)) (p + 5 + nA) 2 1065353216) (p + 5 + nA) 3 0)
        sorry
      · sorry
    · rw [if_neg h5, if_pos (show nI nA = 8 by rw [show nA = 8 by omega]; rfl)]
      exact Or.inr ⟨by decide, rfl⟩
  · rw [if_neg hc, if_neg hc]
    exact Or.inr ⟨by decide, rfl⟩
