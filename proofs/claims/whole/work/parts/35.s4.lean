/-! bits -/
def tabAll : Bool := (List.range 256).all fun b => decide (bitC (nI b) = onesV (nI b)) && (decide (0 ≤ bitC (nI b)) && (List.range 8).all fun i => decide (nI b ^^^ (1 <<< (nI i &&& 31)) = nI (b ^^^ 2 ^ i)) && (decide (b ^^^ 2 ^ i < 256) && (decide ((nI b >>> (nI i &&& 31)) &&& 1 = 0) || decide ((nI b >>> (nI i &&& 31)) &&& 1 = 1))))
def tabBar : Bool := (List.range 32).all fun b => (List.range 5).all fun i => decide (b ^^^ 2 ^ i < 32)
theorem tabAll_t : tabAll = true := by decide +kernel
theorem tabBar_t : tabBar = true := by decide +kernel
theorem tab_b {b : Nat} (hb : b < 256) : bitC (nI b) = onesV (nI b) ∧ 0 ≤ bitC (nI b) ∧ ∀ i, i < 8 → nI b ^^^ (1 <<< (nI i &&& 31)) = nI (b ^^^ 2 ^ i) ∧ b ^^^ 2 ^ i < 256 ∧ ((nI b >>> (nI i &&& 31)) &&& 1 = 0 ∨ (nI b >>> (nI i &&& 31)) &&& 1 = 1) := by
  have h := List.all_eq_true.mp tabAll_t b (List.mem_range.mpr hb)
  simp only [Bool.and_eq_true, decide_eq_true_eq] at h
  refine ⟨h.1, h.2.1, fun i hi => ?_⟩
  have h2 := List.all_eq_true.mp h.2.2 i (List.mem_range.mpr hi)
  simp only [Bool.and_eq_true, Bool.or_eq_true, decide_eq_true_eq] at h2
  exact h2
theorem tab_bar {b i : Nat} (hb : b < 32) (hi : i < 5) : b ^^^ 2 ^ i < 32 := by
  have h := List.all_eq_true.mp (List.all_eq_true.mp tabBar_t b (List.mem_range.mpr hb)) i (List.mem_range.mpr hi)
  exact of_decide_eq_true h
theorem lk_iff {V z : Int32} (hV : V = 0 ∨ V = 1) (hz : z = 0 ∨ z = 1) : bI (decide (V = 1)) = z ↔ V = (if z = 0 then 0 else 1) := by
  rcases hV with rfl | rfl <;> rcases hz with rfl | rfl <;> decide
theorem Rep_link1 {p nA nC n i j m : Nat} {J : pI} {H O : Nat → UInt32} {I : pI} {F : pF} (h : Rep p nA nC n (J (m + 1)) H O I F) (hi : i < nA) (hj : j < 8) : Rep p nA nC n (up2 J (m + 1) (4 + 5 * i + 3) (J (m + 1) (4 + 5 * i + 3) ^^^ (1 <<< (nI j &&& 31))) (m + 1)) H O (up2 I (p + 5 + i) 5 (I (p + 5 + i) 5 ^^^ (1 <<< (nI j &&& 31)))) F := by
  have h8 : nA ≤ 8 := h.1.2.2.1
  refine Rep_asset h (fun j hj => up2_row (by omega)) (fun j hj => up2_nj (by omega)) (fun a ha => ?_) (fun a ha => ?_)
  · have tg : tagsC (up2 I (p + 5 + i) 5 (I (p + 5 + i) 5 ^^^ (1 <<< (nI j &&& 31)))) p n (nI a) = tagsC I p n (nI a) := tags_eq (fun t ht => by rw [up2_row (by omega)]; exact ⟨rfl, Or.inl rfl⟩)
    by_cases hc : a = i
    · subst hc
      obtain ⟨c1, c2, c3, c4, c5, c6, ⟨b, hb, c7⟩, c8⟩ := h.2.2.1 a ha
      have n0 : ∀ k, k ≠ 3 → ∀ x : Int32, up2 J (m + 1) (4 + 5 * a + 3) x (m + 1) (4 + 5 * a + k) = J (m + 1) (4 + 5 * a + k) := fun k hk x => up2_nj (by omega)
      obtain ⟨t1, t2, -⟩ := (tab_b hb).2.2 j hj
      unfold RepA mWear
      rw [tg, n0 0 (by decide), n0 1 (by decide), n0 2 (by decide), n0 4 (by decide), up2_nj (show 0 ≠ 5 by decide), up2_nj (show 4 ≠ 5 by decide), up2_s, up2_s, c6, c7]
      exact ⟨c1, c2, c3, c4, c5, rfl, ⟨_, t2, t1⟩, c8⟩
    · exact RepA_fr (h.2.2.1 a ha) (up2_row (by omega)) rfl (fun j hj => up2_nj (by omega)) rfl rfl tg
  · rw [up2_n (by omega)]
    exact h.2.2.2.2.2.2 a ha
theorem link_sim {p m nA nC n : Nat} {a o z : Int32} {J : pI} {G : pF} {I : pI} {F : pF} (hp : Rp p nA nC n (J (m + 1)) (G (m + 2)) (G (m + 3)) I F) (hz : z = 0 ∨ z = 1) : Sim p m nA nC n (mLinkE (J (m + 1)) a o z) (setLinkR I F p a o z) (mLinkR J G m a o) I F := by
  have h := hp.1
  have h8 : nA ≤ 8 := h.1.2.2.1
  unfold setLinkR mLinkE
  rw [h.1.1, h.1.2.1]
  by_cases hc : (0 ≤ a ∧ a < nI nA) ∧ (0 ≤ o ∧ o < nI nA)
  · obtain ⟨i, hi, rfl⟩ := has_nat (decide_eq_true hc.1) rfl (by omega)
    obtain ⟨j, hj, rfl⟩ := has_nat (decide_eq_true hc.2) rfl (by omega)
    have cli : (nI i).toNatClampNeg = i := nI_clamp (by omega)
    have clj : (nI j).toNatClampNeg = j := nI_clamp (by omega)
    rw [if_pos hc, if_pos hc, cli, clj]
    by_cases hij : nI i = nI j
    · rw [if_pos hij, if_pos hij]
      exact Or.inr ⟨by decide, rfl⟩
    · rw [if_neg hij, if_neg hij]
      obtain ⟨c1, c2, c3, c4, c5, c6, ⟨b, hb, c7⟩, c8⟩ := h.2.2.1 i hi
      have hV := ((tab_b hb).2.2 j (by omega)).2.2
      have hL : linkB I p i (nI j) = decide ((nI b >>> (nI j &&& 31)) &&& 1 = 1) := by
        unfold linkB
        rw [c6, c7]
      rw [hL, c7]
      by_cases hq : (nI b >>> (nI j &&& 31)) &&& 1 = (if z = 0 then 0 else 1)
      · rw [if_pos ((lk_iff hV hz).mpr hq), if_pos hq]
        exact Or.inr ⟨by decide, rfl⟩
      · rw [if_neg (fun w => hq ((lk_iff hV hz).mp w)), if_neg hq]
        have h2 := Rep_link1 (j := i) (Rep_link1 (j := j) h hi (by omega)) hj (by omega)
        have eJ : mLinkI (mLinkI J m (nI i) (nI j)) m (nI j) (nI i) = up2 (up2 J (m + 1) (4 + 5 * i + 3) (J (m + 1) (4 + 5 * i + 3) ^^^ (1 <<< (nI j &&& 31)))) (m + 1) (4 + 5 * j + 3) (up2 J (m + 1) (4 + 5 * i + 3) (J (m + 1) (4 + 5 * i + 3) ^^^ (1 <<< (nI j &&& 31))) (m + 1) (4 + 5 * j + 3) ^^^ (1 <<< (nI i &&& 31))) := by
          unfold mLinkI
          rw [cli, clj]
        unfold mLinkR
        rw [eJ, cli]
        obtain ⟨-, -, -, -, -, d6, ⟨b2, hb2, d7⟩, -⟩ := h2.2.2.1 i hi
        refine Or.inl ⟨rfl, ?_, ?_, h2, ?_⟩
        · show bitC _ = onesV _
          rw [d6, d7]
          exact (tab_b hb2).1
        · show 0 ≤ bitC _
          rw [d6, d7]
          exact (tab_b hb2).2.1
        · exact Slp_eq hp.2 ((up2_nj (by omega)).trans (up2_nj (by omega))) (fun t ht => Or.inl ⟨ht, (up2_nj (by omega)).trans (up2_nj (by omega))⟩)
  · rw [if_neg hc, if_neg hc]
    exact Or.inr ⟨by decide, rfl⟩
theorem Rep_bar1 {p nA nC n i j m : Nat} {J : pI} {H O : Nat → UInt32} {I : pI} {F : pF} (h : Rep p nA nC n (J (m + 1)) H O I F) (hi : i < 5) (hj : j < 5) : Rep p nA nC n (up2 J (m + 1) (246 + i) (J (m + 1) (246 + i) ^^^ (1 <<< (nI j &&& 31))) (m + 1)) H O (up2 I (p + 4) i (I (p + 4) i ^^^ (1 <<< (nI j &&& 31)))) F := by
  obtain ⟨⟨a1, a2, a3, a4, a5, a6, a7, a8, a9, hh, b1, b2, b3⟩, hR, hA, hC, hT, hK, hB⟩ := h
  have tg : ∀ a, tagsC (up2 I (p + 4) i (I (p + 4) i ^^^ (1 <<< (nI j &&& 31)))) p n a = tagsC I p n a := fun a => tags_eq (fun t ht => by rw [up2_row (by omega)]; exact ⟨rfl, Or.inl rfl⟩)
  have eI : ∀ q, q ≠ p + 4 → ∀ x : Int32, up2 I (p + 4) i x q = I q := fun q hq x => up2_row hq
  have eN : ∀ q, q ≠ 246 + i → ∀ x : Int32, up2 J (m + 1) (246 + i) x (m + 1) q = J (m + 1) q := fun q hq x => up2_nj hq
  refine ⟨⟨by rw [eI p (by omega)]; exact a1, (eN 1 (by omega) _).trans a2, a3, by rw [eI p (by omega)]; exact a4, (eN 2 (by omega) _).trans a5, a6, by rw [eI p (by omega)]; exact a7, (eN 3 (by omega) _).trans a8, a9, hh, b1, by rw [eI p (by omega)]; exact b2, (eN 0 (by omega) _).trans b3⟩, fun k hk => ?_, fun a ha => ?_, fun c hc => ?_, fun t ht => ?_, fun a ha g hg => ?_, fun a ha => ?_⟩
  · by_cases hc : k = i
    · subst hc
      obtain ⟨c1, b, hb, c2⟩ := hR k hk
      rw [up2_s, up2_s, c1, c2]
      obtain ⟨t1, t2, -⟩ := (tab_b (show b < 256 by omega)).2.2 j (by omega)
      exact ⟨rfl, _, tab_bar hb hj, t1⟩
    · rw [up2_nj hc, up2_nj (by omega)]
      exact hR k hk
  · exact RepA_fr (hA a ha) (eI _ (by omega) _) rfl (fun j _ => eN _ (by omega) _) rfl rfl (tg _)
  · rw [eI _ (by omega), eN _ (by omega), eN _ (by omega)]
    exact hC c hc
  · exact RepT_fr (hT t ht) (fun j _ => by rw [eI _ (by omega)]) (fun j _ => eN _ (by omega) _) (Nat.le_refl _) (Nat.le_refl _) (fun a g ha _ _ _ h5 _ => ⟨by rw [tg]; exact h5, eN _ (by have := cnt_le (P := fun t => decide (I (p + 18 + t) 0 = nI a) && decide (1 ≤ I (p + 18 + t) 7 ∧ I (p + 18 + t) 7 ≤ 3)) n; unfold tagsC at h5; omega) _⟩)
  · rw [tg] at hg
    obtain ⟨t, d1, d2, d3, d4⟩ := hK a ha g hg
    exact ⟨t, d1, by rw [eI _ (by omega)]; exact d2, (hng_eq (by rw [eI _ (by omega)])).mpr d3, by rw [eI _ (by omega)]; exact d4⟩
  · rw [eI _ (by omega)]
    exact hB a ha
theorem bar_sim {p m nA nC n : Nat} {a o z : Int32} {J : pI} {G : pF} {I : pI} {F : pF} (hp : Rp p nA nC n (J (m + 1)) (G (m + 2)) (G (m + 3)) I F) : Sim p m nA nC n (mBarE (J (m + 1)) a o z) (setBarR I F p a o z) (mBarR J G m a o) I F := by
  have h := hp.1
  unfold setBarR mBarE
  by_cases hc : (0 ≤ a ∧ a ≤ 4) ∧ (0 ≤ o ∧ o ≤ 4)
  · obtain ⟨i, hi0, hi, rfl⟩ := win_nat (lo := 0) (hi := 4) (decide_eq_true hc.1) (by decide) (by decide)
    obtain ⟨j, hj0, hj, rfl⟩ := win_nat (lo := 0) (hi := 4) (decide_eq_true hc.2) (by decide) (by decide)
    have cli : (nI i).toNatClampNeg = i := nI_clamp (by omega)
    have clj : (nI j).toNatClampNeg = j := nI_clamp (by omega)
    rw [if_pos hc, if_pos hc, cli, clj, barB_eq h (by omega)]
    by_cases hq : bI (mBarB (J (m + 1)) i (nI j)) = z
    · rw [if_pos hq, if_pos hq]
      exact Or.inr ⟨by decide, rfl⟩
    · rw [if_neg hq, if_neg hq]
      have r1 := Rep_bar1 (i := i) (j := j) h (by omega) (by omega)
      have key : ∀ (J2 I2 : pI), Rep p nA nC n (J2 (m + 1)) (G (m + 2)) (G (m + 3)) I2 F → Slp n (J2 (m + 1)) → Sim p m nA nC n 0 (bitC (I2 (p + 4) i), I2, F) (onesV (J2 (m + 1) (246 + i)), J2, G) I F := by
        intro J2 I2 h2 h3
        obtain ⟨d1, b, hb, d2⟩ := h2.2.1 i (by omega)
        refine Or.inl ⟨rfl, ?_, ?_, h2, h3⟩
        · show bitC _ = onesV _
          rw [d1, d2]
          exact (tab_b (by omega)).1
        · show 0 ≤ bitC _
          rw [d1, d2]
          exact (tab_b (by omega)).2.1
      unfold mBarR barI2
      rw [cli]
      by_cases hij : nI i = nI j
      · rw [if_pos hij, if_pos hij]
        have e1 : mBarI J m (nI i) (nI j) = up2 J (m + 1) (246 + i) (J (m + 1) (246 + i) ^^^ (1 <<< (nI j &&& 31))) := by
          unfold mBarI
          rw [cli]
        rw [e1]
        exact key _ _ r1 (Slp_eq hp.2 (up2_nj (by omega)) (fun t ht => Or.inl ⟨ht, up2_nj (by omega)⟩))
      · rw [if_neg hij, if_neg hij]
        have r2 := Rep_bar1 (i := j) (j := i) r1 (by omega) (by omega)
        have e1 : mBarI (mBarI J m (nI i) (nI j)) m (nI j) (nI i) = up2 (up2 J (m + 1) (246 + i) (J (m + 1) (246 + i) ^^^ (1 <<< (nI j &&& 31)))) (m + 1) (246 + j) (up2 J (m + 1) (246 + i) (J (m + 1) (246 + i) ^^^ (1 <<< (nI j &&& 31))) (m + 1) (246 + j) ^^^ (1 <<< (nI i &&& 31))) := by
          unfold mBarI
          rw [cli, clj]
        rw [e1]
        exact key _ _ r2 (Slp_eq hp.2 ((up2_nj (by omega)).trans (up2_nj (by omega))) (fun t ht => Or.inl ⟨ht, (up2_nj (by omega)).trans (up2_nj (by omega))⟩))
  · rw [if_neg hc, if_neg hc]
    exact Or.inr ⟨by decide, rfl⟩
theorem crewAdd_sim {p m nA nC n : Nat} {r w : Int32} {J : pI} {G : pF} {I : pI} {F : pF} (hp : Rp p nA nC n (J (m + 1)) (G (m + 2)) (G (m + 3)) I F) : Sim p m nA (nC + 1) n (mCrewE (J (m + 1)) r w) (newCrewR I F p nC r w) (mCrewR J G m nC r w) I F := by
  obtain ⟨⟨⟨a1, a2, a3, a4, a5, a6, a7, a8, a9, hh, b1, b2, b3⟩, hR, hA, hC, hT, hK, hB⟩, hS⟩ := hp
  unfold newCrewR mCrewE
  by_cases hc : (1 ≤ r ∧ r ≤ 6) ∧ (0 ≤ w ∧ w ≤ 15)
  · rw [if_pos hc, if_pos hc, a5]
    by_cases h5 : nC < 5
    · rw [if_pos h5, if_neg (show ¬ nI nC = 5 from fun z => absurd ((nI_eq (a := nC) (b := 5) (by omega) (by decide)).mp z) (by omega))]
      refine Or.inl ⟨rfl, rfl, nI_pos' (by omega), ?_, ?_⟩
      · show Rep p nA (nC + 1) n (up2 (up2 (up2 J (m + 1) (236 + 2 * nC) r) (m + 1) (236 + 2 * nC + 1) w) (m + 1) 2 (nI (nC + 1)) (m + 1)) (G (m + 2)) (G (m + 3)) (up2 (up2 (up2 I (p + 13 + nC) 0 r) (p + 13 + nC) 1 w) p 5 (nI (nC + 1))) F
        have eN : ∀ q, q ≠ 2 → q ≠ 236 + 2 * nC → q ≠ 236 + 2 * nC + 1 → up2 (up2 (up2 J (m + 1) (236 + 2 * nC) r) (m + 1) (236 + 2 * nC + 1) w) (m + 1) 2 (nI (nC + 1)) (m + 1) q = J (m + 1) q := fun q h1 h2 h3 => (up2_nj h1).trans ((up2_nj h3).trans (up2_nj h2))
        have eI : ∀ q, q ≠ p → q ≠ p + 13 + nC → up2 (up2 (up2 I (p + 13 + nC) 0 r) (p + 13 + nC) 1 w) p 5 (nI (nC + 1)) q = I q := fun q h1 h2 => (up2_row h1).trans ((up2_row h2).trans (up2_row h2))
        have eP : ∀ q, q ≠ 5 → up2 (up2 (up2 I (p + 13 + nC) 0 r) (p + 13 + nC) 1 w) p 5 (nI (nC + 1)) p q = I p q := fun q h1 => (up2_nj h1).trans ((up2_ni (by omega)).trans (up2_ni (by omega)))
        have tg : ∀ a, tagsC (up2 (up2 (up2 I (p + 13 + nC) 0 r) (p + 13 + nC) 1 w) p 5 (nI (nC + 1))) p n a = tagsC I p n a := fun a => tags_eq (fun t ht => by rw [eI _ (by omega) (by omega)]; exact ⟨rfl, Or.inl rfl⟩)
        refine ⟨⟨(eP 4 (by decide)).trans a1, (eN 1 (by omega) (by omega) (by omega)).trans a2, a3, up2_s, up2_s, by omega, (eP 6 (by decide)).trans a7, (eN 3 (by omega) (by omega) (by omega)).trans a8, a9, hh, b1, (eP 7 (by decide)).trans b2, (eN 0 (by omega) (by omega) (by omega)).trans b3⟩, fun k hk => ?_, fun a ha => ?_, fun c hc => ?_, fun t ht => ?_, fun a ha g hg => ?_, fun a ha => ?_⟩
        · rw [eI _ (by omega) (by omega), eN _ (by omega) (by omega) (by omega)]
          exact hR k hk
        · exact RepA_fr (hA a ha) (eI _ (by omega) (by omega)) rfl (fun j _ => eN _ (by omega) (by omega) (by omega)) rfl rfl (tg _)
        · by_cases hcc : c = nC
          · subst hcc
            exact ⟨((up2_ni (by omega)).trans ((up2_nj (by decide)).trans up2_s)).trans ((up2_nj (by omega)).trans ((up2_nj (by omega)).trans up2_s)).symm, ((up2_ni (by omega)).trans up2_s).trans ((up2_nj (by omega)).trans up2_s).symm⟩
          · rw [eI _ (by omega) (by omega), eN _ (by omega) (by omega) (by omega), eN _ (by omega) (by omega) (by omega)]
            exact hC c (by omega)
        · exact RepT_fr (hT t ht) (fun j _ => by rw [eI _ (by omega) (by omega)]) (fun j _ => eN _ (by omega) (by omega) (by omega)) (Nat.le_refl _) (by omega) (fun a g ha _ _ _ h5 _ => ⟨by rw [tg]; exact h5, by
            have := cnt_le (P := fun t => decide (I (p + 18 + t) 0 = nI a) && decide (1 ≤ I (p + 18 + t) 7 ∧ I (p + 18 + t) 7 ≤ 3)) n
            unfold tagsC at h5
            exact eN _ (by omega) (by omega) (by omega)⟩)
        · rw [tg] at hg
          obtain ⟨t, d1, d2, d3, d4⟩ := hK a ha g hg
          exact ⟨t, d1, by rw [eI _ (by omega) (by omega)]; exact d2, (hng_eq (by rw [eI _ (by omega) (by omega)])).mpr d3, by rw [eI _ (by omega) (by omega)]; exact d4⟩
        · rw [eI _ (by omega) (by omega)]
          exact hB a ha
      · exact Slp_eq hS ((up2_nj (by omega)).trans ((up2_nj (by omega)).trans (up2_nj (by omega)))) (fun t ht => Or.inl ⟨ht, (up2_nj (by omega)).trans ((up2_nj (by omega)).trans (up2_nj (by omega)))⟩)
    · rw [if_neg h5, if_pos (show nI nC = 5 by rw [show nC = 5 by omega]; rfl)]
      exact Or.inr ⟨by decide, rfl⟩
  · rw [if_neg hc, if_neg hc]
    exact Or.inr ⟨by decide, rfl⟩
