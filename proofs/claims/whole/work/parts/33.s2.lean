/-! what an act changes, and what stays -/
theorem RepT_fr {p nA nA' nC nC' n n' t : Nat} {N N' : Nat → Int32} {I I' : pI} (h : RepT p nA nC n N I t) (hI : ∀ j, j < 12 → I' (p + 18 + t) j = I (p + 18 + t) j) (hN : ∀ j, j < 10 → N' (251 + 10 * t + j) = N (251 + 10 * t + j)) (hA : nA ≤ nA') (hC : nC ≤ nC')
    (hs : ∀ a g, a < nA → N (251 + 10 * t + 0) = nI a → hng I p t → I (p + 18 + t) 11 = nI g → g < tagsC I p n (nI a) → N (44 + 24 * a + g) = nI t → g < tagsC I' p n' (nI a) ∧ N' (44 + 24 * a + g) = N (44 + 24 * a + g)) : RepT p nA' nC' n' N' I' t := by
  obtain ⟨c1, c2, c3, c4, c5, c6, a, ha, c7, c8⟩ := h
  have e := fun j hj => hN j hj
  unfold RepT mEnd
  rw [hI 6 (by decide), e 3 (by decide), e 4 (by decide), e 5 (by decide), e 6 (by decide), e 8 (by decide), e 0 (by decide)]
  refine ⟨fun j hj => by rw [hI j (by omega), e j (by omega)]; exact c1 j hj, c2, fun j hj hj2 => ?_, c4, c5, c6, a, by omega, c7, fun hx => ?_⟩
  · rw [hI j (by omega), show 251 + 10 * t + j - 1 = 251 + 10 * t + (j - 1) by omega, e (j - 1) (by omega), show 251 + 10 * t + (j - 1) = 251 + 10 * t + j - 1 by omega]
    exact c3 j hj hj2
  · have hx2 := (hng_eq (hI 7 (by decide))).mp hx
    obtain ⟨⟨c, d1, d2⟩, g, d3, d4, d5⟩ := c8 hx2
    obtain ⟨f1, f2⟩ := hs a g ha c7 hx2 d4 d3 d5
    exact ⟨⟨c, by omega, (e 7 (by decide)).trans d2⟩, g, f1, (hI 11 (by decide)).trans d4, f2.trans d5⟩
theorem Rep_asset {p nA nC n : Nat} {N N' : Nat → Int32} {H H' O O' : Nat → UInt32} {I I' : pI} {F F' : pF} (h : Rep p nA nC n N H O I F) (hI : ∀ i, (i < p + 5 ∨ p + 13 ≤ i) → I' i = I i) (hN : ∀ j, (j < 4 ∨ 44 ≤ j) → N' j = N j) (hA : ∀ a, a < nA → RepA p n N' H' O' I' F' a) (hB : RepB p I') : Rep p nA nC n N' H' O' I' F' := by
  obtain ⟨⟨a1, a2, a3, a4, a5, a6, a7, a8, a9, hh, b1, b2, b3⟩, hR, hA0, hC, hT, hK, hB0⟩ := h
  have tg : ∀ a, tagsC I' p n a = tagsC I p n a := fun a => tags_eq (fun t ht => by rw [hI _ (by omega)]; exact ⟨rfl, Or.inl rfl⟩)
  have ep := hI p (by omega)
  refine ⟨⟨(congrFun ep 4).trans a1, (hN 1 (by omega)).trans a2, a3, (congrFun ep 5).trans a4, (hN 2 (by omega)).trans a5, a6, (congrFun ep 6).trans a7, (hN 3 (by omega)).trans a8, a9, hh, b1, (congrFun ep 7).trans b2, (hN 0 (by omega)).trans b3⟩, fun k hk => ?_, hA, fun c hc => ?_, fun t ht => ?_, fun a ha g hg => ?_, hB⟩
  · rw [hI _ (by omega), hN _ (by omega)]
    exact hR k hk
  · rw [hI _ (by omega), hN _ (by omega), hN _ (by omega)]
    exact hC c hc
  · exact RepT_fr (hT t ht) (fun j _ => by rw [hI _ (by omega)]) (fun j _ => hN _ (by omega)) (Nat.le_refl _) (Nat.le_refl _) (fun a g ha _ _ _ h5 _ => ⟨by rw [tg]; exact h5, hN _ (by omega)⟩)
  · rw [tg] at hg
    obtain ⟨t, d1, d2, d3, d4⟩ := hK a ha g hg
    exact ⟨t, d1, by rw [hI _ (by omega)]; exact d2, (hng_eq (by rw [hI _ (by omega)])).mpr d3, by rw [hI _ (by omega)]; exact d4⟩
theorem RepA_fr {p n a : Nat} {N N' : Nat → Int32} {H H' O O' : Nat → UInt32} {I I' : pI} {F F' : pF} (h : RepA p n N H O I F a) (hI : I' (p + 5 + a) = I (p + 5 + a)) (hF : F' (p + 5 + a) = F (p + 5 + a)) (hN : ∀ j, j < 5 → N' (4 + 5 * a + j) = N (4 + 5 * a + j)) (hH : H' a = H a) (hO : O' a = O a) (ht : tagsC I' p n (nI a) = tagsC I p n (nI a)) : RepA p n N' H' O' I' F' a := by
  unfold RepA mWear
  rw [hI, hF, hN 0 (by decide), hN 1 (by decide), hN 2 (by decide), hN 3 (by decide), hN 4 (by decide), hH, hO, ht]
  exact h
theorem Rep_task {p nA nC n t0 : Nat} {N N' : Nat → Int32} {H O : Nat → UInt32} {I I' : pI} {F : pF} (h : Rep p nA nC n N H O I F) (h0 : t0 < n) (hI : ∀ i, i ≠ p + 18 + t0 → I' i = I i) (hI0 : I' (p + 18 + t0) 0 = I (p + 18 + t0) 0) (hI1 : I' (p + 18 + t0) 11 = I (p + 18 + t0) 11) (hg : hng I' p t0 ↔ hng I p t0) (hN : ∀ j, (j < 251 + 10 * t0 ∨ 251 + 10 * t0 + 10 ≤ j) → N' j = N j) (hT0 : RepT p nA nC n N' I' t0) : Rep p nA nC n N' H O I' F := by
  obtain ⟨⟨a1, a2, a3, a4, a5, a6, a7, a8, a9, hh, b1, b2, b3⟩, hR, hA0, hC, hT, hK, hB0⟩ := h
  have tg : ∀ a, tagsC I' p n a = tagsC I p n a := fun a => tags_eq (fun t ht => by
    by_cases hc : t = t0
    · subst hc
      refine ⟨hI0, ?_⟩
      by_cases hx : hng I p t
      · exact Or.inr (Or.inl ⟨hg.mpr hx, hx⟩)
      · exact Or.inr (Or.inr ⟨fun z => hx (hg.mp z), hx⟩)
    · rw [hI _ (by omega)]
      exact ⟨rfl, Or.inl rfl⟩)
  have ep := hI p (by omega)
  refine ⟨⟨(congrFun ep 4).trans a1, (hN 1 (by omega)).trans a2, a3, (congrFun ep 5).trans a4, (hN 2 (by omega)).trans a5, a6, (congrFun ep 6).trans a7, (hN 3 (by omega)).trans a8, a9, hh, b1, (congrFun ep 7).trans b2, (hN 0 (by omega)).trans b3⟩, fun k hk => ?_, fun a ha => ?_, fun c hc => ?_, fun t ht => ?_, fun a ha g hg' => ?_, fun a ha => ?_⟩
  · rw [hI _ (by omega), hN _ (by omega)]
    exact hR k hk
  · exact RepA_fr (hA0 a ha) (hI _ (by omega)) rfl (fun j _ => hN _ (by omega)) rfl rfl (tg _)
  · rw [hI _ (by omega), hN _ (by omega), hN _ (by omega)]
    exact hC c hc
  · by_cases hc : t = t0
    · subst hc
      exact hT0
    · exact RepT_fr (hT t ht) (fun j _ => by rw [hI _ (by omega)]) (fun j _ => hN _ (by omega)) (Nat.le_refl _) (Nat.le_refl _) (fun a g ha _ _ _ h5 _ => ⟨by rw [tg]; exact h5, hN _ (by have := cnt_le (P := fun t => decide (I (p + 18 + t) 0 = nI a) && decide (1 ≤ I (p + 18 + t) 7 ∧ I (p + 18 + t) 7 ≤ 3)) n; unfold tagsC at h5; omega)⟩)
  · rw [tg] at hg'
    obtain ⟨t, d1, d2, d3, d4⟩ := hK a ha g hg'
    by_cases hc : t = t0
    · subst hc
      exact ⟨t, d1, hI0.trans d2, hg.mpr d3, hI1.trans d4⟩
    · exact ⟨t, d1, by rw [hI _ (by omega)]; exact d2, (hng_eq (by rw [hI _ (by omega)])).mpr d3, by rw [hI _ (by omega)]; exact d4⟩
  · rw [hI _ (by omega)]
    exact hB0 a ha
/-- how often a task slipped: not more than hours have passed -/
def Slp (n : Nat) (N : Nat → Int32) : Prop := ∃ hh, hh ≤ 2000 ∧ N 0 = nI hh ∧ ∀ t, t < n → ∃ s, s ≤ hh ∧ N (251 + 10 * t + 9) = nI s
theorem Slp_eq {n n' : Nat} {N N' : Nat → Int32} (h : Slp n N) (h0 : N' 0 = N 0) (ht : ∀ t, t < n' → (t < n ∧ N' (251 + 10 * t + 9) = N (251 + 10 * t + 9)) ∨ N' (251 + 10 * t + 9) = 0) : Slp n' N' := by
  obtain ⟨hh, h1, h2, h3⟩ := h
  refine ⟨hh, h1, h0.trans h2, fun t h4 => ?_⟩
  rcases ht t h4 with ⟨h5, h6⟩ | h6
  · obtain ⟨s, h7, h8⟩ := h3 t h5
    exact ⟨s, h7, h6.trans h8⟩
  · exact ⟨0, Nat.zero_le _, h6⟩
def Rp (p nA nC n : Nat) (N : Nat → Int32) (H O : Nat → UInt32) (I : pI) (F : pF) : Prop := Rep p nA nC n N H O I F ∧ Slp n N
/-- an act of the class and one of the model -/
def Sim (p m nA nC n : Nat) (E : Int32) (C M : Int32 × pI × pF) (I : pI) (F : pF) : Prop :=
  (E = 0 ∧ C.1 = M.1 ∧ 0 ≤ C.1 ∧ Rp p nA nC n (M.2.1 (m + 1)) (M.2.2 (m + 2)) (M.2.2 (m + 3)) C.2.1 C.2.2) ∨ (E < 0 ∧ C = (E, I, F))
theorem cnt_b {P : Nat → Bool} {n : Nat} : 0 ≤ nI (cntT P n) ∨ 2 ^ 31 ≤ n := by
  rcases Nat.lt_or_ge n (2 ^ 31) with h | h
  · exact Or.inl (nI_pos' (Nat.lt_of_le_of_lt (cnt_le n) h))
  · exact Or.inr h
theorem runs_eq {p nA nC n : Nat} {N : Nat → Int32} {H O : Nat → UInt32} {I : pI} {F : pF} (h : Rep p nA nC n N H O I F) : nI (runsC I p nA) = mRunC N nA := by
  have h8 : nA ≤ 8 := h.1.2.2.1
  obtain ⟨-, -, hA, -, -, -, hB⟩ := h
  have key : ∀ k, k ≤ nA → (∀ a, a < k → I (p + 5 + a) 4 = 0 ∨ I (p + 5 + a) 4 = 1) → nI (cntT (fun a => decide (¬ I (p + 5 + a) 4 = 0)) k) = sumT (fun a => N (4 + 5 * a + 2)) k := by
    intro k
    induction k with
    | zero => intro _ _; rfl
    | succ k ih =>
      intro hk hb
      have e := (hA k (by omega)).2.2.2.2.1
      rcases hb k (by omega) with h1 | h1
      · rw [cnt_f (by simp [h1]), sumT, ← ih (by omega) (fun a ha => hb a (by omega)), ← e, h1]
        exact (Int32.add_zero _).symm
      · rw [cnt_t (by simp [h1]), sumT, ← ih (by omega) (fun a ha => hb a (by omega)), ← e, h1]
        exact nI_succ _
  unfold runsC mRunC
  exact key nA (Nat.le_refl _) (fun a ha => hB a (by omega))
theorem runs_ge {p nA : Nat} {I : pI} (h : nA ≤ 8) : 0 ≤ nI (runsC I p nA) := nI_pos' (Nat.lt_of_le_of_lt (cnt_le nA) (by omega))
theorem Rep_runs {p nA nC n i m : Nat} {v : Int32} {J : pI} {H O : Nat → UInt32} {I : pI} {F : pF} (h : Rep p nA nC n (J (m + 1)) H O I F) (hi : i < nA) (hv : v = 0 ∨ v = 1) : Rep p nA nC n (up2 J (m + 1) (4 + 5 * i + 2) v (m + 1)) H O (up2 I (p + 5 + i) 4 v) F := by
  have h8 : nA ≤ 8 := h.1.2.2.1
  refine Rep_asset h (fun j hj => up2_row (by omega)) (fun j hj => up2_nj (by omega)) (fun a ha => ?_) (fun a ha => ?_)
  · have tg : tagsC (up2 I (p + 5 + i) 4 v) p n (nI a) = tagsC I p n (nI a) := tags_eq (fun t ht => by rw [up2_row (by omega)]; exact ⟨rfl, Or.inl rfl⟩)
    by_cases hc : a = i
    · subst hc
      obtain ⟨c1, c2, c3, c4, c5, c6, c7, c8⟩ := h.2.2.1 a ha
      have n0 : ∀ j, j ≠ 2 → up2 J (m + 1) (4 + 5 * a + 2) v (m + 1) (4 + 5 * a + j) = J (m + 1) (4 + 5 * a + j) := fun j hj => up2_nj (by omega)
      unfold RepA mWear
      rw [tg, n0 0 (by decide), n0 1 (by decide), n0 3 (by decide), n0 4 (by decide), up2_nj (show 0 ≠ 4 by decide), up2_nj (show 5 ≠ 4 by decide), up2_s, up2_s]
      exact ⟨c1, c2, c3, c4, rfl, c6, c7, c8⟩
    · exact RepA_fr (h.2.2.1 a ha) (up2_row (by omega)) rfl (fun j hj => up2_nj (by omega)) rfl rfl tg
  · by_cases hc : a = i
    · subst hc
      rw [up2_s]
      exact hv
    · rw [up2_ni (by omega)]
      exact h.2.2.2.2.2.2 a ha
theorem ne0_1 {v : Int32} (h : v = 0 ∨ v = 1) (h1 : ¬ v = 0) : v = 1 := by
  rcases h with h | h
  · exact absurd h h1
  · exact h
theorem start_sim {p m nA nC n : Nat} {a : Int32} {J : pI} {G : pF} {I : pI} {F : pF} (hp : Rp p nA nC n (J (m + 1)) (G (m + 2)) (G (m + 3)) I F) : Sim p m nA nC n (mRunE (J (m + 1)) a) (startR I F p nA n a) (mGoesR J G m nA a 1) I F := by
  have h := hp.1
  have h8 : nA ≤ 8 := h.1.2.2.1
  have e1 := h.1.1
  have e2 := h.1.2.1
  unfold startR mRunE
  rw [e1, e2]
  by_cases hc : 0 ≤ a ∧ a < nI nA
  · obtain ⟨i, hi, rfl⟩ := has_nat (decide_eq_true hc) rfl (by omega)
    have cl : (nI i).toNatClampNeg = i := nI_clamp (by omega)
    obtain ⟨-, -, -, -, c5, -, -, c8⟩ := h.2.2.1 i hi
    rw [if_pos hc, if_pos hc, cl, c8, c5]
    by_cases ht : nI (tagsC I p n (nI i)) ≤ 0
    · rw [if_pos ht, if_pos ht]
      have hb := h.2.2.2.2.2.2 i (by omega)
      rw [c5] at hb
      rcases hb with hb | hb
      · rw [hb, if_pos rfl, if_neg (by decide)]
        have hr := Rep_runs h hi (Or.inr rfl)
        refine Or.inl ⟨rfl, ?_, runs_ge h8, ?_⟩
        · show nI (runsC (up2 I (p + 5 + i) 4 1) p nA) = mRunC (up2 J (m + 1) (4 + 5 * (nI i).toNatClampNeg + 2) 1 (m + 1)) nA
          rw [cl]
          exact runs_eq hr
        · show Rp p nA nC n (up2 J (m + 1) (4 + 5 * (nI i).toNatClampNeg + 2) 1 (m + 1)) _ _ _ _
          rw [cl]
          exact ⟨hr, Slp_eq hp.2 (up2_nj (by omega)) (fun t ht => Or.inl ⟨ht, up2_nj (by omega)⟩)⟩
      · rw [hb, if_pos rfl, if_neg (by decide)]
        exact Or.inr ⟨by decide, rfl⟩
    · rw [if_neg ht, if_neg ht]
      exact Or.inr ⟨by decide, rfl⟩
  · rw [if_neg hc, if_neg hc]
    exact Or.inr ⟨by decide, rfl⟩
theorem stop_sim {p m nA nC n : Nat} {a : Int32} {J : pI} {G : pF} {I : pI} {F : pF} (hp : Rp p nA nC n (J (m + 1)) (G (m + 2)) (G (m + 3)) I F) : Sim p m nA nC n (mStopE (J (m + 1)) a) (stopR I F p nA a) (mGoesR J G m nA a 0) I F := by
  have h := hp.1
  have h8 : nA ≤ 8 := h.1.2.2.1
  have e1 := h.1.1
  have e2 := h.1.2.1
  unfold stopR mStopE
  rw [e1, e2]
  by_cases hc : 0 ≤ a ∧ a < nI nA
  · obtain ⟨i, hi, rfl⟩ := has_nat (decide_eq_true hc) rfl (by omega)
    have cl : (nI i).toNatClampNeg = i := nI_clamp (by omega)
    obtain ⟨-, -, -, -, c5, -, -, c8⟩ := h.2.2.1 i hi
    rw [if_pos hc, if_pos hc, cl, c5]
    by_cases hb : J (m + 1) (4 + 5 * i + 2) = 0
    · rw [if_pos hb, if_pos hb]
      exact Or.inr ⟨by decide, rfl⟩
    · rw [if_neg hb, if_neg hb]
      have hr := Rep_runs h hi (Or.inl rfl)
      refine Or.inl ⟨rfl, ?_, runs_ge h8, ?_⟩
      · show nI (runsC (up2 I (p + 5 + i) 4 0) p nA) = mRunC (up2 J (m + 1) (4 + 5 * (nI i).toNatClampNeg + 2) 0 (m + 1)) nA
        rw [cl]
        exact runs_eq hr
      · show Rp p nA nC n (up2 J (m + 1) (4 + 5 * (nI i).toNatClampNeg + 2) 0 (m + 1)) _ _ _ _
        rw [cl]
        exact ⟨hr, Slp_eq hp.2 (up2_nj (by omega)) (fun t ht => Or.inl ⟨ht, up2_nj (by omega)⟩)⟩
  · rw [if_neg hc, if_neg hc]
    exact Or.inr ⟨by decide, rfl⟩
