/-! HOURS -/
section HO
variable {p q r x n nA nC h b t0 : Nat} {I I' : pI} {F F' : pF} {S S' T T' : Nat → Int32}
theorem FA_run (hF : ∀ a, a < nA → FA p a I F) : ∀ k, k ≤ nA → ∀ a, a < nA → FA p a I (runAF I p k F)
  | 0, _, a, ha => hF a ha
  | k + 1, hk, a, ha => by
    have ih := FA_run hF k (by omega)
    by_cases c : I (p + 5 + k) 4 = 0
    · rw [runAF_f c]
      exact ih a ha
    · rw [runAF_t c]
      by_cases e : a = k
      · subst e
        obtain ⟨⟨r, hr, er⟩, f1, f2, f3⟩ := ih a ha
        refine ⟨⟨r, hr, er⟩, ?_, ?_, ?_⟩
        · rw [runOne_fr (by omega)]; exact f1
        · unfold runOne
          rw [up2_s]
          exact worn_ok f1 f2
        · unfold runOne
          rw [up2_nj (by decide), up2_s, er]
          exact out_ok f3 (prod_ok (rat_ok hr).1 (rat_ok hr).2 f2)
      · obtain ⟨fr, f1, f2, f3⟩ := ih a ha
        refine ⟨fr, ?_, ?_, ?_⟩
        · rw [runOne_fr (by omega)]; exact f1
        · rw [runOne_fr (by omega)]; exact f2
        · rw [runOne_fr (by omega)]; exact f3
theorem FA_mend {k : Nat} (hF : ∀ a, a < nA → FA p a I F) : ∀ a, a < nA → FA p a I (mendF F (p + 5 + k)) := fun a ha => by
  obtain ⟨fr, f1, f2, f3⟩ := hF a ha
  unfold mendF
  refine ⟨fr, ?_, ?_, ?_⟩
  · rw [up2_n (by omega)]; exact f1
  · by_cases e : a = k
    · subst e
      rw [up2_s]
      exact mend_ok f2
    · rw [up2_n (by omega)]; exact f2
  · rw [up2_n (by omega)]; exact f3
/-- what an hour leaves of a task -/
def pcT (p : Nat) (I I' : pI) (t : Nat) : Prop := I' (p + 18 + t) 0 = I (p + 18 + t) 0 ∧ I' (p + 18 + t) 2 = I (p + 18 + t) 2 ∧ I' (p + 18 + t) 8 = I (p + 18 + t) 8 ∧ I' (p + 18 + t) 11 = I (p + 18 + t) 11 ∧ hgB I' p t = hgB I p t
theorem pcT_tr {I'' : pI} {t : Nat} (h1 : pcT p I I' t) (h2 : pcT p I' I'' t) : pcT p I I'' t := ⟨h2.1.trans h1.1, h2.2.1.trans h1.2.1, h2.2.2.1.trans h1.2.2.1, h2.2.2.2.1.trans h1.2.2.2.1, h2.2.2.2.2.trans h1.2.2.2.2⟩
theorem Tk_wait {x' b' : Nat} (h : Tk x b nA nC S T) (hb : b ≤ b') (h2 : ¬ T 7 = 2) : Tk x' b' nA nC S T := by
  obtain ⟨a, s, q, k, hh, fr, sl, st, ⟨y1, y2, y3, y4, y5, y6, y7, y8⟩, ⟨z0, z1, z2, z3, z4, z5, z6, z7, z10⟩, w1, w2, w3, w4, w5⟩ := h
  exact ⟨a, s, q, k, hh, fr, sl, st, ⟨y1, y2, y3, y4, y5, y6, by omega, y8⟩, ⟨z0, z1, z2, z3, z4, z5, z6, z7, z10⟩, w1, fun e => by subst e; exact absurd z7 h2, w3, w4, w5⟩
/-- one task's work in an hour -/
theorem wk_one {W : pI × pF × Nat} {k : Nat} (hT : Tk h b nA nC S (W.1 (p + 18 + k))) (hA8 : nA ≤ 8) (hF : ∀ a, a < nA → FA p a I W.2.1) : Tk (h + 1) b nA nC S ((wk1 p k W).1 (p + 18 + k)) ∧ pcT p W.1 (wk1 p k W).1 k ∧ (∀ a, a < nA → FA p a I (wk1 p k W).2.1) ∧ (wk1 p k W).2.2 ≤ W.2.2 + 1 := by
  by_cases c2 : W.1 (p + 18 + k) 7 = 2
  · obtain ⟨a, s, q, kk, hh, fr, sl, st, ⟨y1, y2, y3, y4, y5, y6, y7, y8⟩, ⟨z0, z1, z2, z3, z4, z5, z6, z7, z10⟩, w1, w2, w3, w4, w5⟩ := hT
    have es : st = 2 := (nI_eq (by omega) (by decide)).mp (z7.symm.trans c2)
    subst es
    obtain ⟨l, ⟨l1, l48⟩, l2, l3, l4⟩ := w2 rfl
    have e9 : W.1 (p + 18 + k) 9 - 1 = nI (l - 1) := by rw [l2]; exact pk_m1s l1
    obtain ⟨J, G, cc⟩ := W
    by_cases hl : l = 1
    · have h0 : ¬ 0 < J (p + 18 + k) 9 - 1 := by
        rw [show J (p + 18 + k) 9 - 1 = nI (l - 1) from e9, hl]
        decide
      rw [wk1_b c2 h0 z0 (by omega)]
      have e7 : (up2 (up2 J (p + 18 + k) 9 (J (p + 18 + k) 9 - 1)) (p + 18 + k) 7 3) (p + 18 + k) 7 = nI 3 := up2_s
      have hj : ∀ j, j ≠ 7 → j ≠ 9 → (up2 (up2 J (p + 18 + k) 9 (J (p + 18 + k) 9 - 1)) (p + 18 + k) 7 3) (p + 18 + k) j = J (p + 18 + k) j := fun j j1 j2 => (up2_nj j1).trans (up2_nj j2)
      refine ⟨⟨a, s, q, kk, hh, fr, sl, 3, ⟨y1, y2, y3, y4, y5, y6, y7, by decide⟩, ⟨(hj 0 (by decide) (by decide)).trans z0, (hj 1 (by decide) (by decide)).trans z1, (hj 2 (by decide) (by decide)).trans z2, (hj 3 (by decide) (by decide)).trans z3, (hj 4 (by decide) (by decide)).trans z4, (hj 5 (by decide) (by decide)).trans z5, (hj 6 (by decide) (by decide)).trans z6, e7, (hj 10 (by decide) (by decide)).trans z10⟩, fun z => by omega, fun z => by omega, fun _ _ => ?_, fun z => by omega, fun _ _ => ?_⟩, ⟨hj 0 (by decide) (by decide), hj 2 (by decide) (by decide), hj 8 (by decide) (by decide), hj 11 (by decide) (by decide), ?_⟩, FA_mend hF, Nat.le_refl _⟩
      · obtain ⟨c, d1, d2, d3⟩ := w3 (by decide) (by decide)
        exact ⟨c, d1, (hj 8 (by decide) (by decide)).trans d2, by rw [show (up2 (up2 J (p + 18 + k) 9 (J (p + 18 + k) 9 - 1)) (p + 18 + k) 7 3, mendF G (p + 5 + a), cc + 1).1 (p + 18 + k) 1 = J (p + 18 + k) 1 from hj 1 (by decide) (by decide)]; exact d3⟩
      · obtain ⟨t, d1, d2⟩ := w5 (by decide) (by decide)
        exact ⟨t, d1, (hj 11 (by decide) (by decide)).trans d2⟩
      · rw [hg_of e7 (by decide), hg_of z7 (by decide)]
        rfl
    · have h0 : 0 < J (p + 18 + k) 9 - 1 := by
        rw [show J (p + 18 + k) 9 - 1 = nI (l - 1) from e9]
        exact nI_lt (a := 0) (by omega) (by omega)
      rw [wk1_a c2 h0]
      have e9' : (up2 J (p + 18 + k) 9 (J (p + 18 + k) 9 - 1)) (p + 18 + k) 9 = nI (l - 1) := up2_s.trans e9
      have hj : ∀ j, j ≠ 9 → (up2 J (p + 18 + k) 9 (J (p + 18 + k) 9 - 1)) (p + 18 + k) j = J (p + 18 + k) j := fun j j1 => up2_nj j1
      refine ⟨⟨a, s, q, kk, hh, fr, sl, 2, ⟨y1, y2, y3, y4, y5, y6, y7, by decide⟩, ⟨(hj 0 (by decide)).trans z0, (hj 1 (by decide)).trans z1, (hj 2 (by decide)).trans z2, (hj 3 (by decide)).trans z3, (hj 4 (by decide)).trans z4, (hj 5 (by decide)).trans z5, (hj 6 (by decide)).trans z6, (hj 7 (by decide)).trans z7, (hj 10 (by decide)).trans z10⟩, fun z => by omega, fun _ => ⟨l - 1, by omega, e9', by omega, by omega⟩, fun _ _ => ?_, fun z => by omega, fun _ _ => ?_⟩, ⟨hj 0 (by decide), hj 2 (by decide), hj 8 (by decide), hj 11 (by decide), ?_⟩, hF, Nat.le_succ _⟩
      · obtain ⟨c, d1, d2, d3⟩ := w3 (by decide) (by decide)
        exact ⟨c, d1, (hj 8 (by decide)).trans d2, by rw [show (up2 J (p + 18 + k) 9 (J (p + 18 + k) 9 - 1), G, cc).1 (p + 18 + k) 1 = J (p + 18 + k) 1 from hj 1 (by decide)]; exact d3⟩
      · obtain ⟨t, d1, d2⟩ := w5 (by decide) (by decide)
        exact ⟨t, d1, (hj 11 (by decide)).trans d2⟩
      · rw [hg_of ((hj 7 (by decide)).trans z7) (by decide), hg_of z7 (by decide)]
  · rw [wk1_n c2]
    exact ⟨Tk_wait hT (Nat.le_refl _) c2, ⟨rfl, rfl, rfl, rfl, rfl⟩, hF, Nat.le_succ _⟩
theorem wk_all (g : G2 p I h b nA nC n) (hA8 : nA ≤ 8) (hF : ∀ a, a < nA → FA p a I F) : ∀ k, k ≤ n → (∀ t, t < n → Tk (if t < k then h + 1 else h) b nA nC (fun c => I (p + 13 + c) 1) ((wkN p k I F).1 (p + 18 + t)) ∧ pcT p I (wkN p k I F).1 t) ∧ (∀ a, a < nA → FA p a I (wkN p k I F).2.1) ∧ (wkN p k I F).2.2 ≤ k
  | 0, _ => ⟨fun t ht => ⟨g t ht, ⟨rfl, rfl, rfl, rfl, rfl⟩⟩, hF, Nat.le_refl _⟩
  | k + 1, hk => by
    obtain ⟨i1, i2, i3⟩ := wk_all g hA8 hF k (by omega)
    have hk1 := i1 k (by omega)
    rw [if_neg (Nat.lt_irrefl k)] at hk1
    obtain ⟨o1, o2, o3, o4⟩ := wk_one hk1.1 hA8 i2
    refine ⟨fun t ht => ?_, o3, ?_⟩
    · by_cases e : t = k
      · subst e
        rw [if_pos (by omega)]
        exact ⟨o1, pcT_tr hk1.2 o2⟩
      · have hrow : (wkN p (k + 1) I F).1 (p + 18 + t) = (wkN p k I F).1 (p + 18 + t) := by
          funext j
          exact wk1_fr (by omega)
        obtain ⟨j1, j2⟩ := i1 t ht
        have e2 : (if t < k + 1 then h + 1 else h) = (if t < k then h + 1 else h) := by
          by_cases e3 : t < k
          · rw [if_pos e3, if_pos (by omega)]
          · rw [if_neg e3, if_neg (by omega)]
        rw [e2, hrow]
        refine ⟨j1, ?_⟩
        unfold pcT hgB
        rw [hrow]
        exact j2
    · show (wk1 p k (wkN p k I F)).2.2 ≤ k + 1
      omega
/-- one task's slip -/
theorem sl_one {J : pI} {k : Nat} (hT : Tk x b nA nC S (J (p + 18 + k))) (hx : b ≤ 2000) : Tk x (b + 1) nA nC S ((sl1 p k J) (p + 18 + k)) ∧ pcT p J (sl1 p k J) k ∧ (J (p + 18 + k) 10).toNatClampNeg ≤ (sl1 p k J (p + 18 + k) 10).toNatClampNeg := by
  have hT0 := hT
  obtain ⟨a, s, q, kk, hh, fr, sl, st, ⟨y1, y2, y3, y4, y5, y6, y7, y8⟩, ⟨z0, z1, z2, z3, z4, z5, z6, z7, z10⟩, w1, w2, w3, w4, w5⟩ := hT
  unfold sl1
  by_cases c : (0 ≤ J (p + 18 + k) 7 ∧ J (p + 18 + k) 7 ≤ 1) ∧ J (p + 18 + k) 6 < J p 7 + J (p + 18 + k) 4
  · rw [if_pos c]
    have hst : st ≤ 1 := by
      have := c.1.2
      rw [z7] at this
      exact (nI_leI (b := 1) (by omega) (by decide)).mp this
    unfold slipI
    by_cases c2 : J (p + 18 + k) 7 = 0 ∧ 3 ≤ J (p + 18 + k) 10
    · rw [if_pos c2]
      have es : st = 0 := (nI_eq (by omega) (by decide)).mp (z7.symm.trans c2.1)
      subst es
      have h3 : 3 ≤ sl := by
        have := c2.2
        rw [z10] at this
        exact (nI_leI (a := 3) (by decide) (by omega)).mp this
      have e7 : up2 J (p + 18 + k) 7 5 (p + 18 + k) 7 = nI 5 := up2_s
      have hj : ∀ j, j ≠ 7 → up2 J (p + 18 + k) 7 5 (p + 18 + k) j = J (p + 18 + k) j := fun j j1 => up2_nj j1
      refine ⟨⟨a, s, q, kk, hh, fr, sl, 5, ⟨y1, y2, y3, y4, y5, y6, by omega, by decide⟩, ⟨(hj 0 (by decide)).trans z0, (hj 1 (by decide)).trans z1, (hj 2 (by decide)).trans z2, (hj 3 (by decide)).trans z3, (hj 4 (by decide)).trans z4, (hj 5 (by decide)).trans z5, (hj 6 (by decide)).trans z6, e7, (hj 10 (by decide)).trans z10⟩, fun _ => h3, fun z => by omega, fun _ z => by omega, fun _ => (hj 8 (by decide)).trans (w4 (Or.inl rfl)), fun _ z => by omega⟩, ⟨hj 0 (by decide), hj 2 (by decide), hj 8 (by decide), hj 11 (by decide), ?_⟩, by rw [hj 10 (by decide)]; exact Nat.le_refl _⟩
      rw [hg_of e7 (by decide), hg_of z7 (by decide)]
      rfl
    · rw [if_neg c2]
      have e10 : up2 (up2 (up2 J (p + 18 + k) 5 (J (p + 18 + k) 5 + 24)) (p + 18 + k) 6 (J (p + 18 + k) 6 + 24)) (p + 18 + k) 10 (J (p + 18 + k) 10 + 1) (p + 18 + k) 10 = nI (sl + 1) := by
        rw [up2_s, z10]; exact nI_add sl 1
      have e6 : up2 (up2 (up2 J (p + 18 + k) 5 (J (p + 18 + k) 5 + 24)) (p + 18 + k) 6 (J (p + 18 + k) 6 + 24)) (p + 18 + k) 10 (J (p + 18 + k) 10 + 1) (p + 18 + k) 6 = nI (fr + 24 + 2 * hh + 6) := by
        rw [up2_nj (by decide), up2_s, z6]
        show nI _ + nI 24 = _
        rw [nI_add]
        congr 1
        omega
      have e5 : up2 (up2 (up2 J (p + 18 + k) 5 (J (p + 18 + k) 5 + 24)) (p + 18 + k) 6 (J (p + 18 + k) 6 + 24)) (p + 18 + k) 10 (J (p + 18 + k) 10 + 1) (p + 18 + k) 5 = nI (fr + 24) := by
        rw [up2_nj (by decide), up2_nj (by decide), up2_s, z5]; exact nI_add fr 24
      have hj : ∀ j, j ≠ 5 → j ≠ 6 → j ≠ 10 → up2 (up2 (up2 J (p + 18 + k) 5 (J (p + 18 + k) 5 + 24)) (p + 18 + k) 6 (J (p + 18 + k) 6 + 24)) (p + 18 + k) 10 (J (p + 18 + k) 10 + 1) (p + 18 + k) j = J (p + 18 + k) j := fun j j1 j2 j3 => (up2_nj j3).trans ((up2_nj j2).trans (up2_nj j1))
      generalize up2 (up2 (up2 J (p + 18 + k) 5 (J (p + 18 + k) 5 + 24)) (p + 18 + k) 6 (J (p + 18 + k) 6 + 24)) (p + 18 + k) 10 (J (p + 18 + k) 10 + 1) = K at e10 e6 e5 hj ⊢
      have g : ∀ j, (j = 0 ∨ j = 1 ∨ j = 2 ∨ j = 3 ∨ j = 4 ∨ j = 7 ∨ j = 8 ∨ j = 9 ∨ j = 11) → K (p + 18 + k) j = J (p + 18 + k) j := fun j h => hj j (by omega) (by omega) (by omega)
      refine ⟨⟨a, s, q, kk, hh, fr + 24, sl + 1, st, ⟨y1, y2, y3, y4, y5, by omega, by omega, y8⟩, ⟨(g 0 (by decide)).trans z0, (g 1 (by decide)).trans z1, (g 2 (by decide)).trans z2, (g 3 (by decide)).trans z3, (g 4 (by decide)).trans z4, e5, e6, (g 7 (by decide)).trans z7, e10⟩, fun z => by omega, fun z => by omega, fun i1 i2 => ?_, fun z => (g 8 (by decide)).trans (w4 z), fun i1 i2 => ?_⟩, ⟨g 0 (by decide), g 2 (by decide), g 8 (by decide), g 11 (by decide), ?_⟩, ?_⟩
      · obtain ⟨c, d1, d2, d3⟩ := w3 i1 i2
        exact ⟨c, d1, (g 8 (by decide)).trans d2, by rw [g 1 (by decide)]; exact d3⟩
      · obtain ⟨t, d1, d2⟩ := w5 i1 i2
        exact ⟨t, d1, (g 11 (by decide)).trans d2⟩
      · unfold hgB
        rw [g 7 (by decide)]
      · rw [e10, z10, nI_clamp (by omega), nI_clamp (by omega)]
        omega
  · rw [if_neg c]
    obtain ⟨a, s, q, kk, hh, fr, sl, st, ⟨y1, y2, y3, y4, y5, y6, y7, y8⟩, zz⟩ := hT0
    exact ⟨⟨a, s, q, kk, hh, fr, sl, st, ⟨y1, y2, y3, y4, y5, y6, by omega, y8⟩, zz⟩, ⟨rfl, rfl, rfl, rfl, rfl⟩, Nat.le_refl _⟩
theorem sl_all (hb : b ≤ 2000) (g : ∀ t, t < n → Tk x b nA nC S (I (p + 18 + t))) : ∀ k, k ≤ n → ∀ t, t < n → Tk x (if t < k then b + 1 else b) nA nC S ((slN p k I) (p + 18 + t)) ∧ pcT p I (slN p k I) t ∧ (I (p + 18 + t) 10).toNatClampNeg ≤ (slN p k I (p + 18 + t) 10).toNatClampNeg
  | 0, _ => fun t ht => ⟨g t ht, ⟨rfl, rfl, rfl, rfl, rfl⟩, Nat.le_refl _⟩
  | k + 1, hk => by
    have i1 := sl_all hb g k (by omega)
    have hk1 := i1 k (by omega)
    rw [if_neg (Nat.lt_irrefl k)] at hk1
    obtain ⟨o1, o2, o3⟩ := sl_one hk1.1 hb
    intro t ht
    by_cases e : t = k
    · subst e
      rw [if_pos (by omega)]
      exact ⟨o1, pcT_tr hk1.2.1 o2, Nat.le_trans hk1.2.2 o3⟩
    · have hrow : slN p (k + 1) I (p + 18 + t) = slN p k I (p + 18 + t) := by
        funext j
        exact sl1_fr (by omega)
      obtain ⟨j1, j2, j3⟩ := i1 t ht
      have e2 : (if t < k + 1 then b + 1 else b) = (if t < k then b + 1 else b) := by
        by_cases e3 : t < k
        · rw [if_pos e3, if_pos (by omega)]
        · rw [if_neg e3, if_neg (by omega)]
      rw [e2, hrow]
      refine ⟨j1, ?_, j3⟩
      unfold pcT hgB
      rw [hrow]
      exact j2
/-- one hour keeps a plant good -/
theorem Gd_hour {W : pI × pF × Nat} (g : Gd p W.1 W.2.1 nA nC n h) (hh : h + 1 ≤ 2000) : Gd p (hrS p nA n W).1 (hrS p nA n W).2.1 nA nC n (h + 1) ∧ slS W.1 p n ≤ slS (hrS p nA n W).1 p n ∧ (hrS p nA n W).2.2 ≤ W.2.2 + n := by
  obtain ⟨⟨a1, a2, a3, a4, a5, a6, a7, a8⟩, g2, g3, g4, g5, g6, g7⟩ := g
  obtain ⟨J, G, cc⟩ := W
  obtain ⟨w1, w2, w3⟩ := wk_all g2 a2 (FA_run g4 nA (Nat.le_refl _)) n (Nat.le_refl _)
  have e1 : (hrS p nA n (J, G, cc)).1 = slN p n (up2 (wkN p n J (runAF J p nA G)).1 p 7 ((wkN p n J (runAF J p nA G)).1 p 7 + 1)) := rfl
  have e2 : (hrS p nA n (J, G, cc)).2.1 = (wkN p n J (runAF J p nA G)).2.1 := rfl
  have e3 : (hrS p nA n (J, G, cc)).2.2 = cc + (wkN p n J (runAF J p nA G)).2.2 := rfl
  have hfr : ∀ i j, (i < p + 18 ∨ p + 18 + n ≤ i) → (wkN p n J (runAF J p nA G)).1 i j = J i j := fun i j hi => wkN_fr n (by omega)
  have h10 : ∀ t, (wkN p n J (runAF J p nA G)).1 (p + 18 + t) 10 = J (p + 18 + t) 10 := fun t => wkN_fr n (by omega)
  rw [e1, e2, e3]
  generalize wkN p n J (runAF J p nA G) = K at w1 w2 w3 hfr h10 ⊢
  have hrow : ∀ t, t < n → (up2 K.1 p 7 (K.1 p 7 + 1)) (p + 18 + t) = K.1 (p + 18 + t) := fun t ht => up2_row (by omega)
  have s1 := sl_all (p := p) (n := n) (x := h + 1) (b := h) (nA := nA) (nC := nC) (S := fun c => J (p + 13 + c) 1) (I := up2 K.1 p 7 (K.1 p 7 + 1)) a8 (fun t ht => by
    rw [hrow t ht]
    have := (w1 t ht).1
    rw [if_pos ht] at this
    exact this) n (Nat.le_refl _)
  have hsf : ∀ i j, (i < p + 18 ∨ p + 18 + n ≤ i) → ¬ (i = p ∧ j = 7) → slN p n (up2 K.1 p 7 (K.1 p 7 + 1)) i j = J i j := fun i j hi hj => by
    rw [slN_fr n (by omega), up2_n hj, hfr i j hi]
  have h7 : slN p n (up2 K.1 p 7 (K.1 p 7 + 1)) p 7 = nI (h + 1) := by
    rw [slN_fr n (by omega), up2_s, hfr p 7 (by omega), show J p 7 = nI h from a7]
    exact nI_add h 1
  have hpc : ∀ t, t < n → pcT p J (slN p n (up2 K.1 p 7 (K.1 p 7 + 1))) t := fun t ht => by
    refine pcT_tr (I' := up2 K.1 p 7 (K.1 p 7 + 1)) ?_ (s1 t ht).2.1
    have := (w1 t ht).2
    unfold pcT hgB at this ⊢
    rw [hrow t ht]
    exact this
  have hsl : slS J p n ≤ slS (slN p n (up2 K.1 p 7 (K.1 p 7 + 1))) p n := sumN_le fun t ht => by
    have := (s1 t ht).2.2
    rw [hrow t ht, h10] at this
    exact this
  have hTk : ∀ t, t < n → Tk (h + 1) (h + 1) nA nC (fun c => J (p + 13 + c) 1) (slN p n (up2 K.1 p 7 (K.1 p 7 + 1)) (p + 18 + t)) := fun t ht => by
    have := (s1 t ht).1
    rw [if_pos ht] at this
    exact this
  generalize slN p n (up2 K.1 p 7 (K.1 p 7 + 1)) = L at hsf h7 hpc hsl hTk ⊢
  have et : ∀ a, tagsC L p n a = tagsC J p n a := fun a => tags_eq fun t ht => ⟨(hpc t ht).1, (hpc t ht).2.2.2.2⟩
  have eb : ∀ c, busyN L p n c = busyN J p n c := fun c => busy_eq fun t ht => ⟨(hpc t ht).2.1, (hpc t ht).2.2.2.2, fun _ => (hpc t ht).2.2.1⟩
  refine ⟨⟨⟨?_, a2, ?_, a4, ?_, a6, h7, hh⟩, fun t ht => ?_, fun a ha => ?_, fun a ha => ?_, fun a ha hf => ?_, fun a v ha hv => ?_, fun c hc => ?_⟩, hsl, ?_⟩
  · exact (hsf _ _ (by omega) (by omega)).trans a1
  · exact (hsf _ _ (by omega) (by omega)).trans a3
  · exact (hsf _ _ (by omega) (by omega)).trans a5
  · exact Tk_cg (fun _ _ => rfl) (fun c hc => hsf _ _ (by omega) (by omega)) (hTk t ht)
  · rw [hsf _ _ (by omega) (by omega)]; exact g3 a ha
  · obtain ⟨⟨z, hz, ez⟩, f⟩ := w2 a ha
    exact ⟨⟨z, hz, (hsf _ _ (by omega) (by omega)).trans ez⟩, f⟩
  · rw [hsf _ _ (by omega) (by omega)] at hf
    rw [et]
    exact g5 a ha hf
  · rw [et] at hv
    obtain ⟨t, z0, z1, z2, z3⟩ := g6 a v ha hv
    exact ⟨t, z0, (hpc t z0).2.2.2.2.trans z1, (hpc t z0).1.trans z2, (hpc t z0).2.2.2.1.trans z3⟩
  · obtain ⟨m, z1, z2, z3⟩ := g7 c hc
    exact ⟨m, z1, (hsf _ _ (by omega) (by omega)).trans z2, by rw [eb]; exact z3⟩
  · show cc + K.2.2 ≤ cc + n
    omega
theorem Gd_hours (g : Gd p I F nA nC n h) : ∀ k, h + k ≤ 2000 → Gd p (psN p nA n k I F).1 (psN p nA n k I F).2.1 nA nC n (h + k) ∧ slS I p n ≤ slS (psN p nA n k I F).1 p n ∧ (psN p nA n k I F).2.2 ≤ k * n
  | 0, _ => ⟨g, Nat.le_refl _, by rw [Nat.zero_mul]; exact Nat.le_refl _⟩
  | k + 1, hk => by
    obtain ⟨i1, i2, i3⟩ := Gd_hours g k (by omega)
    obtain ⟨o1, o2, o3⟩ := Gd_hour i1 (by omega)
    refine ⟨o1, Nat.le_trans i2 o2, ?_⟩
    show (hrS p nA n (psN p nA n k I F)).2.2 ≤ _
    rw [Nat.succ_mul]
    omega
theorem ok_pass (g : Gd p I F nA nC n h) {y : Int32} : okR p nA nC n I F (passR I F p nA n y) := by
  unfold passR
  by_cases c1 : 1 ≤ y ∧ y ≤ 48
  · rw [if_pos c1]
    obtain ⟨k, k1, k2, rfl⟩ := win_nat (x := y) (lo := 1) (hi := 48) (decide_eq_true c1) (by decide) (by decide)
    have h7 := g.1.2.2.2.2.2.2.1
    have h8 := g.1.2.2.2.2.2.2.2
    have hn4 := g.1.2.2.2.2.2.1
    rw [nI_clamp (by omega), h7, nI_add]
    by_cases c2 : nI (h + k) ≤ 2000
    · rw [if_pos c2]
      have hk : h + k ≤ 2000 := (nI_leI (b := 2000) (by omega) (by decide)).mp c2
      obtain ⟨i1, i2, i3⟩ := Gd_hours g k hk
      have i4 : k * n ≤ 48 * 24 := Nat.mul_le_mul k2 hn4
      exact ok_yes (nI_pos (by omega)) i1 i2
    · rw [if_neg c2]; exact ok_no (by decide)
  · rw [if_neg c1]; exact ok_no (by decide)
end HO
