/-! EACH ACT KEEPS A PLANT GOOD, or changes nothing and answers less than 0 -/
def okR (p nA nC n : Nat) (I : pI) (F : pF) (X : Int32 × pI × pF) : Prop :=
  (X.1 < 0 ∧ X.2.1 = I ∧ X.2.2 = F) ∨ (¬ X.1 < 0 ∧ ∃ nA' nC' n' h', Gd p X.2.1 X.2.2 nA' nC' n' h' ∧ slS I p n ≤ slS X.2.1 p n')
section AC
variable {p q r x n nA nC h b t0 : Nat} {I I' : pI} {F F' : pF} {S S' T T' : Nat → Int32}
theorem ok_no {v : Int32} (hv : v < 0) : okR p nA nC n I F (v, I, F) := Or.inl ⟨hv, rfl, rfl⟩
theorem ok_yes {nA' nC' n' h' : Nat} {v : Int32} (hv : ¬ v < 0) (hG : Gd p I' F' nA' nC' n' h') (hs : slS I p n ≤ slS I' p n') : okR p nA nC n I F (v, I', F') := Or.inr ⟨hv, nA', nC', n', h', hG, hs⟩
theorem hg_row {t : Nat} (e : I' (p + 18 + t) = I (p + 18 + t)) : hgB I' p t = hgB I p t := by
  unfold hgB
  rw [e]
theorem tags_row {a : Int32} (h : ∀ t, t < n → I' (p + 18 + t) = I (p + 18 + t)) : tagsC I' p n a = tagsC I p n a := tags_eq fun t ht => ⟨by rw [h t ht], hg_row (h t ht)⟩
theorem busy_row {c : Nat} (h : ∀ t, t < n → I' (p + 18 + t) = I (p + 18 + t)) : busyN I' p n c = busyN I p n c := busy_eq fun t ht => ⟨by rw [h t ht], hg_row (h t ht), fun _ => by rw [h t ht]⟩
theorem slS_row (h : ∀ t, t < n → I' (p + 18 + t) 10 = I (p + 18 + t) 10) : slS I' p n = slS I p n := sumN_c fun t ht => by rw [h t ht]
theorem tags_new (h : G2 p I x b nA nC n) {a : Nat} (ha : nA ≤ a) (ha2 : a < 100) (hA : nA ≤ 8) : tagsC I p n (nI a) = 0 := cnt_zero fun t ht => by
  obtain ⟨z, hz, e⟩ := G2_W h t ht
  have : ¬ I (p + 18 + t) 0 = nI a := by
    rw [e, nI_eq (by omega) (by omega)]
    omega
  simp [this]
theorem busy_new (h : G2 p I x b nA nC n) {c : Nat} (hc : nC ≤ c) (hc2 : c < 100) (hC : nC ≤ 5) : busyN I p n c = 0 := by
  have : ∀ t, t < n → (fun t => if bzB I p c t = true then (I (p + 18 + t) 2).toNatClampNeg else 0) t = (fun _ => 0) t := fun t ht => by
    obtain ⟨a, s, q, k, hh, fr, sl, st, z1, z2, z3, z4, z5, z6, z7⟩ := h t ht
    have e : bzB I p c t = false := by
      unfold bzB
      rw [hg_of z2.2.2.2.2.2.2.2.1 z1.2.2.2.2.2.2.2]
      by_cases e : 1 ≤ st ∧ st ≤ 3
      · obtain ⟨d, hd, ed, -⟩ := z5 e.1 (by omega)
        have : ¬ I (p + 18 + t) 8 = nI c := by
          rw [ed, nI_eq (by omega) (by omega)]
          omega
        simp [this]
      · simp [e]
    dsimp only
    rw [e, if_neg (by decide)]
  unfold busyN
  rw [sumN_c this]
  have := sumN_b (f := fun _ => 0) (m := 0) (n := n) (fun t ht => Nat.le_refl _)
  omega
theorem Gd_rows {nA' nC' : Nat} (g : Gd p I F nA nC n h) (g1 : G1 p I' nA' nC' n h) (hA : nA ≤ nA') (hC : nC ≤ nC') (hT : ∀ t, t < n → I' (p + 18 + t) = I (p + 18 + t)) (hS : ∀ c, c < nC → I' (p + 13 + c) = I (p + 13 + c)) (hR : RepB p I') (hF : ∀ a, a < nA' → FA p a I' F') (h5 : ∀ a, a < nA' → ¬ I' (p + 5 + a) 4 = 0 → tagsC I p n (nI a) = 0) (h7 : ∀ c, nC ≤ c → c < nC' → ∃ m, m ≤ 6 ∧ I' (p + 13 + c) 0 = nI m) : Gd p I' F' nA' nC' n h := by
  obtain ⟨⟨a1, a2, a3, a4, a5, a6, a7, a8⟩, g2, g3, g4, g5, g6, g7⟩ := g
  have b2 := g1.2.1
  have b4 := g1.2.2.2.1
  refine ⟨g1, fun t ht => ?_, hR, hF, fun a ha hr => ?_, fun a v ha hv => ?_, fun c hc => ?_⟩
  · exact Tk_mono hA hC (Tk_cg (fun j hj => by rw [hT t ht]) (fun c hc => by rw [hS c hc]) (g2 t ht))
  · rw [tags_row hT]
    exact h5 a ha hr
  · rw [tags_row hT] at hv
    by_cases e : a < nA
    · obtain ⟨t, ht, z1, z2, z3⟩ := g6 a v e hv
      exact ⟨t, ht, by rw [hg_row (hT t ht)]; exact z1, by rw [hT t ht]; exact z2, by rw [hT t ht]; exact z3⟩
    · rw [tags_new g2 (by omega) (by omega) a2] at hv
      omega
  · rw [busy_row hT]
    by_cases e : c < nC
    · obtain ⟨m, z1, z2, z3⟩ := g7 c e
      exact ⟨m, z1, by rw [hS c e]; exact z2, z3⟩
    · obtain ⟨m, z1, z2⟩ := h7 c (by omega) hc
      exact ⟨m, z1, z2, by rw [busy_new g2 (by omega) (by omega) a4]; omega⟩
theorem ok_newAsset (g : Gd p I F nA nC n h) {r w : Int32} : okR p nA nC n I F (newAssetR I F p nA r w) := by
  unfold newAssetR
  by_cases c1 : (1 ≤ r ∧ r ≤ 100) ∧ (1 ≤ w ∧ w ≤ 200)
  · rw [if_pos c1]
    by_cases c2 : nA < 8
    · rw [if_pos c2]
      obtain ⟨r0, -, hr, rfl⟩ := win_nat (x := r) (lo := 1) (hi := 100) (decide_eq_true c1.1) (by decide) (by decide)
      obtain ⟨w0, -, hw, rfl⟩ := win_nat (x := w) (lo := 1) (hi := 200) (decide_eq_true c1.2) (by decide) (by decide)
      refine ok_yes (nA' := nA + 1) (nC' := nC) (n' := n) (h' := h) (nI_pos (by omega)) ?_ ?_
      · have g1 := g.1
        obtain ⟨a1, a2, a3, a4, a5, a6, a7, a8⟩ := g1
        refine Gd_rows (nA := nA) g ⟨up2_s, by omega, ?_, a4, ?_, a6, ?_, a8⟩ (by omega) (Nat.le_refl _) (fun t ht => ?_) (fun c hc => ?_) (fun a ha => ?_) (fun a ha => ?_) (fun a ha hf => ?_) (fun c z1 z2 => by omega)
        · rw [up2_n (by omega), up2_n (by omega), up2_n (by omega), up2_n (by omega)]; exact a3
        · rw [up2_n (by omega), up2_n (by omega), up2_n (by omega), up2_n (by omega)]; exact a5
        · rw [up2_n (by omega), up2_n (by omega), up2_n (by omega), up2_n (by omega)]; exact a7
        · rw [up2_row (by omega), up2_row (by omega), up2_row (by omega), up2_row (by omega)]
        · rw [up2_row (by omega), up2_row (by omega), up2_row (by omega), up2_row (by omega)]
        · by_cases e : a = nA
          · subst e
            rw [up2_n (by omega), up2_n (by omega), up2_s]
            exact Or.inl rfl
          · rw [up2_n (by omega), up2_n (by omega), up2_n (by omega), up2_n (by omega)]
            exact g.2.2.1 a ha
        · by_cases e : a = nA
          · subst e
            refine ⟨⟨r0, hr, ?_⟩, ?_, ?_, ?_⟩
            · rw [up2_n (by omega), up2_n (by omega), up2_n (by omega), up2_s]
            · rw [up2_n (by omega), up2_n (by omega), up2_s]; exact wea_ok hw
            · rw [up2_n (by omega), up2_s]; exact H_1
            · rw [up2_s]; exact O_0
          · obtain ⟨⟨z, hz, ez⟩, f1, f2, f3⟩ := g.2.2.2.1 a (by omega)
            refine ⟨⟨z, hz, ?_⟩, ?_, ?_, ?_⟩
            · rw [up2_n (by omega), up2_n (by omega), up2_n (by omega), up2_n (by omega)]; exact ez
            · rw [up2_n (by omega), up2_n (by omega), up2_n (by omega)]; exact f1
            · rw [up2_n (by omega), up2_n (by omega), up2_n (by omega)]; exact f2
            · rw [up2_n (by omega), up2_n (by omega), up2_n (by omega)]; exact f3
        · by_cases e : a = nA
          · subst e
            rw [up2_n (by omega), up2_n (by omega), up2_s] at hf
            exact absurd rfl hf
          · rw [up2_n (by omega), up2_n (by omega), up2_n (by omega), up2_n (by omega)] at hf
            exact g.2.2.2.2.1 a (by omega) hf
      · exact Nat.le_of_eq (slS_row fun t ht => by rw [up2_n (by omega), up2_n (by omega), up2_n (by omega), up2_n (by omega)]).symm
    · rw [if_neg c2]; exact ok_no (by decide)
  · rw [if_neg c1]; exact ok_no (by decide)
theorem ok_newCrew (g : Gd p I F nA nC n h) {r w : Int32} : okR p nA nC n I F (newCrewR I F p nC r w) := by
  unfold newCrewR
  by_cases c1 : (1 ≤ r ∧ r ≤ 6) ∧ (0 ≤ w ∧ w ≤ 15)
  · rw [if_pos c1]
    by_cases c2 : nC < 5
    · rw [if_pos c2]
      obtain ⟨r0, -, hr, rfl⟩ := win_nat (x := r) (lo := 1) (hi := 6) (decide_eq_true c1.1) (by decide) (by decide)
      refine ok_yes (nA' := nA) (nC' := nC + 1) (n' := n) (h' := h) (nI_pos (by omega)) ?_ ?_
      · have g1 := g.1
        obtain ⟨a1, a2, a3, a4, a5, a6, a7, a8⟩ := g1
        refine Gd_rows (nC := nC) g ⟨?_, a2, up2_s, by omega, ?_, a6, ?_, a8⟩ (Nat.le_refl _) (by omega) (fun t ht => ?_) (fun c hc => ?_) (fun a ha => ?_) (fun a ha => ?_) (fun a ha hf => ?_) (fun c z1 z2 => ?_)
        · rw [up2_n (by omega), up2_n (by omega), up2_n (by omega)]; exact a1
        · rw [up2_n (by omega), up2_n (by omega), up2_n (by omega)]; exact a5
        · rw [up2_n (by omega), up2_n (by omega), up2_n (by omega)]; exact a7
        · rw [up2_row (by omega), up2_row (by omega), up2_row (by omega)]
        · rw [up2_row (by omega), up2_row (by omega), up2_row (by omega)]
        · rw [up2_n (by omega), up2_n (by omega), up2_n (by omega)]
          exact g.2.2.1 a ha
        · obtain ⟨⟨z, hz, ez⟩, f⟩ := g.2.2.2.1 a ha
          exact ⟨⟨z, hz, by rw [up2_n (by omega), up2_n (by omega), up2_n (by omega)]; exact ez⟩, f⟩
        · rw [up2_n (by omega), up2_n (by omega), up2_n (by omega)] at hf
          exact g.2.2.2.2.1 a ha hf
        · have e : c = nC := by omega
          subst e
          exact ⟨r0, hr, by rw [up2_n (by omega), up2_n (by omega), up2_s]⟩
      · exact Nat.le_of_eq (slS_row fun t ht => by rw [up2_n (by omega), up2_n (by omega), up2_n (by omega)]).symm
    · rw [if_neg c2]; exact ok_no (by decide)
  · rw [if_neg c1]; exact ok_no (by decide)
/-- only what no check looks at: links, bars -/
theorem ok_far {v : Int32} (g : Gd p I F nA nC n h) (hv : ¬ v < 0) (hf : ∀ i j, I' i j ≠ I i j → i = p + 4 ∨ (p + 5 ≤ i ∧ i < p + 13 ∧ j = 5)) : okR p nA nC n I F (v, I', F) := by
  have e : ∀ i j, ¬ (i = p + 4 ∨ (p + 5 ≤ i ∧ i < p + 13 ∧ j = 5)) → I' i j = I i j := fun i j hn => by
    by_cases c : I' i j = I i j
    · exact c
    · exact absurd (hf i j c) hn
  obtain ⟨a1, a2, a3, a4, a5, a6, a7, a8⟩ := g.1
  refine ok_yes (nA' := nA) (nC' := nC) (n' := n) (h' := h) hv ?_ (Nat.le_of_eq (slS_row fun t ht => e _ _ (by omega)).symm)
  refine Gd_rows g ⟨(e _ _ (by omega)).trans a1, a2, (e _ _ (by omega)).trans a3, a4, (e _ _ (by omega)).trans a5, a6, (e _ _ (by omega)).trans a7, a8⟩ (Nat.le_refl _) (Nat.le_refl _) (fun t ht => ?_) (fun c hc => ?_) (fun a ha => ?_) (fun a ha => ?_) (fun a ha hz => ?_) (fun c z1 z2 => by omega)
  · funext j; exact e _ _ (by omega)
  · funext j; exact e _ _ (by omega)
  · rw [e _ _ (by omega)]; exact g.2.2.1 a ha
  · obtain ⟨⟨z, hz, ez⟩, f⟩ := g.2.2.2.1 a ha
    exact ⟨⟨z, hz, (e _ _ (by omega)).trans ez⟩, f⟩
  · rw [e _ _ (by omega)] at hz
    exact g.2.2.2.2.1 a ha hz
theorem bitC_pos (y : Int32) : ¬ bitC y < 0 := by
  obtain ⟨j, hj, e⟩ := pk_andE (bc5 (bc4 (bc3 (bc2 (bc1 y))))) (m := 63) 6 (by decide)
  unfold bitC
  rw [e]
  exact nI_pos (by omega)
theorem ok_link (g : Gd p I F nA nC n h) {a o z : Int32} : okR p nA nC n I F (setLinkR I F p a o z) := by
  unfold setLinkR
  by_cases c1 : (0 ≤ a ∧ a < I p 4) ∧ (0 ≤ o ∧ o < I p 4)
  · have ha := tn_lt' c1.1 g.1.1 g.1.2.1 (by decide)
    have ho := tn_lt' c1.2 g.1.1 g.1.2.1 (by decide)
    rw [if_pos c1]
    by_cases c2 : a = o
    · rw [if_pos c2]; exact ok_no (by decide)
    · rw [if_neg c2]
      by_cases c3 : bI (linkB I p a.toNatClampNeg o) = z
      · rw [if_pos c3]; exact ok_no (by decide)
      · rw [if_neg c3]
        refine ok_far g (bitC_pos _) (fun i j hne => ?_)
        apply Classical.byContradiction
        intro hc
        exact hne (by rw [up2_n (by omega), up2_n (by omega)])
  · rw [if_neg c1]; exact ok_no (by decide)
theorem ok_bar (g : Gd p I F nA nC n h) {a o z : Int32} : okR p nA nC n I F (setBarR I F p a o z) := by
  unfold setBarR
  by_cases c1 : (0 ≤ a ∧ a ≤ 4) ∧ (0 ≤ o ∧ o ≤ 4)
  · rw [if_pos c1]
    by_cases c2 : bI (barB I p a.toNatClampNeg o) = z
    · rw [if_pos c2]; exact ok_no (by decide)
    · rw [if_neg c2]
      refine ok_far g (bitC_pos _) (fun i j hne => ?_)
      apply Classical.byContradiction
      intro hc
      apply hne
      unfold barI2 barI1
      split
      · rw [up2_n (by omega)]
      · rw [up2_n (by omega), up2_n (by omega)]
  · rw [if_neg c1]; exact ok_no (by decide)
/-- an asset's flag alone -/
theorem ok_flag {v z : Int32} {a : Nat} (g : Gd p I F nA nC n h) (hv : ¬ v < 0) (ha : a < nA) (hz : z = 0 ∨ z = 1) (h5 : ¬ z = 0 → tagsC I p n (nI a) = 0) : okR p nA nC n I F (v, up2 I (p + 5 + a) 4 z, F) := by
  obtain ⟨a1, a2, a3, a4, a5, a6, a7, a8⟩ := g.1
  refine ok_yes (nA' := nA) (nC' := nC) (n' := n) (h' := h) hv ?_ (Nat.le_of_eq (slS_row fun t ht => by rw [up2_n (by omega)]).symm)
  refine Gd_rows g ⟨(up2_n (by omega)).trans a1, a2, (up2_n (by omega)).trans a3, a4, (up2_n (by omega)).trans a5, a6, (up2_n (by omega)).trans a7, a8⟩ (Nat.le_refl _) (Nat.le_refl _) (fun t ht => up2_row (by omega)) (fun c hc => up2_row (by omega)) (fun i hi => ?_) (fun i hi => ?_) (fun i hi hf => ?_) (fun c z1 z2 => by omega)
  · by_cases e : i = a
    · subst e
      rw [up2_s]; exact hz
    · rw [up2_n (by omega)]; exact g.2.2.1 i hi
  · obtain ⟨⟨z, hz, ez⟩, f⟩ := g.2.2.2.1 i hi
    exact ⟨⟨z, hz, (up2_n (by omega)).trans ez⟩, f⟩
  · by_cases e : i = a
    · subst e
      rw [up2_s] at hf; exact h5 hf
    · rw [up2_n (by omega)] at hf; exact g.2.2.2.2.1 i hi hf
theorem cnt_31 {P : Nat → Bool} {m k : Nat} (h : m ≤ k) (hk : k < 2 ^ 31) : ¬ nI (cntT P m) < 0 := nI_pos (by have := cnt_le (P := P) m; omega)
theorem ok_start (g : Gd p I F nA nC n h) {a : Int32} : okR p nA nC n I F (startR I F p nA n a) := by
  unfold startR
  by_cases c1 : 0 ≤ a ∧ a < I p 4
  · obtain ⟨t, ht, rfl⟩ := has_nat (decide_eq_true c1) g.1.1 (by have := g.1.2.1; omega)
    have hc : (nI t).toNatClampNeg = t := nI_clamp (by have := g.1.2.1; omega)
    rw [if_pos c1, hc]
    by_cases c2 : nI (tagsC I p n (nI t)) ≤ 0
    · rw [if_pos c2]
      have h0 : tagsC I p n (nI t) = 0 := by
        have h1 := tags_le (I := I) (p := p) (n := n) (a := nI t)
        have h2 := g.1.2.2.2.2.2.1
        rcases Nat.eq_zero_or_pos (tagsC I p n (nI t)) with e | e
        · exact e
        · exact absurd c2 (nI_nle e (by omega))
      by_cases c3 : I (p + 5 + t) 4 = 0
      · rw [if_pos c3]
        exact ok_flag g (cnt_31 g.1.2.1 (by decide)) ht (Or.inr rfl) (fun _ => h0)
      · rw [if_neg c3]; exact ok_no (by decide)
    · rw [if_neg c2]; exact ok_no (by decide)
  · rw [if_neg c1]; exact ok_no (by decide)
theorem ok_stop (g : Gd p I F nA nC n h) {a : Int32} : okR p nA nC n I F (stopR I F p nA a) := by
  unfold stopR
  by_cases c1 : 0 ≤ a ∧ a < I p 4
  · obtain ⟨t, ht, rfl⟩ := has_nat (decide_eq_true c1) g.1.1 (by have := g.1.2.1; omega)
    have hc : (nI t).toNatClampNeg = t := nI_clamp (by have := g.1.2.1; omega)
    rw [if_pos c1, hc]
    by_cases c3 : I (p + 5 + t) 4 = 0
    · rw [if_pos c3]; exact ok_no (by decide)
    · rw [if_neg c3]
      exact ok_flag g (cnt_31 g.1.2.1 (by decide)) ht (Or.inl rfl) (fun e => absurd rfl e)
  · rw [if_neg c1]; exact ok_no (by decide)
end AC
