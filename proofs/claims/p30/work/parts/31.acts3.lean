/-! tags hung and lifted, hours -/
section AE
variable {p q r x n nA nC h b t0 : Nat} {I I' : pI} {F F' : pF} {S S' T T' : Nat → Int32}
theorem ok_hang (g : Gd p I F nA nC n h) {a c : Int32} : okR p nA nC n I F (hangR I F p n a c) := by
  unfold hangR
  by_cases c1 : (0 ≤ a ∧ a < I p 6) ∧ (0 ≤ c ∧ c < I p 5)
  · obtain ⟨t, ht, rfl⟩ := has_nat (decide_eq_true c1.1) g.1.2.2.2.2.1 (by have := g.1.2.2.2.2.2.1; omega)
    obtain ⟨d, hd, rfl⟩ := has_nat (decide_eq_true c1.2) g.1.2.2.1 (by have := g.1.2.2.2.1; omega)
    have hn4 := g.1.2.2.2.2.2.1
    have hA8 := g.1.2.1
    have hC5 := g.1.2.2.2.1
    have hc : (nI t).toNatClampNeg = t := nI_clamp (by omega)
    have hc2 : (nI d).toNatClampNeg = d := nI_clamp (by omega)
    obtain ⟨a, s, q, k, hh, fr, sl, st, ⟨y1, y2, y3, y4, y5, y6, y7, y8⟩, ⟨z0, z1, z2, z3, z4, z5, z6, z7, z10⟩, w1, w2, w3, w4, w5⟩ := g.2.1 t ht
    have hc3 : (nI a).toNatClampNeg = a := nI_clamp (by omega)
    rw [if_pos c1, hc, hc2, z0, hc3]
    by_cases c2 : I (p + 18 + t) 7 = 0 ∧ I (p + 5 + a) 4 = 0 ∧ serveB I p n d t = true
    · rw [if_pos c2]
      obtain ⟨v1, v2, v3⟩ := c2
      have es : st = 0 := (nI_eq (by omega) (by decide)).mp (z7.symm.trans v1)
      subst es
      obtain ⟨m, m1, m2, m3⟩ := g.2.2.2.2.2.2 d hd
      unfold serveB at v3
      rw [Bool.and_eq_true, decide_eq_true_eq, decide_eq_true_eq, busyC_N (G2_Q g.2.1), m2, z2, pk_sub (a := m) (b := busyN I p n d) m3, nI_leI (by omega) (by omega)] at v3
      obtain ⟨v3, v4⟩ := v3
      have hJ : hangI I p n t (nI d) = up2 (up2 (up2 I (p + 18 + t) 11 (nI (tagsC I p n (nI a)))) (p + 18 + t) 7 1) (p + 18 + t) 8 (nI d) := by
        unfold hangI
        rw [z0]
      rw [hJ]
      have hrow : ∀ i, i ≠ p + 18 + t → (up2 (up2 (up2 I (p + 18 + t) 11 (nI (tagsC I p n (nI a)))) (p + 18 + t) 7 1) (p + 18 + t) 8 (nI d)) i = I i := fun i hi => by
        rw [up2_row hi, up2_row hi, up2_row hi]
      have h8 : (up2 (up2 (up2 I (p + 18 + t) 11 (nI (tagsC I p n (nI a)))) (p + 18 + t) 7 1) (p + 18 + t) 8 (nI d)) (p + 18 + t) 8 = nI d := up2_s
      have h7 : (up2 (up2 (up2 I (p + 18 + t) 11 (nI (tagsC I p n (nI a)))) (p + 18 + t) 7 1) (p + 18 + t) 8 (nI d)) (p + 18 + t) 7 = nI 1 := (up2_nj (by decide)).trans up2_s
      have h11 : (up2 (up2 (up2 I (p + 18 + t) 11 (nI (tagsC I p n (nI a)))) (p + 18 + t) 7 1) (p + 18 + t) 8 (nI d)) (p + 18 + t) 11 = nI (tagsC I p n (nI a)) := (up2_nj (by decide)).trans ((up2_nj (by decide)).trans up2_s)
      have hj : ∀ j, j ≠ 8 → j ≠ 7 → j ≠ 11 → (up2 (up2 (up2 I (p + 18 + t) 11 (nI (tagsC I p n (nI a)))) (p + 18 + t) 7 1) (p + 18 + t) 8 (nI d)) (p + 18 + t) j = I (p + 18 + t) j := fun j j1 j2 j3 => (up2_nj j1).trans ((up2_nj j2).trans (up2_nj j3))
      generalize up2 (up2 (up2 I (p + 18 + t) 11 (nI (tagsC I p n (nI a)))) (p + 18 + t) 7 1) (p + 18 + t) 8 (nI d) = J at hrow h8 h7 h11 hj ⊢
      have b1 : hgB J p t = true := by rw [hg_of h7 (by decide)]; rfl
      have b0 : hgB I p t = false := by rw [hg_of z7 (by decide)]; rfl
      have hr : ∀ i, i < n → i ≠ t → I (p + 18 + i) = J (p + 18 + i) := fun i i1 i2 => (hrow _ (by omega)).symm
      have e0 := (hj 0 (by decide) (by decide) (by decide)).trans z0
      have e2 := (hj 2 (by decide) (by decide) (by decide)).trans z2
      have hT : ∀ i, i < 100 → tagsC J p n (nI i) = tagsC I p n (nI i) + (if i = a then 1 else 0) := fun i hi => tags_fl ht (fun i i1 i2 => hr i i1 i2) e0 hi (by omega) b1 b0
      have hB : ∀ i, i < 100 → busyN J p n i = busyN I p n i + (if i = d then q else 0) := fun i hi => busy_fl ht (fun i i1 i2 => hr i i1 i2) h8 e2 y3.2 hi (by omega) b1 b0
      have tl := tags_le (I := I) (p := p) (n := n) (a := nI a)
      have tlt : tagsC I p n (nI a) < 24 := by
        have q1 := hT a (by omega)
        rw [if_pos rfl] at q1
        have q2 := tags_le (I := J) (p := p) (n := n) (a := nI a)
        omega
      refine ok_yes (nA' := nA) (nC' := nC) (n' := n) (h' := h) ?_ (Gd_one g ht hrow ?_ (fun i hi hf => ?_) (fun i v hi hv => ?_) (fun i hi => ?_)) (Nat.le_of_eq (slS_row fun i hi => ?_).symm)
      · exact nI_pos (by omega)
      · refine ⟨a, s, q, k, hh, fr, sl, 1, ⟨y1, y2, y3, y4, y5, y6, y7, by decide⟩, ⟨e0, ?_, e2, ?_, ?_, ?_, ?_, h7, ?_⟩, fun z => by omega, fun z => by omega, fun _ _ => ⟨d, hd, h8, ?_⟩, fun z => by omega, fun _ _ => ⟨_, tlt, h11⟩⟩
        · rw [hj 1 (by decide) (by decide) (by decide)]; exact z1
        · rw [hj 3 (by decide) (by decide) (by decide)]; exact z3
        · rw [hj 4 (by decide) (by decide) (by decide)]; exact z4
        · rw [hj 5 (by decide) (by decide) (by decide)]; exact z5
        · rw [hj 6 (by decide) (by decide) (by decide)]; exact z6
        · rw [hj 10 (by decide) (by decide) (by decide)]; exact z10
        · rw [hj 1 (by decide) (by decide) (by decide)]; exact v3
      · rw [hrow _ (by omega)] at hf
        rw [hT i (by omega)]
        have hne : ¬ i = a := fun e => by rw [e] at hf; exact hf v2
        rw [if_neg hne]
        exact g.2.2.2.2.1 i hi hf
      · rw [hT i (by omega)] at hv
        by_cases e : v < tagsC I p n (nI i)
        · obtain ⟨j, j1, j2, j3, j4⟩ := g.2.2.2.2.2.1 i v hi e
          have hne : j ≠ t := fun e => by rw [e, b0] at j2; cases j2
          exact ⟨j, j1, by rw [hg_row (hrow _ (by omega))]; exact j2, by rw [hrow _ (by omega)]; exact j3, by rw [hrow _ (by omega)]; exact j4⟩
        · by_cases ei : i = a
          · subst ei
            rw [if_pos rfl] at hv
            have ev : v = tagsC I p n (nI i) := by omega
            exact ⟨t, ht, b1, e0, by rw [ev]; exact h11⟩
          · rw [if_neg ei] at hv
            omega
      · rw [hB i (by omega)]
        obtain ⟨m', k1, k2, k3⟩ := g.2.2.2.2.2.2 i hi
        refine ⟨m', k1, k2, ?_⟩
        by_cases e : i = d
        · subst e
          have : m' = m := (nI_eq (by omega) (by omega)).mp (k2.symm.trans m2)
          rw [if_pos rfl]
          omega
        · rw [if_neg e]
          omega
      · by_cases e : i = t
        · subst e
          exact hj 10 (by decide) (by decide) (by decide)
        · rw [hrow _ (by omega)]
    · rw [if_neg c2]; exact ok_no (by decide)
  · rw [if_neg c1]; exact ok_no (by decide)
theorem ok_lift (g : Gd p I F nA nC n h) {a c : Int32} : okR p nA nC n I F (liftR I F p n a c) := by
  unfold liftR
  by_cases c1 : (0 ≤ a ∧ a < I p 6) ∧ (0 ≤ c ∧ c < I p 5)
  · obtain ⟨t, ht, rfl⟩ := has_nat (decide_eq_true c1.1) g.1.2.2.2.2.1 (by have := g.1.2.2.2.2.2.1; omega)
    have hn4 := g.1.2.2.2.2.2.1
    have hA8 := g.1.2.1
    have hC5 := g.1.2.2.2.1
    have hc : (nI t).toNatClampNeg = t := nI_clamp (by omega)
    obtain ⟨a, s, q, k, hh, fr, sl, st, ⟨y1, y2, y3, y4, y5, y6, y7, y8⟩, ⟨z0, z1, z2, z3, z4, z5, z6, z7, z10⟩, w1, w2, w3, w4, w5⟩ := g.2.1 t ht
    rw [if_pos c1, hc, z0]
    by_cases c2 : (I (p + 18 + t) 7 = 1 ∨ I (p + 18 + t) 7 = 3) ∧ I (p + 18 + t) 8 = c ∧ tagC I p n (nI a) 0 = nI t
    · rw [if_pos c2]
      obtain ⟨v1, v2, v3⟩ := c2
      have es : st = 1 ∨ st = 3 := by
        rcases v1 with v1 | v1
        · exact Or.inl ((nI_eq (by omega) (by decide)).mp (z7.symm.trans v1))
        · exact Or.inr ((nI_eq (by omega) (by decide)).mp (z7.symm.trans v1))
      obtain ⟨d, hd, ed, es2⟩ := w3 (by omega) (by omega)
      have b1 : hgB I p t = true := by rw [hg_of z7 (by omega)]; exact decide_eq_true (by omega)
      obtain ⟨-, -, u3⟩ := fst_hit (P := topP I p (nI a) (nI (tagsC I p n (nI a)) - 1 - 0)) (m := n) (k := 0) (j := t) (by omega) (by omega) v3
      have hpos : 1 ≤ tagsC I p n (nI a) := cnt_pos (P := fun t => decide (I (p + 18 + t) 0 = nI a) && hgB I p t) ht (by simp [z0, b1])
      have u4 : I (p + 18 + t) 11 = nI (tagsC I p n (nI a) - 1) := by
        unfold topP at u3
        rw [Bool.and_eq_true, Bool.and_eq_true, decide_eq_true_eq, decide_eq_true_eq, decide_eq_true_eq, pk_m1s (by omega), Int32.sub_zero] at u3
        exact u3.2.2
      have tl := tags_le (I := I) (p := p) (n := n) (a := nI a)
      have hex : ∃ J, J = liftI I p t ∧ (∀ i, i ≠ p + 18 + t → J i = I i) ∧ hgB J p t = false ∧ J (p + 18 + t) 0 = nI a ∧ J (p + 18 + t) 10 = I (p + 18 + t) 10 ∧ Tk h h nA nC (fun c => I (p + 13 + c) 1) (J (p + 18 + t)) := by
        refine ⟨_, rfl, fun i hi => ?_, ?_⟩
        · unfold liftI
          split
          · exact up2_row hi
          · exact (up2_row hi).trans (up2_row hi)
        · unfold liftI
          by_cases c3 : I (p + 18 + t) 7 = 3
          · rw [if_pos c3]
            have e7 : up2 I (p + 18 + t) 7 4 (p + 18 + t) 7 = nI 4 := up2_s
            have hj : ∀ j, j ≠ 7 → up2 I (p + 18 + t) 7 4 (p + 18 + t) j = I (p + 18 + t) j := fun j j1 => up2_nj j1
            have es3 : st = 3 := (nI_eq (by omega) (by decide)).mp (z7.symm.trans c3)
            subst es3
            refine ⟨by rw [hg_of e7 (by decide)]; rfl, by rw [hj 0 (by decide)]; exact z0, hj 10 (by decide), a, s, q, k, hh, fr, sl, 4, ⟨y1, y2, y3, y4, y5, y6, y7, by decide⟩, ⟨?_, ?_, ?_, ?_, ?_, ?_, ?_, e7, ?_⟩, fun z => by omega, fun z => by omega, fun _ _ => ⟨d, hd, ?_, ?_⟩, fun z => by omega, fun _ z => by omega⟩
            · rw [hj 0 (by decide)]; exact z0
            · rw [hj 1 (by decide)]; exact z1
            · rw [hj 2 (by decide)]; exact z2
            · rw [hj 3 (by decide)]; exact z3
            · rw [hj 4 (by decide)]; exact z4
            · rw [hj 5 (by decide)]; exact z5
            · rw [hj 6 (by decide)]; exact z6
            · rw [hj 10 (by decide)]; exact z10
            · rw [hj 8 (by decide)]; exact ed
            · rw [hj 1 (by decide)]; exact es2
          · rw [if_neg c3]
            have e8 : up2 (up2 I (p + 18 + t) 7 0) (p + 18 + t) 8 (-5) (p + 18 + t) 8 = -5 := up2_s
            have e7 : up2 (up2 I (p + 18 + t) 7 0) (p + 18 + t) 8 (-5) (p + 18 + t) 7 = nI 0 := (up2_nj (by decide)).trans up2_s
            have hj : ∀ j, j ≠ 8 → j ≠ 7 → up2 (up2 I (p + 18 + t) 7 0) (p + 18 + t) 8 (-5) (p + 18 + t) j = I (p + 18 + t) j := fun j j1 j2 => (up2_nj j1).trans (up2_nj j2)
            have es3 : st = 1 := by
              rcases es with e | e
              · exact e
              · exact absurd (by rw [z7, e]; rfl) c3
            subst es3
            refine ⟨by rw [hg_of e7 (by decide)]; rfl, by rw [hj 0 (by decide) (by decide)]; exact z0, hj 10 (by decide) (by decide), a, s, q, k, hh, fr, sl, 0, ⟨y1, y2, y3, y4, y5, y6, y7, by decide⟩, ⟨?_, ?_, ?_, ?_, ?_, ?_, ?_, e7, ?_⟩, fun z => by omega, fun z => by omega, fun z => by omega, fun _ => e8, fun z => by omega⟩
            · rw [hj 0 (by decide) (by decide)]; exact z0
            · rw [hj 1 (by decide) (by decide)]; exact z1
            · rw [hj 2 (by decide) (by decide)]; exact z2
            · rw [hj 3 (by decide) (by decide)]; exact z3
            · rw [hj 4 (by decide) (by decide)]; exact z4
            · rw [hj 5 (by decide) (by decide)]; exact z5
            · rw [hj 6 (by decide) (by decide)]; exact z6
            · rw [hj 10 (by decide) (by decide)]; exact z10
      obtain ⟨J, eJ, hrow, b0, e0, e10, hTk⟩ := hex
      rw [← eJ]
      have hr : ∀ i, i < n → i ≠ t → J (p + 18 + i) = I (p + 18 + i) := fun i i1 i2 => hrow _ (by omega)
      have hT : ∀ i, i < 100 → tagsC I p n (nI i) = tagsC J p n (nI i) + (if i = a then 1 else 0) := fun i hi => tags_fl ht (fun i i1 i2 => hr i i1 i2) z0 hi (by omega) b1 b0
      have hB : ∀ i, i < 100 → busyN I p n i = busyN J p n i + (if i = d then q else 0) := fun i hi => busy_fl ht (fun i i1 i2 => hr i i1 i2) ed z2 y3.2 hi (by omega) b1 b0
      refine ok_yes (nA' := nA) (nC' := nC) (n' := n) (h' := h) (cnt_31 hn4 (by decide)) (Gd_one g ht hrow hTk (fun i hi hf => ?_) (fun i v hi hv => ?_) (fun i hi => ?_)) (Nat.le_of_eq (slS_row fun i hi => ?_).symm)
      · rw [hrow _ (by omega)] at hf
        have q1 := hT i (by omega)
        rw [g.2.2.2.2.1 i hi hf] at q1
        omega
      · have q1 := hT i (by omega)
        obtain ⟨j, j1, j2, j3, j4⟩ := g.2.2.2.2.2.1 i v hi (by omega)
        have hne : j ≠ t := fun e => by
          subst e
          have ei : i = a := (nI_eq (by omega) (by omega)).mp (j3.symm.trans z0)
          subst ei
          rw [if_pos rfl] at q1
          have := (nI_eq (by omega) (by omega)).mp (j4.symm.trans u4)
          omega
        exact ⟨j, j1, by rw [hg_row (hrow _ (by omega))]; exact j2, by rw [hrow _ (by omega)]; exact j3, by rw [hrow _ (by omega)]; exact j4⟩
      · obtain ⟨m', k1, k2, k3⟩ := g.2.2.2.2.2.2 i hi
        have q1 := hB i (by omega)
        exact ⟨m', k1, k2, by omega⟩
      · by_cases e : i = t
        · subst e
          exact e10
        · rw [hrow _ (by omega)]
    · rw [if_neg c2]; exact ok_no (by decide)
  · rw [if_neg c1]; exact ok_no (by decide)
end AE
