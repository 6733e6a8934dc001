/-! the acts on tasks -/
section AD
variable {p q r x n nA nC h b t0 : Nat} {I I' : pI} {F F' : pF} {S S' T T' : Nat → Int32}
theorem taskI_at {a b c d e f : Int32} : taskI I q a b c d e f q 0 = a ∧ taskI I q a b c d e f q 1 = b ∧ taskI I q a b c d e f q 2 = c ∧ taskI I q a b c d e f q 3 = d ∧ taskI I q a b c d e f q 4 = e ∧ taskI I q a b c d e f q 5 = f ∧ taskI I q a b c d e f q 6 = f + 2 * e + 6 ∧ taskI I q a b c d e f q 7 = 0 ∧ taskI I q a b c d e f q 8 = -5 ∧ taskI I q a b c d e f q 10 = 0 := by
  unfold taskI
  refine ⟨?_, ?_, ?_, ?_, ?_, ?_, ?_, ?_, ?_, ?_⟩ <;> simp [up2]
theorem tags_succ {a : Int32} (h0 : hgB I' p n = false) (h : ∀ t, t < n → I' (p + 18 + t) = I (p + 18 + t)) : tagsC I' p (n + 1) a = tagsC I p n a := by
  rw [← tags_row h]
  show tagsC I' p n a + (if (decide (I' (p + 18 + n) 0 = a) && hgB I' p n) = true then 1 else 0) = _
  rw [h0]
  simp
theorem busy_succ {c : Nat} (h0 : hgB I' p n = false) (h : ∀ t, t < n → I' (p + 18 + t) = I (p + 18 + t)) : busyN I' p (n + 1) c = busyN I p n c := by
  rw [← busy_row h]
  show busyN I' p n c + (if bzB I' p c n = true then (I' (p + 18 + n) 2).toNatClampNeg else 0) = _
  unfold bzB
  rw [h0]
  simp
theorem ok_newTask (g : Gd p I F nA nC n h) {a s c d e f : Int32} : okR p nA nC n I F (newTaskR I F p n a s c d e f) := by
  unfold newTaskR
  by_cases c1 : 0 ≤ a ∧ a < I p 4
  · rw [if_pos c1]
    by_cases c2 : (0 ≤ s ∧ s ≤ 3) ∧ (1 ≤ c ∧ c ≤ 6) ∧ (0 ≤ d ∧ d ≤ 4) ∧ (1 ≤ e ∧ e ≤ 48) ∧ (I p 7 ≤ f ∧ f ≤ 2000)
    · rw [if_pos c2]
      by_cases c3 : n < 24
      · rw [if_pos c3]
        obtain ⟨⟨a1, a2, a3, a4, a5, a6, a7, a8⟩, g2, g3, g4, g5, g6, g7⟩ := g
        obtain ⟨k1, k2, k3, k4, k5⟩ := c2
        obtain ⟨a0, ha0, rfl⟩ := has_nat (decide_eq_true c1) a1 (by omega)
        obtain ⟨s0, -, hs0, rfl⟩ := win_nat (x := s) (lo := 0) (hi := 3) (decide_eq_true k1) (by decide) (by decide)
        obtain ⟨q0, hq1, hq2, rfl⟩ := win_nat (x := c) (lo := 1) (hi := 6) (decide_eq_true k2) (by decide) (by decide)
        obtain ⟨d0, -, hd0, rfl⟩ := win_nat (x := d) (lo := 0) (hi := 4) (decide_eq_true k3) (by decide) (by decide)
        obtain ⟨e0, he1, he2, rfl⟩ := win_nat (x := e) (lo := 1) (hi := 48) (decide_eq_true k4) (by decide) (by decide)
        rw [a7] at k5
        obtain ⟨f0, hf1, hf2, rfl⟩ := win_nat (x := f) (lo := h) (hi := 2000) (decide_eq_true k5) (by decide) (by omega)
        have hrow : ∀ t, t < n → (up2 (taskI I (p + 18 + n) (nI a0) (nI s0) (nI q0) (nI d0) (nI e0) (nI f0)) p 6 (nI (n + 1))) (p + 18 + t) = I (p + 18 + t) := fun t ht => by
          funext j
          rw [up2_n (by omega), taskI_fr (by omega)]
        have hout : ∀ i j, i ≠ p + 18 + n → ¬ (i = p ∧ j = 6) → (up2 (taskI I (p + 18 + n) (nI a0) (nI s0) (nI q0) (nI d0) (nI e0) (nI f0)) p 6 (nI (n + 1))) i j = I i j := fun i j z1 z2 => by
          rw [up2_n z2, taskI_fr z1]
        have hsix : (up2 (taskI I (p + 18 + n) (nI a0) (nI s0) (nI q0) (nI d0) (nI e0) (nI f0)) p 6 (nI (n + 1))) p 6 = nI (n + 1) := up2_s
        have hnew : (up2 (taskI I (p + 18 + n) (nI a0) (nI s0) (nI q0) (nI d0) (nI e0) (nI f0)) p 6 (nI (n + 1))) (p + 18 + n) = taskI I (p + 18 + n) (nI a0) (nI s0) (nI q0) (nI d0) (nI e0) (nI f0) (p + 18 + n) := up2_row (by omega)
        generalize up2 (taskI I (p + 18 + n) (nI a0) (nI s0) (nI q0) (nI d0) (nI e0) (nI f0)) p 6 (nI (n + 1)) = J at hrow hout hsix hnew ⊢
        obtain ⟨w0, w1, w2, w3, w4, w5, w6, w7, w8, w10⟩ := taskI_at (I := I) (q := p + 18 + n) (a := nI a0) (b := nI s0) (c := nI q0) (d := nI d0) (e := nI e0) (f := nI f0)
        rw [← hnew] at w0 w1 w2 w3 w4 w5 w6 w7 w8 w10
        have hg0 : hgB J p n = false := by
          rw [hg_of (st := 0) w7 (by decide)]
          rfl
        have h6 : J (p + 18 + n) 6 = nI (f0 + 2 * e0 + 6) := by
          rw [w6]
          show nI f0 + nI 2 * nI e0 + nI 6 = _
          rw [pk_mul, nI_add, nI_add]
        refine ok_yes (nA' := nA) (nC' := nC) (n' := n + 1) (h' := h) (nI_pos (by omega)) ⟨⟨?_, a2, ?_, a4, hsix, by omega, ?_, a8⟩, fun t ht => ?_, fun i hi => ?_, fun i hi => ?_, fun i hi hf => ?_, fun i v hi hv => ?_, fun i hi => ?_⟩ ?_
        · rw [hout _ _ (by omega) (by omega)]; exact a1
        · rw [hout _ _ (by omega) (by omega)]; exact a3
        · rw [hout _ _ (by omega) (by omega)]; exact a7
        · by_cases e : t = n
          · subst e
            exact ⟨a0, s0, q0, d0, e0, f0, 0, 0, ⟨ha0, by omega, ⟨hq1, hq2⟩, by omega, ⟨he1, he2⟩, by omega, by omega, by decide⟩, ⟨w0, w1, w2, w3, w4, w5, h6, w7, w10⟩, fun z => by omega, fun z => by omega, fun z => by omega, fun _ => w8, fun z => by omega⟩
          · exact Tk_cg (fun j hj => by rw [hrow t (by omega)]) (fun c hc => hout _ _ (by omega) (by omega)) (g2 t (by omega))
        · rw [hout _ _ (by omega) (by omega)]; exact g3 i hi
        · obtain ⟨⟨z, hz, ez⟩, f⟩ := g4 i hi
          exact ⟨⟨z, hz, (hout _ _ (by omega) (by omega)).trans ez⟩, f⟩
        · rw [hout _ _ (by omega) (by omega)] at hf
          rw [tags_succ hg0 hrow]
          exact g5 i hi hf
        · rw [tags_succ hg0 hrow] at hv
          obtain ⟨t, ht, z1, z2, z3⟩ := g6 i v hi hv
          exact ⟨t, by omega, by rw [hg_row (hrow t ht)]; exact z1, by rw [hrow t ht]; exact z2, by rw [hrow t ht]; exact z3⟩
        · obtain ⟨m, z1, z2, z3⟩ := g7 i hi
          exact ⟨m, z1, (hout _ _ (by omega) (by omega)).trans z2, by rw [busy_succ hg0 hrow]; exact z3⟩
        · have : slS J p n = slS I p n := slS_row fun t ht => by rw [hrow t ht]
          show _ ≤ slS J p n + _
          omega
      · rw [if_neg c3]; exact ok_no (by decide)
    · rw [if_neg c2]; exact ok_no (by decide)
  · rw [if_neg c1]; exact ok_no (by decide)
/-- one task's row is written -/
theorem Gd_one (g : Gd p I F nA nC n h) (ht : t0 < n) (hr : ∀ i, i ≠ p + 18 + t0 → I' i = I i) (hT : Tk h h nA nC (fun c => I (p + 13 + c) 1) (I' (p + 18 + t0))) (h5 : G5 p I' nA n) (h6 : G6 p I' nA n) (h7 : ∀ c, c < nC → ∃ m, m ≤ 6 ∧ I (p + 13 + c) 0 = nI m ∧ busyN I' p n c ≤ m) : Gd p I' F nA nC n h := by
  obtain ⟨⟨a1, a2, a3, a4, a5, a6, a7, a8⟩, g2, g3, g4, -, -, -⟩ := g
  refine ⟨⟨?_, a2, ?_, a4, ?_, a6, ?_, a8⟩, fun t hh => ?_, fun a ha => ?_, fun a ha => ?_, h5, h6, fun c hc => ?_⟩
  · rw [hr _ (by omega)]; exact a1
  · rw [hr _ (by omega)]; exact a3
  · rw [hr _ (by omega)]; exact a5
  · rw [hr _ (by omega)]; exact a7
  · by_cases e : t = t0
    · subst e
      exact Tk_cg (fun _ _ => rfl) (fun c hc => by rw [hr _ (by omega)]) hT
    · exact Tk_cg (fun j hj => by rw [hr _ (by omega)]) (fun c hc => by rw [hr _ (by omega)]) (g2 t hh)
  · rw [hr _ (by omega)]; exact g3 a ha
  · obtain ⟨⟨z, hz, ez⟩, f⟩ := g4 a ha
    exact ⟨⟨z, hz, by rw [hr _ (by omega)]; exact ez⟩, f⟩
  · obtain ⟨m, z1, z2, z3⟩ := h7 c hc
    exact ⟨m, z1, by rw [hr _ (by omega)]; exact z2, z3⟩
/-- and whether its tag hangs stays -/
theorem Gd_same (g : Gd p I F nA nC n h) (ht : t0 < n) (hr : ∀ i, i ≠ p + 18 + t0 → I' i = I i) (hT : Tk h h nA nC (fun c => I (p + 13 + c) 1) (I' (p + 18 + t0))) (k0 : I' (p + 18 + t0) 0 = I (p + 18 + t0) 0) (k2 : I' (p + 18 + t0) 2 = I (p + 18 + t0) 2) (k11 : I' (p + 18 + t0) 11 = I (p + 18 + t0) 11) (kg : hgB I' p t0 = hgB I p t0) (k8 : hgB I p t0 = true → I' (p + 18 + t0) 8 = I (p + 18 + t0) 8) : Gd p I' F nA nC n h := by
  obtain ⟨-, -, -, -, g5, g6, g7⟩ := id g
  have e0 : ∀ t, t < n → I' (p + 18 + t) 0 = I (p + 18 + t) 0 ∧ hgB I' p t = hgB I p t := fun t h1 => by
    by_cases e : t = t0
    · subst e; exact ⟨k0, kg⟩
    · exact ⟨by rw [hr _ (by omega)], hg_row (hr _ (by omega))⟩
  have e2 : ∀ t, t < n → I' (p + 18 + t) 2 = I (p + 18 + t) 2 ∧ hgB I' p t = hgB I p t ∧ (hgB I p t = true → I' (p + 18 + t) 8 = I (p + 18 + t) 8) := fun t h1 => by
    by_cases e : t = t0
    · subst e; exact ⟨k2, kg, k8⟩
    · exact ⟨by rw [hr _ (by omega)], hg_row (hr _ (by omega)), fun _ => by rw [hr _ (by omega)]⟩
  refine Gd_one g ht hr hT (fun a ha hf => ?_) (fun a v ha hv => ?_) (fun c hc => ?_)
  · rw [hr _ (by have := g.1.2.1; omega)] at hf
    rw [tags_eq e0]
    exact g5 a ha hf
  · rw [tags_eq e0] at hv
    obtain ⟨t, z0, z1, z2, z3⟩ := g6 a v ha hv
    refine ⟨t, z0, by rw [(e0 t z0).2]; exact z1, by rw [(e0 t z0).1]; exact z2, ?_⟩
    by_cases e : t = t0
    · subst e; rw [k11]; exact z3
    · rw [hr _ (by omega)]; exact z3
  · obtain ⟨m, z1, z2, z3⟩ := g7 c hc
    exact ⟨m, z1, z2, by rw [busy_eq e2]; exact z3⟩
/-- a tag is hung or lifted: I has it, I' does not -/
theorem tags_fl {a0 a : Nat} (ht : t0 < n) (hr : ∀ t, t < n → t ≠ t0 → I' (p + 18 + t) = I (p + 18 + t)) (e0 : I (p + 18 + t0) 0 = nI a0) (ha : a < 100) (ha0 : a0 < 100) (h1 : hgB I p t0 = true) (h2 : hgB I' p t0 = false) : tagsC I p n (nI a) = tagsC I' p n (nI a) + (if a = a0 then 1 else 0) := by
  have hne : ∀ t, t < n → t ≠ t0 → (decide (I (p + 18 + t) 0 = nI a) && hgB I p t) = (decide (I' (p + 18 + t) 0 = nI a) && hgB I' p t) := fun t z1 z2 => by
    rw [hg_row (hr t z1 z2), hr t z1 z2]
  by_cases e : a = a0
  · subst e
    rw [if_pos rfl]
    exact cnt_flip (P := fun t => decide (I (p + 18 + t) 0 = nI a) && hgB I p t) (Q := fun t => decide (I' (p + 18 + t) 0 = nI a) && hgB I' p t) ht hne (by simp [e0, h1]) (by simp [h2])
  · rw [if_neg e]
    refine cnt_c (P := fun t => decide (I (p + 18 + t) 0 = nI a) && hgB I p t) (Q := fun t => decide (I' (p + 18 + t) 0 = nI a) && hgB I' p t) fun t z => ?_
    by_cases et : t = t0
    · subst et
      have hx : ¬ nI a0 = nI a := by rw [nI_eq (by omega) (by omega)]; omega
      simp [h2, e0, hx]
    · exact hne t z et
theorem busy_fl {c0 c q0 : Nat} (ht : t0 < n) (hr : ∀ t, t < n → t ≠ t0 → I' (p + 18 + t) = I (p + 18 + t)) (e8 : I (p + 18 + t0) 8 = nI c0) (e2 : I (p + 18 + t0) 2 = nI q0) (hq : q0 ≤ 6) (hc : c < 100) (hc0 : c0 < 100) (h1 : hgB I p t0 = true) (h2 : hgB I' p t0 = false) : busyN I p n c = busyN I' p n c + (if c = c0 then q0 else 0) := by
  unfold busyN
  refine sumN_flip (t0 := t0) ht (fun t z1 z2 => ?_) ?_
  · unfold bzB
    rw [hg_row (hr t z1 z2), hr t z1 z2]
  · have b2 : bzB I' p c t0 = false := by unfold bzB; rw [h2]; simp
    show (if bzB I p c t0 = true then (I (p + 18 + t0) 2).toNatClampNeg else 0) = (if bzB I' p c t0 = true then (I' (p + 18 + t0) 2).toNatClampNeg else 0) + (if c = c0 then q0 else 0)
    rw [b2]
    by_cases e : c = c0
    · subst e
      have b1 : bzB I p c t0 = true := by unfold bzB; rw [h1, e8]; simp
      rw [b1, e2, nI_clamp (by omega)]
      simp
    · have hx : ¬ nI c0 = nI c := by rw [nI_eq (by omega) (by omega)]; omega
      have b1 : bzB I p c t0 = false := by unfold bzB; rw [e8]; simp [hx]
      rw [b1]
      simp [e]
theorem ok_cancel (g : Gd p I F nA nC n h) {a : Int32} : okR p nA nC n I F (cancelR I F p a) := by
  unfold cancelR
  by_cases c1 : 0 ≤ a ∧ a < I p 6
  · obtain ⟨t, ht, rfl⟩ := has_nat (decide_eq_true c1) g.1.2.2.2.2.1 (by have := g.1.2.2.2.2.2.1; omega)
    have hc : (nI t).toNatClampNeg = t := nI_clamp (by have := g.1.2.2.2.2.2.1; omega)
    rw [if_pos c1, hc]
    by_cases c2 : I (p + 18 + t) 7 = 0
    · rw [if_pos c2]
      obtain ⟨a, s, q, k, hh, fr, sl, st, ⟨y1, y2, y3, y4, y5, y6, y7, y8⟩, ⟨z0, z1, z2, z3, z4, z5, z6, z7, z10⟩, w1, w2, w3, w4, w5⟩ := g.2.1 t ht
      have es : st = 0 := (nI_eq (by omega) (by decide)).mp (z7.symm.trans c2)
      subst es
      have h8 := g.1.2.2.2.2.2.2.2
      refine ok_yes (nA' := nA) (nC' := nC) (n' := n) (h' := h) (by rw [z10]; exact nI_pos (by omega)) (Gd_same g ht (fun i hi => up2_row hi) ?_ (up2_n (by omega)) (up2_n (by omega)) (up2_n (by omega)) ?_ (fun _ => up2_n (by omega))) (Nat.le_of_eq (slS_row fun t ht => by rw [up2_n (by omega)]).symm)
      · refine ⟨a, s, q, k, hh, fr, sl, 6, ⟨y1, y2, y3, y4, y5, y6, y7, by decide⟩, ?_, fun z => by omega, fun z => by omega, fun z => by omega, fun _ => ?_, fun z => by omega⟩
        · rw [up2_s, up2_nj (by decide), up2_nj (by decide), up2_nj (by decide), up2_nj (by decide), up2_nj (by decide), up2_nj (by decide), up2_nj (by decide), up2_nj (by decide)]
          exact ⟨z0, z1, z2, z3, z4, z5, z6, rfl, z10⟩
        · rw [up2_nj (by decide)]; exact w4 (Or.inl rfl)
      · rw [hg_of (st := 6) (show up2 I (p + 18 + t) 7 6 (p + 18 + t) 7 = nI 6 from up2_s) (by decide), hg_of z7 (by decide)]
        rfl
    · rw [if_neg c2]; exact ok_no (by decide)
  · rw [if_neg c1]; exact ok_no (by decide)
theorem reas_0 {t k a : Nat} (h : reasC I p n t k a = 0) : I (p + 18 + t) 7 = 1 ∧ ¬ I p 7 < I (p + 18 + t) 5 ∧ ¬ I (p + 18 + t) 6 < I p 7 + I (p + 18 + t) 4 := by
  unfold reasC at h
  by_cases c1 : I (p + 18 + t) 7 = 1
  · rw [if_pos c1] at h
    by_cases c2 : I p 7 < I (p + 18 + t) 5
    · rw [if_pos c2] at h; exact absurd h (by decide)
    · rw [if_neg c2] at h
      by_cases c3 : I (p + 18 + t) 6 < I p 7 + I (p + 18 + t) 4
      · rw [if_pos c3] at h; exact absurd h (by decide)
      · exact ⟨c1, c2, c3⟩
  · rw [if_neg c1] at h; exact absurd h (by decide)
theorem ok_begin (g : Gd p I F nA nC n h) {a : Int32} : okR p nA nC n I F (beginR I F p n a) := by
  unfold beginR
  by_cases c1 : 0 ≤ a ∧ a < I p 6
  · obtain ⟨t, ht, rfl⟩ := has_nat (decide_eq_true c1) g.1.2.2.2.2.1 (by have := g.1.2.2.2.2.2.1; omega)
    have hc : (nI t).toNatClampNeg = t := nI_clamp (by have := g.1.2.2.2.2.2.1; omega)
    rw [if_pos c1, hc]
    split
    · rename_i c2
      obtain ⟨r1, r2, r3⟩ := reas_0 c2
      obtain ⟨a, s, q, k, hh, fr, sl, st, ⟨y1, y2, y3, y4, y5, y6, y7, y8⟩, ⟨z0, z1, z2, z3, z4, z5, z6, z7, z10⟩, w1, w2, w3, w4, w5⟩ := g.2.1 t ht
      have es : st = 1 := (nI_eq (by omega) (by decide)).mp (z7.symm.trans r1)
      subst es
      have h7 := g.1.2.2.2.2.2.2.1
      have h8 := g.1.2.2.2.2.2.2.2
      rw [h7, z5, nI_ltI (by omega) (by omega)] at r2
      rw [h7, z4, z6, nI_add, nI_ltI (by omega) (by omega)] at r3
      refine ok_yes (nA' := nA) (nC' := nC) (n' := n) (h' := h) (by rw [h7, z4, nI_add]; exact nI_pos (by omega)) (Gd_same g ht (fun i hi => (up2_row hi).trans (up2_row hi)) ?_ ?_ ?_ ?_ ?_ (fun _ => ?_)) (Nat.le_of_eq (slS_row fun t ht => by rw [up2_n (by omega), up2_n (by omega)]).symm)
      · refine ⟨a, s, q, k, hh, fr, sl, 2, ⟨y1, y2, y3, y4, y5, y6, y7, by decide⟩, ⟨?_, ?_, ?_, ?_, ?_, ?_, ?_, ?_, ?_⟩, fun z => by omega, fun _ => ⟨hh, y5, ?_, by omega, by omega⟩, fun _ _ => ?_, fun z => by omega, fun _ _ => ?_⟩
        · rw [up2_nj (by decide), up2_nj (by decide)]; exact z0
        · rw [up2_nj (by decide), up2_nj (by decide)]; exact z1
        · rw [up2_nj (by decide), up2_nj (by decide)]; exact z2
        · rw [up2_nj (by decide), up2_nj (by decide)]; exact z3
        · rw [up2_nj (by decide), up2_nj (by decide)]; exact z4
        · rw [up2_nj (by decide), up2_nj (by decide)]; exact z5
        · rw [up2_nj (by decide), up2_nj (by decide)]; exact z6
        · rw [up2_nj (by decide), up2_s]; rfl
        · rw [up2_nj (by decide), up2_nj (by decide)]; exact z10
        · rw [up2_s]; exact z4
        · obtain ⟨c, e1, e2, e3⟩ := w3 (by decide) (by decide)
          refine ⟨c, e1, ?_, ?_⟩
          · rw [up2_nj (by decide), up2_nj (by decide)]; exact e2
          · rw [up2_nj (by decide), up2_nj (by decide)]; exact e3
        · rw [up2_nj (by decide), up2_nj (by decide)]; exact w5 (by decide) (by decide)
      · rw [up2_nj (by decide), up2_nj (by decide)]
      · rw [up2_nj (by decide), up2_nj (by decide)]
      · rw [up2_nj (by decide), up2_nj (by decide)]
      · rw [hg_of (st := 2) (by rw [up2_nj (by decide), up2_s]; rfl) (by decide), hg_of z7 (by decide)]
        rfl
      · rw [up2_nj (by decide), up2_nj (by decide)]
    · exact ok_no (by decide)
  · rw [if_neg c1]; exact ok_no (by decide)
end AD
