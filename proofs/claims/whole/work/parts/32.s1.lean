/-! THE RELATION: a plant of the class at p, and a row of numbers and two of floats of the model -/
theorem cnt_congr {P Q : Nat → Bool} : ∀ {n : Nat}, (∀ t, t < n → P t = Q t) → cntT P n = cntT Q n
  | 0, _ => rfl
  | n + 1, h => by
    rw [cntT, cntT, cnt_congr (fun t ht => h t (by omega)), h n (by omega)]
theorem sum_congr {f g : Nat → Int32} : ∀ {n : Nat}, (∀ t, t < n → f t = g t) → sumT f n = sumT g n
  | 0, _ => rfl
  | n + 1, h => by
    rw [sumT, sumT, sum_congr (fun t ht => h t (by omega)), h n (by omega)]
theorem fst_congr {P Q : Nat → Bool} {n : Nat} (h : ∀ t, t < n → P t = Q t) : ∀ (r k : Nat), r + k = n → fstT P r k = fstT Q r k
  | 0, _, _ => rfl
  | r + 1, k, hk => by
    rw [fstT, fstT, h k (by omega), fst_congr h r (k + 1) (by omega)]
theorem cnt_le {P : Nat → Bool} : ∀ n, cntT P n ≤ n
  | 0 => Nat.le_refl _
  | n + 1 => by
    have := cnt_le (P := P) n
    rw [cntT]
    split <;> omega
theorem cnt_0 {P : Nat → Bool} : ∀ {n : Nat}, (∀ t, t < n → P t = false) → cntT P n = 0
  | 0, _ => rfl
  | n + 1, h => by
    rw [cntT, cnt_0 (fun t ht => h t (by omega)), h n (by omega)]
    rfl
theorem cnt_set {P Q : Nat → Bool} {t0 : Nat} (h0 : P t0 = false) (h1 : Q t0 = true) : ∀ {n : Nat}, t0 < n → (∀ t, t < n → t ≠ t0 → Q t = P t) → cntT Q n = cntT P n + 1
  | 0, hn, _ => absurd hn (Nat.not_lt_zero _)
  | n + 1, hn, h => by
    rw [cntT, cntT]
    by_cases hc : n = t0
    · subst hc
      rw [h0, h1, cnt_congr (fun t ht => h t (by omega) (by omega))]
      simp
    · rw [cnt_set h0 h1 (by omega) (fun t ht hne => h t (by omega) hne), h n (by omega) hc]
      omega
theorem cnt_pos {P : Nat → Bool} {t0 : Nat} (h0 : P t0 = true) : ∀ {n : Nat}, t0 < n → 0 < cntT P n
  | 0, hn => absurd hn (Nat.not_lt_zero _)
  | n + 1, hn => by
    rw [cntT]
    by_cases hc : n = t0
    · subst hc
      rw [h0]
      simp
    · have := cnt_pos h0 (n := n) (by omega)
      omega
/-- a tag hangs -/
def hng (I : pI) (p t : Nat) : Prop := 1 ≤ I (p + 18 + t) 7 ∧ I (p + 18 + t) 7 ≤ 3
def RepA (p n : Nat) (N : Nat → Int32) (H O : Nat → UInt32) (I : pI) (F : pF) (a : Nat) : Prop :=
  I (p + 5 + a) 0 = N (4 + 5 * a + 0) ∧ F (p + 5 + a) 1 = mWear N a ∧ F (p + 5 + a) 2 = H a ∧ F (p + 5 + a) 3 = O a ∧ I (p + 5 + a) 4 = N (4 + 5 * a + 2) ∧
  I (p + 5 + a) 5 = N (4 + 5 * a + 3) ∧ (∃ b, b < 256 ∧ N (4 + 5 * a + 3) = nI b) ∧ N (4 + 5 * a + 4) = nI (tagsC I p n (nI a))
def RepH (p nA nC n : Nat) (N : Nat → Int32) (I : pI) (t a : Nat) : Prop :=
  hng I p t → (∃ c, c < nC ∧ N (251 + 10 * t + 7) = nI c) ∧ ∃ g, g < tagsC I p n (nI a) ∧ I (p + 18 + t) 11 = nI g ∧ N (44 + 24 * a + g) = nI t
def RepT (p nA nC n : Nat) (N : Nat → Int32) (I : pI) (t : Nat) : Prop :=
  (∀ j, j < 6 → I (p + 18 + t) j = N (251 + 10 * t + j)) ∧ I (p + 18 + t) 6 = mEnd N t ∧ (∀ j, 7 ≤ j → j < 11 → I (p + 18 + t) j = N (251 + 10 * t + j - 1)) ∧
  (∃ k, k < 5 ∧ N (251 + 10 * t + 3) = nI k) ∧ (∃ e, 1 ≤ e ∧ e ≤ 48 ∧ N (251 + 10 * t + 4) = nI e) ∧ (N (251 + 10 * t + 6) = 2 → ∃ w, 1 ≤ w ∧ w ≤ 48 ∧ N (251 + 10 * t + 8) = nI w) ∧
  ∃ a, a < nA ∧ N (251 + 10 * t + 0) = nI a ∧ RepH p nA nC n N I t a
def RepK (p nA n : Nat) (I : pI) : Prop := ∀ a, a < nA → ∀ g, g < tagsC I p n (nI a) → ∃ t, t < n ∧ I (p + 18 + t) 0 = nI a ∧ hng I p t ∧ I (p + 18 + t) 11 = nI g
def RepB (p : Nat) (I : pI) : Prop := ∀ a, a < 8 → I (p + 5 + a) 4 = 0 ∨ I (p + 5 + a) 4 = 1
def RepN (p nA nC n : Nat) (N : Nat → Int32) (I : pI) : Prop := I p 4 = nI nA ∧ N 1 = nI nA ∧ nA ≤ 8 ∧ I p 5 = nI nC ∧ N 2 = nI nC ∧ nC ≤ 5 ∧ I p 6 = nI n ∧ N 3 = nI n ∧ n ≤ 24 ∧ ∃ hh, hh ≤ 2000 ∧ I p 7 = nI hh ∧ N 0 = nI hh
def RepR (p : Nat) (N : Nat → Int32) (I : pI) : Prop := ∀ k, k < 5 → I (p + 4) k = N (246 + k) ∧ ∃ b, b < 32 ∧ N (246 + k) = nI b
def RepC (p nC : Nat) (N : Nat → Int32) (I : pI) : Prop := ∀ c, c < nC → I (p + 13 + c) 0 = N (236 + 2 * c) ∧ I (p + 13 + c) 1 = N (236 + 2 * c + 1)
def Rep (p nA nC n : Nat) (N : Nat → Int32) (H O : Nat → UInt32) (I : pI) (F : pF) : Prop :=
  RepN p nA nC n N I ∧ RepR p N I ∧ (∀ a, a < nA → RepA p n N H O I F a) ∧ RepC p nC N I ∧ (∀ t, t < n → RepT p nA nC n N I t) ∧ RepK p nA n I ∧ RepB p I
theorem tags_eq {p n : Nat} {I I' : pI} {a : Int32} (h : ∀ t, t < n → I' (p + 18 + t) 0 = I (p + 18 + t) 0 ∧ (I' (p + 18 + t) 7 = I (p + 18 + t) 7 ∨ (hng I' p t ∧ hng I p t) ∨ (¬ hng I' p t ∧ ¬ hng I p t))) : tagsC I' p n a = tagsC I p n a := by
  unfold tagsC
  refine cnt_congr (fun t ht => ?_)
  obtain ⟨h1, h2⟩ := h t ht
  rw [h1]
  rcases h2 with h2 | ⟨h2, h3⟩ | ⟨h2, h3⟩
  · rw [h2]
  · rw [decide_eq_true (show 1 ≤ I' (p + 18 + t) 7 ∧ I' (p + 18 + t) 7 ≤ 3 from h2), decide_eq_true (show 1 ≤ I (p + 18 + t) 7 ∧ I (p + 18 + t) 7 ≤ 3 from h3)]
  · rw [decide_eq_false (show ¬ (1 ≤ I' (p + 18 + t) 7 ∧ I' (p + 18 + t) 7 ≤ 3) from h2), decide_eq_false (show ¬ (1 ≤ I (p + 18 + t) 7 ∧ I (p + 18 + t) 7 ≤ 3) from h3)]
theorem hng_eq {p r t : Nat} {I I' : pI} (h : I' (p + 18 + t) 7 = I (r + 18 + t) 7) : hng I' p t ↔ hng I r t := by
  unfold hng
  rw [h]
/-! two plants alike -/
def FEq (p r : Nat) (I : pI) (F : pF) (I' : pI) (F' : pF) : Prop :=
  (∀ a, a < 8 → I' (p + 5 + a) 0 = I (r + 5 + a) 0 ∧ I' (p + 5 + a) 4 = I (r + 5 + a) 4 ∧ I' (p + 5 + a) 5 = I (r + 5 + a) 5 ∧ F' (p + 5 + a) 1 = F (r + 5 + a) 1 ∧ F' (p + 5 + a) 2 = F (r + 5 + a) 2 ∧ F' (p + 5 + a) 3 = F (r + 5 + a) 3) ∧
  (∀ c, c < 5 → I' (p + 13 + c) 0 = I (r + 13 + c) 0 ∧ I' (p + 13 + c) 1 = I (r + 13 + c) 1) ∧
  (∀ t j, t < 24 → j < 12 → I' (p + 18 + t) j = I (r + 18 + t) j) ∧
  (∀ k, k < 5 → I' (p + 4) k = I (r + 4) k) ∧ I' p 4 = I r 4 ∧ I' p 5 = I r 5 ∧ I' p 6 = I r 6 ∧ I' p 7 = I r 7
theorem FEq_cpy {p r : Nat} {I I' : pI} {F F' : pF} (h : Cpy p r I F I' F') : FEq p r I F I' F' := ⟨h.1.2.1, h.1.2.2.1, h.1.2.2.2.1, h.1.2.2.2.2, h.2⟩
theorem FEq_fr {p : Nat} {I I' : pI} {F F' : pF} (h : ∀ i, p ≤ i → i < p + 42 → I' i = I i ∧ F' i = F i) : FEq p p I F I' F' := by
  refine ⟨fun a ha => ?_, fun c hc => ?_, fun t j ht hj => ?_, fun k hk => ?_, ?_, ?_, ?_, ?_⟩
  · rw [(h (p + 5 + a) (by omega) (by omega)).1, (h (p + 5 + a) (by omega) (by omega)).2]
    exact ⟨rfl, rfl, rfl, rfl, rfl, rfl⟩
  · rw [(h (p + 13 + c) (by omega) (by omega)).1]
    exact ⟨rfl, rfl⟩
  · rw [(h (p + 18 + t) (by omega) (by omega)).1]
  · rw [(h (p + 4) (by omega) (by omega)).1]
  all_goals rw [(h p (by omega) (by omega)).1]
theorem tags_feq {p r n : Nat} {I I' : pI} {F F' : pF} {a : Int32} (h : FEq p r I F I' F') (hn : n ≤ 24) : tagsC I' p n a = tagsC I r n a := by
  unfold tagsC
  refine cnt_congr (fun t ht => ?_)
  rw [h.2.2.1 t 0 (by omega) (by decide), h.2.2.1 t 7 (by omega) (by decide)]
theorem Rep_feq {p r nA nC n : Nat} {N N' : Nat → Int32} {H H' O O' : Nat → UInt32} {I I' : pI} {F F' : pF} (h : Rep r nA nC n N H O I F) (hf : FEq p r I F I' F') (hN : ∀ j, j < 491 → N' j = N j) (hH : ∀ j, j < 8 → H' j = H j) (hO : ∀ j, j < 8 → O' j = O j) : Rep p nA nC n N' H' O' I' F' := by
  obtain ⟨⟨a1, a2, a3, a4, a5, a6, a7, a8, a9, hh, b1, b2, b3⟩, hR, hA, hC, hT, hK, hB⟩ := h
  obtain ⟨f1, f2, f3, f4, f5, f6, f7, f8⟩ := id hf
  have tg : ∀ a, tagsC I' p n a = tagsC I r n a := fun a => tags_feq hf a9
  have hg : ∀ t, t < n → (hng I' p t ↔ hng I r t) := fun t ht => hng_eq (f3 t 7 (by omega) (by decide))
  refine ⟨⟨f5.trans a1, (hN 1 (by decide)).trans a2, a3, f6.trans a4, (hN 2 (by decide)).trans a5, a6, f7.trans a7, (hN 3 (by decide)).trans a8, a9, hh, b1, f8.trans b2, (hN 0 (by decide)).trans b3⟩, fun k hk => ?_, fun a ha => ?_, fun c hc => ?_, fun t ht => ?_, fun a ha g hg' => ?_, fun a ha => ?_⟩
  · rw [hN _ (by omega), f4 k hk]
    exact hR k hk
  · obtain ⟨c1, c2, c3, c4, c5, c6, c7, c8⟩ := hA a ha
    obtain ⟨g1, g2, g3, g4, g5, g6⟩ := f1 a (by omega)
    unfold RepA mWear
    rw [g1, g2, g3, g4, g5, g6, tg, hN _ (by omega), hN _ (by omega), hN _ (by omega), hN _ (by omega), hN _ (by omega), hH a (by omega), hO a (by omega)]
    exact ⟨c1, c2, c3, c4, c5, c6, c7, c8⟩
  · rw [(f2 c (by omega)).1, (f2 c (by omega)).2, hN _ (by omega), hN _ (by omega)]
    exact hC c hc
  · obtain ⟨c1, c2, c3, c4, c5, c6, a, ha, c7, c8⟩ := hT t ht
    unfold RepT mEnd
    rw [f3 t 6 (by omega) (by decide), hN (251 + 10 * t + 3) (by omega), hN (251 + 10 * t + 4) (by omega), hN (251 + 10 * t + 5) (by omega), hN (251 + 10 * t + 6) (by omega), hN (251 + 10 * t + 8) (by omega), hN (251 + 10 * t + 0) (by omega)]
    refine ⟨fun j hj => by rw [f3 t j (by omega) (by omega), hN _ (by omega)]; exact c1 j hj, c2, fun j hj hj2 => by rw [f3 t j (by omega) (by omega), hN _ (by omega)]; exact c3 j hj hj2, c4, c5, c6, a, ha, c7, fun hx => ?_⟩
    obtain ⟨⟨c, d1, d2⟩, g, d3, d4, d5⟩ := c8 ((hg t ht).mp hx)
    have : g < 24 := Nat.lt_of_lt_of_le d3 (Nat.le_trans (cnt_le n) a9)
    refine ⟨⟨c, d1, (hN _ (by omega)).trans d2⟩, g, by rw [tg]; exact d3, (f3 t 11 (by omega) (by decide)).trans d4, (hN _ (by omega)).trans d5⟩
  · rw [tg] at hg'
    obtain ⟨t, d1, d2, d3, d4⟩ := hK a ha g hg'
    exact ⟨t, d1, (f3 t 0 (by omega) (by decide)).trans d2, (hg t d1).mpr d3, (f3 t 11 (by omega) (by decide)).trans d4⟩
  · rw [(f1 a ha).2.1]
    exact hB a ha
theorem Rep_pOK {p nA nC n : Nat} {N : Nat → Int32} {H O : Nat → UInt32} {I : pI} {F : pF} (h : Rep p nA nC n N H O I F) : pOK p I nA nC n := by
  obtain ⟨⟨a1, a2, a3, a4, a5, a6, a7, a8, a9, hh, b1, b2, b3⟩, hR, hA, hC, hT, hK, hB⟩ := h
  refine ⟨a1, a3, a4, a6, a7, a9, fun t ht => ?_, fun t ht => ?_, hB⟩
  · obtain ⟨c1, c2, c3, c4, c5, c6, a, ha, c7, c8⟩ := hT t ht
    exact ⟨a, ha, (c1 0 (by decide)).trans c7⟩
  · obtain ⟨c1, c2, c3, ⟨k, hk, c4⟩, -⟩ := hT t ht
    exact ⟨k, hk, (c1 3 (by decide)).trans c4⟩
theorem Rep_fit {p nA nC n : Nat} {N : Nat → Int32} {H O : Nat → UInt32} {I : pI} {F : pF} (h : Rep p nA nC n N H O I F) : mFit N nA nC n := by
  obtain ⟨⟨a1, a2, a3, a4, a5, a6, a7, a8, a9, hh, b1, b2, b3⟩, hR, hA, hC, hT, hK, hB⟩ := h
  refine ⟨a2, a3, a5, a6, a8, a9, fun t ht => ?_, fun t ht => ?_, fun a ha => ?_⟩
  · obtain ⟨c1, c2, c3, c4, c5, c6, a, ha, c7, c8⟩ := hT t ht
    exact ⟨a, ha, c7⟩
  · exact (hT t ht).2.2.2.1
  · exact ⟨_, Nat.le_trans (cnt_le n) a9, (hA a ha).2.2.2.2.2.2.2⟩
