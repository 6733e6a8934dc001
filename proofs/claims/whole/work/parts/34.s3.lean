/-! what is told of a plant is told of the row -/
theorem T7 {p nA nC n t : Nat} {N : Nat → Int32} {I : pI} (h : RepT p nA nC n N I t) : I (p + 18 + t) 7 = N (251 + 10 * t + 6) := h.2.2.1 7 (by decide) (by decide)
theorem T8 {p nA nC n t : Nat} {N : Nat → Int32} {I : pI} (h : RepT p nA nC n N I t) : I (p + 18 + t) 8 = N (251 + 10 * t + 7) := h.2.2.1 8 (by decide) (by decide)
theorem T9 {p nA nC n t : Nat} {N : Nat → Int32} {I : pI} (h : RepT p nA nC n N I t) : I (p + 18 + t) 9 = N (251 + 10 * t + 8) := h.2.2.1 9 (by decide) (by decide)
theorem T10 {p nA nC n t : Nat} {N : Nat → Int32} {I : pI} (h : RepT p nA nC n N I t) : I (p + 18 + t) 10 = N (251 + 10 * t + 9) := h.2.2.1 10 (by decide) (by decide)
theorem Tj {p nA nC n t j : Nat} {N : Nat → Int32} {I : pI} (h : RepT p nA nC n N I t) (hj : j < 6) : I (p + 18 + t) j = N (251 + 10 * t + j) := h.1 j hj
section
variable {p nA nC n : Nat} {N : Nat → Int32} {H O : Nat → UInt32} {I : pI} {F : pF}
theorem busy_eq (h : Rep p nA nC n N H O I F) (c : Int32) : busyC I p n c = sumT (mBusyF N c 1) n := by
  unfold busyC
  refine sum_congr (fun t ht => ?_)
  have g := h.2.2.2.2.1 t ht
  unfold mBusyF
  rw [T8 g, T7 g, Tj g (j := 2) (by decide), Bool.and_comm]
  rfl
theorem serve_eq (h : Rep p nA nC n N H O I F) {c t : Nat} (hc : c < nC) (ht : t < n) : serveB I p n c t = mServe N n t c := by
  have g := h.2.2.2.2.1 t ht
  obtain ⟨e1, e2⟩ := h.2.2.2.1 c hc
  unfold serveB mServe
  rw [e1, e2, Tj g (j := 1) (by decide), Tj g (j := 2) (by decide), busy_eq h]
theorem barB_eq (h : Rep p nA nC n N H O I F) {k : Nat} (hk : k < 5) (o : Int32) : barB I p k o = mBarB N k o := by
  unfold barB mBarB
  rw [(h.2.1 k hk).1]
theorem barP_eq (h : Rep p nA nC n N H O I F) {t k a : Nat} (hk : k < 5) (ha : a < nA) (ht : t < n) (hst : ¬ N (251 + 10 * t + 6) = 2) {i : Nat} (hi : i < n) : barP I p k a i = mBarP N t k a i := by
  have g := h.2.2.2.2.1 i hi
  unfold barP mBarP nearB
  rw [T7 g, Tj g (j := 3) (by decide), Tj g (j := 0) (by decide), barB_eq h hk, (h.2.2.1 a ha).2.2.2.2.2.1]
  by_cases hc : i = t
  · subst hc
    simp [hst]
  · rw [show decide (¬ i = t) = true from decide_eq_true hc, Bool.true_and, Bool.and_comm (mBarB N k (N (251 + 10 * i + 3))), show decide (nI a = N (251 + 10 * i + 0)) = decide (N (251 + 10 * i + 0) = nI a) from decide_eq_decide.mpr ⟨Eq.symm, Eq.symm⟩]
theorem barr_eq (h : Rep p nA nC n N H O I F) {t k a : Nat} (hk : k < 5) (ha : a < nA) (ht : t < n) : barrC I p n t k a = if N (251 + 10 * t + 6) = 2 then -5 else fstT (mBarP N t k a) n 0 := by
  have g := h.2.2.2.2.1 t ht
  unfold barrC
  rw [T7 g]
  by_cases hst : N (251 + 10 * t + 6) = 2
  · rw [if_pos hst, if_pos hst]
  · rw [if_neg hst, if_neg hst]
    exact fst_congr (fun i hi => barP_eq h hk ha ht hst hi) n 0 (by omega)
theorem reas_eq (h : Rep p nA nC n N H O I F) {t k a : Nat} (hk : k < 5) (ha : a < nA) (ht : t < n) : reasC I p n t k a = mReas N n t k a := by
  have g := h.2.2.2.2.1 t ht
  obtain ⟨hh, -, e1, e2⟩ := h.1.2.2.2.2.2.2.2.2.2
  unfold reasC mReas
  rw [barr_eq h hk ha ht, T7 g, Tj g (j := 4) (by decide), Tj g (j := 5) (by decide), g.2.1, e1, e2]
  by_cases h1 : N (251 + 10 * t + 6) = 1
  · rw [if_pos h1, if_pos h1, h1, if_neg (show ¬ (1 : Int32) = 2 by decide)]
  · rw [if_neg h1, if_neg h1]
theorem atk (h : Rep p nA nC n N H O I F) {t : Nat} (ht : t < n) : ∃ a k, a < nA ∧ k < 5 ∧ N (251 + 10 * t + 0) = nI a ∧ N (251 + 10 * t + 3) = nI k ∧ mAt N t = a ∧ mKd N t = k ∧ I (p + 18 + t) 0 = nI a ∧ I (p + 18 + t) 3 = nI k := by
  have g := h.2.2.2.2.1 t ht
  have h8 : nA ≤ 8 := h.1.2.2.1
  obtain ⟨c1, c2, c3, ⟨k, hk, c4⟩, c5, c6, a, ha, c7, c8⟩ := id g
  refine ⟨a, k, ha, hk, c7, c4, ?_, ?_, (Tj g (by decide)).trans c7, (Tj g (by decide)).trans c4⟩
  · unfold mAt
    rw [c7]
    exact nI_clamp (by omega)
  · unfold mKd
    rw [c4]
    exact nI_clamp (by omega)
theorem fst_uniq {P : Nat → Bool} {t n : Nat} (h : P t = true) (hu : ∀ i, i < n → P i = true → i = t) (ht : t < n) : ∀ r k, r + k = n → k ≤ t → fstT P r k = nI t
  | 0, k, h1, h2 => by omega
  | r + 1, k, h1, h2 => by
    rw [fstT]
    by_cases hc : k = t
    · rw [hc, if_pos h]
    · rw [if_neg (fun z => hc (hu k (by omega) z))]
      exact fst_uniq h hu ht r (k + 1) (by omega) (by omega)
theorem fst_none {P : Nat → Bool} {n : Nat} (hu : ∀ i, i < n → P i = false) : ∀ r k, r + k = n → fstT P r k = -5
  | 0, _, _ => rfl
  | r + 1, k, h1 => by
    rw [fstT, hu k (by omega), if_neg (by decide)]
    exact fst_none hu r (k + 1) (by omega)
theorem sub_toInt2 {b : Nat} {w : Int32} (hb : b ≤ 24) (hw : 0 ≤ w) : (nI b - 1 - w).toInt = (b : Int) - 1 - w.toInt := by
  have h1 : (nI b - 1).toInt = (b : Int) - 1 := pk_sub_toInt (a := b) (b := 1) (by omega) (by decide)
  have h2 : 0 ≤ w.toInt := by
    have h3 := Int32.le_iff_toInt_le.mp hw
    simpa using h3
  have h4 := Int32.toInt_lt w
  rw [Int32.toInt_sub, h1]
  apply Int.bmod_eq_of_le <;> omega
theorem tag_in (h : Rep p nA nC n N H O I F) {a w : Nat} (ha : a < nA) (hw : w < tagsC I p n (nI a)) : tagC I p n (nI a) (nI w) = N (44 + 24 * a + tagsC I p n (nI a) - 1 - w) := by
  have h8 : nA ≤ 8 := h.1.2.2.1
  have hn4 : n ≤ 24 := h.1.2.2.2.2.2.2.2.2.1
  have hle : tagsC I p n (nI a) ≤ 24 := Nat.le_trans (cnt_le n) hn4
  obtain ⟨t, ht, d2, d3, d4⟩ := h.2.2.2.2.2.1 a ha (tagsC I p n (nI a) - 1 - w) (by omega)
  have uniq : ∀ i, i < n → I (p + 18 + i) 0 = nI a → hng I p i → I (p + 18 + i) 11 = nI (tagsC I p n (nI a) - 1 - w) → N (44 + 24 * a + (tagsC I p n (nI a) - 1 - w)) = nI i := by
    intro i hi e0 e1 e2
    obtain ⟨c1, c2, c3, c4, c5, c6, a', ha', c7, c8⟩ := h.2.2.2.2.1 i hi
    have ea : a' = a := (nI_eq (by omega) (by omega)).mp (c7.symm.trans ((c1 0 (by decide)).symm.trans e0))
    subst ea
    obtain ⟨-, g, g1, g2, g3⟩ := c8 e1
    have eg : g = tagsC I p n (nI a') - 1 - w := (nI_eq (by omega) (by omega)).mp (g2.symm.trans e2)
    rw [← eg]
    exact g3
  have hx : (nI (tagsC I p n (nI a)) - 1 - nI w : Int32) = nI (tagsC I p n (nI a) - 1 - w) := by
    rw [show (nI (tagsC I p n (nI a)) - 1 : Int32) = nI (tagsC I p n (nI a) - 1) from pk_sub (a := tagsC I p n (nI a)) (b := 1) (by omega)]
    exact pk_sub (by omega)
  unfold tagC
  rw [hx, show 44 + 24 * a + tagsC I p n (nI a) - 1 - w = 44 + 24 * a + (tagsC I p n (nI a) - 1 - w) by omega, uniq t ht d2 d3 d4]
  refine fst_uniq ?_ (fun i hi hP => ?_) ht n 0 (by omega) (Nat.zero_le _)
  · unfold topP
    rw [d2, d4, decide_eq_true rfl, decide_eq_true (show 1 ≤ I (p + 18 + t) 7 ∧ I (p + 18 + t) 7 ≤ 3 from d3), decide_eq_true rfl]
    rfl
  · unfold topP at hP
    simp only [Bool.and_eq_true, decide_eq_true_eq] at hP
    have e1 := uniq i hi hP.1 hP.2.1 hP.2.2
    have e2 := uniq t ht d2 d3 d4
    exact (nI_eq (by omega) (by omega)).mp (e1.symm.trans e2)
theorem tag_out (h : Rep p nA nC n N H O I F) {a : Nat} {w : Int32} (ha : a < nA) (hw0 : 0 ≤ w) (hw : ¬ w < nI (tagsC I p n (nI a))) : tagC I p n (nI a) w = -5 := by
  have h8 : nA ≤ 8 := h.1.2.2.1
  have hn4 : n ≤ 24 := h.1.2.2.2.2.2.2.2.2.1
  have hle : tagsC I p n (nI a) ≤ 24 := Nat.le_trans (cnt_le n) hn4
  unfold tagC
  refine fst_none (n := n) (fun i hi => ?_) n 0 (by omega)
  rcases hP : topP I p (nI a) (nI (tagsC I p n (nI a)) - 1 - w) i with _ | _
  · rfl
  · exfalso
    unfold topP at hP
    simp only [Bool.and_eq_true, decide_eq_true_eq] at hP
    obtain ⟨e0, e1, e2⟩ := hP
    obtain ⟨c1, c2, c3, c4, c5, c6, a', ha', c7, c8⟩ := h.2.2.2.2.1 i hi
    have ea : a' = a := (nI_eq (by omega) (by omega)).mp (c7.symm.trans ((c1 0 (by decide)).symm.trans e0))
    subst ea
    obtain ⟨-, g, g1, g2, g3⟩ := c8 e1
    have e3 := congrArg Int32.toInt (g2.symm.trans e2)
    rw [sub_toInt2 hle hw0, nI_toInt (by omega)] at e3
    have e4 := mt Int32.lt_iff_toInt_lt.mpr hw
    rw [nI_toInt (by omega)] at e4
    omega
theorem top_eq (h : Rep p nA nC n N H O I F) {a : Nat} (ha : a < nA) : tagC I p n (nI a) 0 = mTop N a := by
  have hn4 : n ≤ 24 := h.1.2.2.2.2.2.2.2.2.1
  have hle : tagsC I p n (nI a) ≤ 24 := Nat.le_trans (cnt_le n) hn4
  have e := (h.2.2.1 a ha).2.2.2.2.2.2.2
  unfold mTop
  rw [e, nI_clamp (by omega)]
  rcases Nat.eq_zero_or_pos (tagsC I p n (nI a)) with h0 | h0
  · rw [if_pos (by rw [h0]; rfl)]
    exact tag_out h ha (by decide) (by rw [h0]; decide)
  · rw [if_neg (nI_ne0 h0 (by omega))]
    exact tag_in h ha (w := 0) h0
theorem at_eq (h : Rep p nA nC n N H O I F) {a f l : Int32} : atC I p n a f l = mAtC N n a f l := by
  unfold atC mAtC
  refine cnt_congr (fun t ht => ?_)
  have g := h.2.2.2.2.1 t ht
  rw [T7 g, Tj g (j := 0) (by decide)]
theorem done_eq (h : Rep p nA nC n N H O I F) {a : Int32} : ofC I p n a 4 4 = mDoneC N n a := by
  unfold ofC mDoneC
  refine cnt_congr (fun t ht => ?_)
  have g := h.2.2.2.2.1 t ht
  rw [T7 g, T8 g, Bool.and_comm, show decide ((4 : Int32) ≤ N (251 + 10 * t + 6) ∧ N (251 + 10 * t + 6) ≤ 4) = decide (N (251 + 10 * t + 6) = 4) from decide_eq_decide.mpr ⟨fun h => Int32.le_antisymm h.2 h.1, fun h => ⟨Int32.le_of_eq h.symm, Int32.le_of_eq h⟩⟩]
theorem in_eq (h : Rep p nA nC n N H O I F) {s : Int32} : inC I p n s s = mInC N n s := by
  unfold inC mInC
  refine cnt_congr (fun t ht => ?_)
  have g := h.2.2.2.2.1 t ht
  rw [T7 g, show decide (s ≤ N (251 + 10 * t + 6) ∧ N (251 + 10 * t + 6) ≤ s) = decide (N (251 + 10 * t + 6) = s) from decide_eq_decide.mpr ⟨fun h => Int32.le_antisymm h.2 h.1, fun h => ⟨Int32.le_of_eq h.symm, Int32.le_of_eq h⟩⟩]
theorem cnt_sum {P : Nat → Bool} : ∀ n, nI (cntT P n) = sumT (fun t => if P t = true then 1 else 0) n
  | 0 => rfl
  | n + 1 => by
    rw [sumT, ← cnt_sum n]
    rcases hP : P n with _ | _
    · rw [cnt_f hP, if_neg (by decide)]
      exact (Int32.add_zero _).symm
    · rw [cnt_t hP, if_pos rfl]
      exact nI_succ _
theorem of_eq (h : Rep p nA nC n N H O I F) {a : Int32} : nI (ofC I p n a 1 3) = sumT (mBusyF N a 0) n := by
  unfold ofC
  rw [cnt_sum]
  refine sum_congr (fun t ht => ?_)
  have g := h.2.2.2.2.1 t ht
  unfold mBusyF
  rw [T7 g, T8 g, Bool.and_comm]
  rfl
theorem slips_eq (h : Rep p nA nC n N H O I F) : slipsC I p n = mSlipsC N n := by
  unfold slipsC mSlipsC
  exact sum_congr (fun t ht => T10 (h.2.2.2.2.1 t ht))
theorem sum_zero : ∀ n, sumT (fun _ => 0) n = 0
  | 0 => rfl
  | n + 1 => by
    rw [sumT, sum_zero n]
    rfl
theorem sum_add {f g : Nat → Int32} : ∀ n, sumT (fun t => f t + g t) n = sumT f n + sumT g n
  | 0 => rfl
  | n + 1 => by
    rw [sumT, sumT, sumT, sum_add n, Int32.add_assoc, Int32.add_assoc, ← Int32.add_assoc (sumT g n), Int32.add_comm (sumT g n) (f n), Int32.add_assoc]
theorem sum_swap {f : Nat → Nat → Int32} {k : Nat} : ∀ n, sumT (fun c => sumT (f c) k) n = sumT (fun t => sumT (fun c => f c t) n) k
  | 0 => (sum_zero k).symm
  | n + 1 => by
    rw [sumT, sum_swap n, ← sum_add]
    exact sum_congr (fun t _ => rfl)
theorem sum_one {f : Nat → Int32} {c0 : Nat} : ∀ n, (∀ c, c < n → c ≠ c0 → f c = 0) → c0 < n → sumT f n = f c0
  | 0, _, hn => absurd hn (Nat.not_lt_zero _)
  | n + 1, h, hn => by
    rw [sumT]
    by_cases hc : n = c0
    · subst hc
      have e : sumT f n = 0 := by
        rw [sum_congr (g := fun _ => 0) (fun t ht => h t (by omega) (by omega)), sum_zero]
      rw [e]
      exact Int32.zero_add _
    · rw [sum_one n (fun c hc1 hc2 => h c (by omega) hc2) (by omega), h n (by omega) hc]
      exact Int32.add_zero _
theorem allBusy_eq (h : Rep p nA nC n N H O I F) : allBusyC I p n = mAllB N nC n := by
  have hC5 : nC ≤ 5 := h.1.2.2.2.2.2.1
  unfold allBusyC mAllB
  rw [sum_swap]
  refine sum_congr (fun t ht => ?_)
  have g := h.2.2.2.2.1 t ht
  rw [T7 g, Tj g (j := 2) (by decide)]
  by_cases hx : 1 ≤ N (251 + 10 * t + 6) ∧ N (251 + 10 * t + 6) ≤ 3
  · obtain ⟨c1, c2, c3, c4, c5, c6, a, ha, c7, c8⟩ := id g
    obtain ⟨⟨c0, d1, d2⟩, -⟩ := c8 (by unfold hng; rw [T7 g]; exact hx)
    rw [sum_one (c0 := c0) nC (fun c hc1 hc => ?_) d1]
    · simp only [mBusyF, d2, hx, and_self, decide_true, Bool.and_true, if_true]
      rfl
    · unfold mBusyF
      rw [d2, if_neg]
      intro z
      simp only [Bool.and_eq_true, decide_eq_true_eq] at z
      exact hc ((nI_eq (by omega) (by omega)).mp z.2).symm
  · rw [if_neg (by rw [decide_eq_false hx]; decide), sum_congr (g := fun _ => 0) (fun c _ => by unfold mBusyF; rw [decide_eq_false hx, Bool.false_and, if_neg (by decide)]), sum_zero]
theorem tagsum_eq (h : Rep p nA nC n N H O I F) : nI (inC I p n 1 3) = mTagsC N nA := by
  have h8 : nA ≤ 8 := h.1.2.2.1
  unfold inC mTagsC
  rw [cnt_sum, sum_congr (f := fun a => N (4 + 5 * a + 4)) (g := fun a => sumT (fun t => if (decide (I (p + 18 + t) 0 = nI a) && decide (1 ≤ I (p + 18 + t) 7 ∧ I (p + 18 + t) 7 ≤ 3)) = true then 1 else 0) n) (fun a ha => by
    rw [(h.2.2.1 a ha).2.2.2.2.2.2.2, tagsC, cnt_sum]), sum_swap]
  refine sum_congr (fun t ht => ?_)
  obtain ⟨a, k, ha, -, -, -, -, -, e0, -⟩ := atk h ht
  by_cases hx : 1 ≤ I (p + 18 + t) 7 ∧ I (p + 18 + t) 7 ≤ 3
  · rw [if_pos (decide_eq_true hx), sum_one (c0 := a) nA (fun c hc1 hc => ?_) ha]
    · rw [e0, decide_eq_true rfl, decide_eq_true hx, if_pos (by rfl)]
    · rw [if_neg]
      intro z
      simp only [Bool.and_eq_true, decide_eq_true_eq] at z
      rw [e0] at z
      exact hc ((nI_eq (by omega) (by omega)).mp z.1).symm
  · rw [if_neg (by rw [decide_eq_false hx]; decide), sum_congr (g := fun _ => 0) (fun c _ => by rw [decide_eq_false hx, Bool.and_false, if_neg (by decide)]), sum_zero]
theorem real_eq (h : Rep p nA nC n N H O I F) {a w : Int32} : realV F I p a w = mRealV N H O a w := by
  have h8 : nA ≤ 8 := h.1.2.2.1
  unfold realV mRealV
  rw [h.1.1, h.1.2.1]
  by_cases hc : 0 ≤ a ∧ a < nI nA
  · obtain ⟨i, hi, rfl⟩ := has_nat (decide_eq_true hc) rfl (by omega)
    obtain ⟨c1, c2, c3, c4, -⟩ := h.2.2.1 i hi
    rw [if_pos hc, nI_clamp (show i < 2 ^ 31 by omega), c2, c3, c4]
    rcases sw_cases w 2 (by decide) with ⟨k, hk, rfl⟩ | hout
    · rcases (show k = 0 ∨ k = 1 ∨ k = 2 by omega) with rfl | rfl | rfl
      · rw [if_pos ⟨hc, by decide⟩]
        rfl
      · rw [if_pos ⟨hc, by decide⟩, if_neg (by decide)]
        rfl
      · rw [if_pos ⟨hc, by decide⟩, if_neg (by decide), if_neg (by decide)]
        rfl
    · rw [swV_out hout (Nat.le_of_ble_eq_true rfl), if_neg]
      intro z
      have z1 := Int32.le_iff_toInt_le.mp z.2.1
      have z2 := Int32.le_iff_toInt_le.mp z.2.2
      have e1 : (0 : Int32).toInt = 0 := by decide
      have e2 : (2 : Int32).toInt = 2 := by decide
      rw [e1] at z1
      rw [e2] at z2
      omega
  · rw [if_neg hc, if_neg (fun z => hc z.1)]
theorem healthIn_eq (h : Rep p nA nC n N H O I F) {a w : Int32} : healthInV F I p a w = mHealthInV N H a w := by
  have h8 : nA ≤ 8 := h.1.2.2.1
  unfold healthInV mHealthInV
  rw [h.1.1, h.1.2.1]
  by_cases hc : (0 ≤ a ∧ a < nI nA) ∧ (0 ≤ w ∧ w ≤ 200)
  · obtain ⟨i, hi, rfl⟩ := has_nat (decide_eq_true hc.1) rfl (by omega)
    obtain ⟨c1, c2, c3, c4, -⟩ := h.2.2.1 i hi
    rw [if_pos hc, if_pos hc, nI_clamp (show i < 2 ^ 31 by omega), c2, c3]
  · rw [if_neg hc, if_neg hc]
theorem hoursTo_eq (h : Rep p nA nC n N H O I F) {a w : Int32} : hoursToV F I p a w = mHoursToV N H a w := by
  have h8 : nA ≤ 8 := h.1.2.2.1
  unfold hoursToV mHoursToV
  rw [h.1.1, h.1.2.1]
  by_cases hc : 0 ≤ a ∧ a < nI nA
  · obtain ⟨i, hi, rfl⟩ := has_nat (decide_eq_true hc) rfl (by omega)
    obtain ⟨c1, c2, c3, c4, -⟩ := h.2.2.1 i hi
    rw [if_pos hc, if_pos hc, nI_clamp (show i < 2 ^ 31 by omega), c2, c3]
  · rw [if_neg hc, if_neg hc]
theorem asset_eq (h : Rep p nA nC n N H O I F) {a w : Int32} : assetV I F p n a w = mAssetV N H O n a w := by
  have h8 : nA ≤ 8 := h.1.2.2.1
  unfold assetV mAssetV
  rw [h.1.1, h.1.2.1]
  by_cases hc : 0 ≤ a ∧ a < nI nA
  · obtain ⟨i, hi, rfl⟩ := has_nat (decide_eq_true hc) rfl (by omega)
    obtain ⟨c1, c2, c3, c4, c5, c6, c7, c8⟩ := h.2.2.1 i hi
    have hb := h.2.2.2.2.2.2 i (by omega)
    have e0 : (if I (p + 5 + i) 4 = 0 then (0 : Int32) else 1) = N (4 + 5 * i + 2) := by
      rw [c5] at hb ⊢
      rcases hb with hb | hb <;> rw [hb] <;> rfl
    rw [if_pos hc, if_pos hc, nI_clamp (show i < 2 ^ 31 by omega), e0, c8, top_eq h hi, c6, at_eq h, at_eq h, c3, c4]
  · rw [if_neg hc, if_neg hc]
theorem tagAt_eq (h : Rep p nA nC n N H O I F) {a w : Int32} : tagAtV I p n a w = mTagAtV N a w := by
  have h8 : nA ≤ 8 := h.1.2.2.1
  have hn4 : n ≤ 24 := h.1.2.2.2.2.2.2.2.2.1
  unfold tagAtV mTagAtV
  rw [h.1.1, h.1.2.1]
  by_cases hc : 0 ≤ a ∧ a < nI nA
  · obtain ⟨i, hi, rfl⟩ := has_nat (decide_eq_true hc) rfl (by omega)
    have c8 := (h.2.2.1 i hi).2.2.2.2.2.2.2
    have hle : tagsC I p n (nI i) ≤ 24 := Nat.le_trans (cnt_le n) hn4
    rw [if_pos hc, if_pos hc, nI_clamp (show i < 2 ^ 31 by omega), c8]
    by_cases hw : 0 ≤ w
    · rw [if_pos hw, if_pos hw]
      by_cases hw2 : w < nI (tagsC I p n (nI i))
      · rw [if_pos hw2]
        obtain ⟨d, hd, rfl⟩ := has_nat (decide_eq_true ⟨hw, hw2⟩) rfl (by omega)
        rw [nI_clamp (show d < 2 ^ 31 by omega), nI_clamp (show tagsC I p n (nI i) < 2 ^ 31 by omega)]
        exact tag_in h hi hd
      · rw [if_neg hw2]
        exact tag_out h hi hw hw2
    · rw [if_neg hw, if_neg hw]
  · rw [if_neg hc, if_neg hc]
theorem crew_eq (h : Rep p nA nC n N H O I F) {a w : Int32} : crewV I p n a w = mCrewV N n a w := by
  have hC5 : nC ≤ 5 := h.1.2.2.2.2.2.1
  unfold crewV mCrewV
  rw [h.1.2.2.2.1, h.1.2.2.2.2.1]
  by_cases hc : 0 ≤ a ∧ a < nI nC
  · rw [if_pos hc, if_pos hc]
    obtain ⟨i, hi, rfl⟩ := has_nat (decide_eq_true hc) rfl (by omega)
    obtain ⟨e1, e2⟩ := h.2.2.2.1 i hi
    rw [nI_clamp (show i < 2 ^ 31 by omega), e1, e2, busy_eq h, of_eq h, done_eq h]
    rfl
  · rw [if_neg hc, if_neg hc]
theorem task_eq (h : Rep p nA nC n N H O I F) {a w : Int32} : taskV I p n a w = mTaskV N n a w := by
  have hn4 : n ≤ 24 := h.1.2.2.2.2.2.2.2.2.1
  have h8 : nA ≤ 8 := h.1.2.2.1
  unfold taskV mTaskV
  rw [h.1.2.2.2.2.2.2.1, h.1.2.2.2.2.2.2.2.1]
  by_cases hc : 0 ≤ a ∧ a < nI n
  · rw [if_pos hc, if_pos hc]
    obtain ⟨i, hi, rfl⟩ := has_nat (decide_eq_true hc) rfl (by omega)
    have g := h.2.2.2.2.1 i hi
    obtain ⟨a, k, ha, hk, e0, e3, eA, eK, f0, f3⟩ := atk h hi
    rw [nI_clamp (show i < 2 ^ 31 by omega), eA, eK, f0, f3, nI_clamp (show a < 2 ^ 31 by omega), nI_clamp (show k < 2 ^ 31 by omega), reas_eq h hk ha hi, barr_eq h hk ha hi, T7 g, T8 g, T9 g, T10 g, g.2.1, Tj g (j := 1) (by decide), Tj g (j := 2) (by decide), Tj g (j := 4) (by decide), Tj g (j := 5) (by decide), e0, e3]
  · rw [if_neg hc, if_neg hc]
theorem crewFor_eq (h : Rep p nA nC n N H O I F) {a : Int32} : crewForV I p nC n a = mCrewForV N nC n a := by
  have hn4 : n ≤ 24 := h.1.2.2.2.2.2.2.2.2.1
  unfold crewForV mCrewForV
  rw [h.1.2.2.2.2.2.2.1, h.1.2.2.2.2.2.2.2.1]
  by_cases hc : 0 ≤ a ∧ a < nI n
  · rw [if_pos hc, if_pos hc]
    obtain ⟨i, hi, rfl⟩ := has_nat (decide_eq_true hc) rfl (by omega)
    have g := h.2.2.2.2.1 i hi
    rw [nI_clamp (show i < 2 ^ 31 by omega), crewC, T7 g]
    by_cases h0 : N (251 + 10 * i + 6) = 0
    · rw [if_pos h0]
      exact fst_congr (n := nC) (fun c hc => by rw [serve_eq h hc hi, mCrewP, decide_eq_true h0, Bool.true_and]) nC 0 (by omega)
    · rw [if_neg h0]
      exact (fst_none (n := nC) (fun c _ => by rw [mCrewP, decide_eq_false h0, Bool.false_and]) nC 0 (by omega)).symm
  · rw [if_neg hc, if_neg hc]
end
theorem count_eq {x m nA nC n : Nat} {N : Nat → Int32} {H O : Nat → UInt32} {I : pI} {F : pF} {s l w : Int32} (h : Rep (x + 1) nA nC n N H O I F) (h1 : I (x + 127) 2 = s) (h2 : I (x + 297) 1 = l) : countV I x nA n w = mCountV N nA nC n s l w := by
  obtain ⟨hh, -, e1, e2⟩ := h.1.2.2.2.2.2.2.2.2.2
  unfold countV mCountV
  rw [h1, h2, e1, e2, h.1.1, h.1.2.1, runs_eq h, h.1.2.2.2.1, h.1.2.2.2.2.1, h.1.2.2.2.2.2.2.1, h.1.2.2.2.2.2.2.2.1, in_eq h, tagsum_eq h, slips_eq h, allBusy_eq h]
