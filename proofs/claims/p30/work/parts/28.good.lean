/-! A GOOD PLANT: what holds of a plant between two calls -/
def sumN (f : Nat → Nat) : Nat → Nat
  | 0 => 0
  | n + 1 => sumN f n + f n
def hgB (I : pI) (p t : Nat) : Bool := decide (1 ≤ I (p + 18 + t) 7 ∧ I (p + 18 + t) 7 ≤ 3)
def bzB (I : pI) (p c t : Nat) : Bool := decide (I (p + 18 + t) 8 = nI c) && hgB I p t
def busyN (I : pI) (p n c : Nat) : Nat := sumN (fun t => if bzB I p c t = true then (I (p + 18 + t) 2).toNatClampNeg else 0) n
def slS (I : pI) (p n : Nat) : Nat := sumN (fun t => (I (p + 18 + t) 10).toNatClampNeg) n
def Tk (h b nA nC : Nat) (S T : Nat → Int32) : Prop :=
  ∃ a s q k hh fr sl st : Nat, (a < nA ∧ s < 4 ∧ (1 ≤ q ∧ q ≤ 6) ∧ k < 5 ∧ (1 ≤ hh ∧ hh ≤ 48) ∧ fr ≤ 2000 + 24 * sl ∧ sl ≤ b ∧ st < 7) ∧
   (T 0 = nI a ∧ T 1 = nI s ∧ T 2 = nI q ∧ T 3 = nI k ∧ T 4 = nI hh ∧ T 5 = nI fr ∧ T 6 = nI (fr + 2 * hh + 6) ∧ T 7 = nI st ∧ T 10 = nI sl) ∧
   (st = 5 → 3 ≤ sl) ∧ (st = 2 → ∃ l, (1 ≤ l ∧ l ≤ 48) ∧ T 9 = nI l ∧ h + l ≤ fr + 2 * hh + 6 ∧ fr + hh ≤ h + l) ∧
   (1 ≤ st → st ≤ 4 → ∃ c, c < nC ∧ T 8 = nI c ∧ (S c >>> (T 1 &&& 31)) &&& 1 = 1) ∧ (st = 0 ∨ 5 ≤ st → T 8 = -5) ∧
   (1 ≤ st → st ≤ 3 → ∃ ht, ht < 24 ∧ T 11 = nI ht)
def FA (p a : Nat) (I : pI) (F : pF) : Prop := (∃ r, r ≤ 100 ∧ I (p + 5 + a) 0 = nI r) ∧ WOK (F (p + 5 + a) 1) ∧ HOK (F (p + 5 + a) 2) ∧ OOK (F (p + 5 + a) 3)
def G1 (p : Nat) (I : pI) (nA nC n h : Nat) : Prop := I p 4 = nI nA ∧ nA ≤ 8 ∧ I p 5 = nI nC ∧ nC ≤ 5 ∧ I p 6 = nI n ∧ n ≤ 24 ∧ I p 7 = nI h ∧ h ≤ 2000
def G2 (p : Nat) (I : pI) (h b nA nC n : Nat) : Prop := ∀ t, t < n → Tk h b nA nC (fun c => I (p + 13 + c) 1) (I (p + 18 + t))
def G5 (p : Nat) (I : pI) (nA n : Nat) : Prop := ∀ a, a < nA → ¬ I (p + 5 + a) 4 = 0 → tagsC I p n (nI a) = 0
def G6 (p : Nat) (I : pI) (nA n : Nat) : Prop := ∀ a v, a < nA → v < tagsC I p n (nI a) → ∃ t, t < n ∧ hgB I p t = true ∧ I (p + 18 + t) 0 = nI a ∧ I (p + 18 + t) 11 = nI v
def G7 (p : Nat) (I : pI) (nC n : Nat) : Prop := ∀ c, c < nC → ∃ m, m ≤ 6 ∧ I (p + 13 + c) 0 = nI m ∧ busyN I p n c ≤ m
def Gd (p : Nat) (I : pI) (F : pF) (nA nC n h : Nat) : Prop := G1 p I nA nC n h ∧ G2 p I h h nA nC n ∧ RepB p I ∧ (∀ a, a < nA → FA p a I F) ∧ G5 p I nA n ∧ G6 p I nA n ∧ G7 p I nC n
section GD
variable {p q r x n nA nC h b t0 : Nat} {I I' : pI} {F F' : pF} {S S' T T' : Nat → Int32}
theorem sumN_c {f g : Nat → Nat} : ∀ {n : Nat}, (∀ t, t < n → f t = g t) → sumN f n = sumN g n
  | 0, _ => rfl
  | n + 1, h => by rw [sumN, sumN, sumN_c (fun t ht => h t (by omega)), h n (by omega)]
theorem sumN_le {f g : Nat → Nat} : ∀ {n : Nat}, (∀ t, t < n → f t ≤ g t) → sumN f n ≤ sumN g n
  | 0, _ => Nat.le_refl _
  | n + 1, h => by
    have h1 := sumN_le (n := n) (fun t ht => h t (by omega))
    have h2 := h n (by omega)
    rw [sumN, sumN]
    omega
theorem sumN_b {f : Nat → Nat} {m : Nat} : ∀ {n : Nat}, (∀ t, t < n → f t ≤ m) → sumN f n ≤ n * m
  | 0, _ => by rw [sumN]; omega
  | n + 1, h => by
    have h1 := sumN_b (n := n) (fun t ht => h t (by omega))
    have h2 := h n (by omega)
    rw [sumN, Nat.succ_mul]
    omega
theorem cnt_le {P : Nat → Bool} : ∀ n, cntT P n ≤ n
  | 0 => Nat.le_refl _
  | n + 1 => by
    have := cnt_le (P := P) n
    rw [cntT]
    split <;> omega
theorem cnt_flip {P Q : Nat → Bool} : ∀ {n : Nat}, t0 < n → (∀ t, t < n → t ≠ t0 → P t = Q t) → P t0 = true → Q t0 = false → cntT P n = cntT Q n + 1
  | n + 1, ht, h, hP, hQ => by
    rw [cntT, cntT]
    by_cases e : t0 = n
    · subst e
      rw [cnt_c (P := P) (Q := Q) (fun t h1 => h t (by omega) (by omega)), hP, hQ]
      rfl
    · rw [cnt_flip (n := n) (by omega) (fun t h1 h2 => h t (by omega) h2) hP hQ, h n (by omega) (by omega)]
      omega
theorem sumN_flip {f g : Nat → Nat} {d : Nat} : ∀ {n : Nat}, t0 < n → (∀ t, t < n → t ≠ t0 → f t = g t) → f t0 = g t0 + d → sumN f n = sumN g n + d
  | n + 1, ht, h, hf => by
    rw [sumN, sumN]
    by_cases e : t0 = n
    · subst e
      rw [sumN_c (f := f) (g := g) (fun t h1 => h t (by omega) (by omega)), hf]
      omega
    · rw [sumN_flip (n := n) (by omega) (fun t h1 h2 => h t (by omega) h2) hf, h n (by omega) (by omega)]
      omega
theorem cnt_pos {P : Nat → Bool} : ∀ {n : Nat}, t0 < n → P t0 = true → 1 ≤ cntT P n
  | n + 1, ht, hP => by
    rw [cntT]
    by_cases e : t0 = n
    · subst e
      rw [hP]
      simp
    · have := cnt_pos (n := n) (P := P) (by omega) hP
      omega
theorem cnt_zero {P : Nat → Bool} : ∀ {n : Nat}, (∀ t, t < n → P t = false) → cntT P n = 0
  | 0, _ => rfl
  | n + 1, h => by rw [cntT, cnt_zero (fun t ht => h t (by omega)), h n (by omega)]; rfl
theorem cnt_none {P : Nat → Bool} {n : Nat} (h : cntT P n = 0) {t : Nat} (ht : t < n) : P t = false := by
  cases e : P t with
  | false => rfl
  | true => have := cnt_pos ht e; omega
theorem fst_hit {P : Nat → Bool} {j : Nat} : ∀ {m k : Nat}, k + m < 2 ^ 31 → j < 2 ^ 31 → fstT P m k = nI j → k ≤ j ∧ j < k + m ∧ P j = true
  | 0, k, h1, h2, h => by
    rw [fstT] at h
    have h3 := nI_pos (n := j) h2
    rw [← h] at h3
    exact absurd (by decide) h3
  | m + 1, k, h1, h2, h => by
    rw [fstT] at h
    cases hP : P k with
    | true =>
      rw [hP, if_pos rfl] at h
      have := (nI_eq (by omega) h2).mp h
      subst this
      exact ⟨Nat.le_refl _, by omega, hP⟩
    | false =>
      rw [hP, if_neg (by decide)] at h
      obtain ⟨a, b, c⟩ := fst_hit (m := m) (k := k + 1) (by omega) h2 h
      exact ⟨by omega, by omega, c⟩
theorem fst_none {P : Nat → Bool} : ∀ {m k : Nat}, (∀ t, k ≤ t → t < k + m → P t = false) → fstT P m k = -5
  | 0, _, _ => rfl
  | m + 1, k, h => by
    rw [fstT, h k (Nat.le_refl _) (by omega), if_neg (by decide)]
    exact fst_none (fun t h1 h2 => h t (by omega) (by omega))
theorem fst_some {P : Nat → Bool} {j : Nat} : ∀ {m k : Nat}, k ≤ j → j < k + m → P j = true → ∃ i, k ≤ i ∧ i < k + m ∧ P i = true ∧ fstT P m k = nI i
  | 0, k, h1, h2, _ => by omega
  | m + 1, k, h1, h2, h => by
    cases hP : P k with
    | true => exact ⟨k, Nat.le_refl _, by omega, hP, by rw [fstT, hP, if_pos rfl]⟩
    | false =>
      have hne : j ≠ k := fun e => by rw [e, hP] at h; cases h
      obtain ⟨i, a, b, c, d⟩ := fst_some (m := m) (k := k + 1) (j := j) (by omega) (by omega) h
      exact ⟨i, by omega, by omega, c, by rw [fstT, hP, if_neg (by decide)]; exact d⟩
theorem hg_of {t st : Nat} (h : I (p + 18 + t) 7 = nI st) (h2 : st < 7) : hgB I p t = decide (1 ≤ st ∧ st ≤ 3) := by
  unfold hgB
  rw [h]
  have e1 : (1 : Int32) ≤ nI st ↔ 1 ≤ st := nI_leI (a := 1) (by decide) (by omega)
  have e2 : nI st ≤ (3 : Int32) ↔ st ≤ 3 := nI_leI (b := 3) (by omega) (by decide)
  simp only [e1, e2]
theorem tags_le {a : Int32} : tagsC I p n a ≤ n := cnt_le _
theorem tags_eq {a : Int32} (h : ∀ t, t < n → I' (p + 18 + t) 0 = I (p + 18 + t) 0 ∧ hgB I' p t = hgB I p t) : tagsC I' p n a = tagsC I p n a := cnt_c fun t ht => by
  have h2 := (h t ht).2
  unfold hgB at h2
  rw [(h t ht).1, h2]
theorem busy_eq {c : Nat} (h : ∀ t, t < n → I' (p + 18 + t) 2 = I (p + 18 + t) 2 ∧ hgB I' p t = hgB I p t ∧ (hgB I p t = true → I' (p + 18 + t) 8 = I (p + 18 + t) 8)) : busyN I' p n c = busyN I p n c := sumN_c fun t ht => by
  obtain ⟨h1, h2, h3⟩ := h t ht
  have e : bzB I' p c t = bzB I p c t := by
    unfold bzB
    rw [h2]
    cases e : hgB I p t with
    | false => simp
    | true => rw [h3 e]
  rw [e, h1]
theorem busyC_N {c : Nat} : ∀ {n : Nat}, (∀ t, t < n → ∃ q, q ≤ 6 ∧ I (p + 18 + t) 2 = nI q) → busyC I p n (nI c) = nI (busyN I p n c)
  | 0, _ => rfl
  | n + 1, h => by
    have ih := busyC_N (c := c) (n := n) (fun t ht => h t (by omega))
    obtain ⟨q, hq, eq⟩ := h n (by omega)
    have e1 : busyC I p (n + 1) (nI c) = busyC I p n (nI c) + (if bzB I p c n = true then I (p + 18 + n) 2 else 0) := rfl
    have e2 : busyN I p (n + 1) c = busyN I p n c + (if bzB I p c n = true then (I (p + 18 + n) 2).toNatClampNeg else 0) := rfl
    rw [e1, e2, ih]
    by_cases hb : bzB I p c n = true
    · rw [if_pos hb, if_pos hb, eq, nI_clamp (by omega), nI_add]
    · rw [if_neg hb, if_neg hb]
      exact Int32.add_zero _
theorem slipsC_N : ∀ {n : Nat}, (∀ t, t < n → ∃ q, q < 2 ^ 31 ∧ I (p + 18 + t) 10 = nI q) → slipsC I p n = nI (slS I p n)
  | 0, _ => rfl
  | n + 1, h => by
    have ih := slipsC_N (n := n) (fun t ht => h t (by omega))
    obtain ⟨q, hq, eq⟩ := h n (by omega)
    have e1 : slipsC I p (n + 1) = slipsC I p n + I (p + 18 + n) 10 := rfl
    have e2 : slS I p (n + 1) = slS I p n + (I (p + 18 + n) 10).toNatClampNeg := rfl
    rw [e1, e2, ih, eq, nI_clamp hq, nI_add]
theorem Tk_cg (hT : ∀ j, j < 12 → T' j = T j) (hS : ∀ c, c < nC → S' c = S c) (h : Tk x b nA nC S T) : Tk x b nA nC S' T' := by
  obtain ⟨a, s, q, k, hh, fr, sl, st, z1, z2, z3, z4, z5, z6, z7⟩ := h
  refine ⟨a, s, q, k, hh, fr, sl, st, z1, ?_, z3, fun e => ?_, fun e1 e2 => ?_, fun e => ?_, fun e1 e2 => ?_⟩
  · rw [hT 0 (by decide), hT 1 (by decide), hT 2 (by decide), hT 3 (by decide), hT 4 (by decide), hT 5 (by decide), hT 6 (by decide), hT 7 (by decide), hT 10 (by decide)]
    exact z2
  · rw [hT 9 (by decide)]; exact z4 e
  · obtain ⟨c, hc, e3, e4⟩ := z5 e1 e2
    exact ⟨c, hc, by rw [hT 8 (by decide)]; exact e3, by rw [hT 1 (by decide), hS c hc]; exact e4⟩
  · rw [hT 8 (by decide)]; exact z6 e
  · rw [hT 11 (by decide)]; exact z7 e1 e2
theorem Tk_mono {nA' nC' : Nat} (h1 : nA ≤ nA') (h2 : nC ≤ nC') (h : Tk x b nA nC S T) : Tk x b nA' nC' S T := by
  obtain ⟨a, s, q, k, hh, fr, sl, st, ⟨y1, y2⟩, z2, z3, z4, z5, z6, z7⟩ := h
  exact ⟨a, s, q, k, hh, fr, sl, st, ⟨by omega, y2⟩, z2, z3, z4, fun e1 e2 => by obtain ⟨c, hc, e3⟩ := z5 e1 e2; exact ⟨c, by omega, e3⟩, z6, z7⟩
theorem G2_W (h : G2 p I x b nA nC n) : ∀ t, t < n → ∃ a, a < nA ∧ I (p + 18 + t) 0 = nI a := fun t ht => by
  obtain ⟨a, s, q, k, hh, fr, sl, st, z1, z2, -⟩ := h t ht
  exact ⟨a, z1.1, z2.1⟩
theorem G2_K (h : G2 p I x b nA nC n) : ∀ t, t < n → ∃ k, k < 5 ∧ I (p + 18 + t) 3 = nI k := fun t ht => by
  obtain ⟨a, s, q, k, hh, fr, sl, st, z1, z2, -⟩ := h t ht
  exact ⟨k, z1.2.2.2.1, z2.2.2.2.1⟩
theorem G2_Q (h : G2 p I x b nA nC n) : ∀ t, t < n → ∃ q, q ≤ 6 ∧ I (p + 18 + t) 2 = nI q := fun t ht => by
  obtain ⟨a, s, q, k, hh, fr, sl, st, z1, z2, -⟩ := h t ht
  exact ⟨q, z1.2.2.1.2, z2.2.2.1⟩
theorem G2_S (h : G2 p I x b nA nC n) : ∀ t, t < n → ∃ q, q ≤ b ∧ I (p + 18 + t) 10 = nI q := fun t ht => by
  obtain ⟨a, s, q, k, hh, fr, sl, st, z1, z2, -⟩ := h t ht
  exact ⟨sl, z1.2.2.2.2.2.2.1, z2.2.2.2.2.2.2.2.2⟩
theorem G2_st (h : G2 p I x b nA nC n) : ∀ t, t < n → ∃ st, st < 7 ∧ I (p + 18 + t) 7 = nI st := fun t ht => by
  obtain ⟨a, s, q, k, hh, fr, sl, st, z1, z2, -⟩ := h t ht
  exact ⟨st, z1.2.2.2.2.2.2.2, z2.2.2.2.2.2.2.2.1⟩
theorem Gd_W8 (h : Gd p I F nA nC n x) : ∀ t, t < n → ∃ a, a < 8 ∧ I (p + 18 + t) 0 = nI a := fun t ht => by
  obtain ⟨a, ha, e⟩ := G2_W h.2.1 t ht
  exact ⟨a, by have := h.1.2.1; omega, e⟩
theorem hgB_cg (h : qI p r I I') {t : Nat} (ht : t < 24) : hgB I' p t = hgB I r t := by
  unfold hgB
  rw [eT h ht (by decide)]
theorem busyN_cg (h : qI p r I I') (hn : n ≤ 24) {c : Nat} : busyN I' p n c = busyN I r n c := sumN_c fun t ht => by
  have e : bzB I' p c t = bzB I r c t := by
    unfold bzB
    rw [hgB_cg h (by omega), eT h (by omega) (by decide)]
  rw [e, eT h (by omega) (by decide)]
theorem slS_cg (h : qI p r I I') (hn : n ≤ 24) : slS I' p n = slS I r n := sumN_c fun t ht => by
  rw [eT h (by omega) (by decide)]
theorem Gd_cg (h : pE p r I F I' F') (g : Gd r I F nA nC n x) : Gd p I' F' nA nC n x := by
  obtain ⟨⟨a1, a2, a3, a4, a5, a6, a7, a8⟩, g2, g3, g4, g5, g6, g7⟩ := g
  have hI := h.1
  refine ⟨⟨?_, a2, ?_, a4, ?_, a6, ?_, a8⟩, fun t ht => ?_, fun a ha => ?_, fun a ha => ?_, fun a ha hr => ?_, fun a v ha hv => ?_, fun c hc => ?_⟩
  · rw [e0 hI (by decide) (by decide)]; exact a1
  · rw [e0 hI (by decide) (by decide)]; exact a3
  · rw [e0 hI (by decide) (by decide)]; exact a5
  · rw [e0 hI (by decide) (by decide)]; exact a7
  · exact Tk_cg (fun j hj => eT hI (by omega) hj) (fun c hc => eC hI (by omega) (by decide)) (g2 t ht)
  · rw [eA hI ha (by decide)]; exact g3 a ha
  · obtain ⟨⟨q, hq, eq⟩, f1, f2, f3⟩ := g4 a ha
    refine ⟨⟨q, hq, ?_⟩, ?_, ?_, ?_⟩
    · rw [eA hI (by omega) (by decide)]; exact eq
    · rw [eG h.2 (by omega) (by decide)]; exact f1
    · rw [eG h.2 (by omega) (by decide)]; exact f2
    · rw [eG h.2 (by omega) (by decide)]; exact f3
  · rw [eA hI (by omega) (by decide)] at hr
    rw [cg_tags hI a6]
    exact g5 a ha hr
  · rw [cg_tags hI a6] at hv
    obtain ⟨t, ht, z1, z2, z3⟩ := g6 a v ha hv
    refine ⟨t, ht, ?_, ?_, ?_⟩
    · rw [hgB_cg hI (by omega)]; exact z1
    · rw [eT hI (by omega) (by decide)]; exact z2
    · rw [eT hI (by omega) (by decide)]; exact z3
  · obtain ⟨m, z1, z2, z3⟩ := g7 c hc
    exact ⟨m, z1, by rw [eC hI (by omega) (by decide)]; exact z2, by rw [busyN_cg hI a6]; exact z3⟩
end GD
