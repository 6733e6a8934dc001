/-! the acts look at a plant's relevant slots alone -/
def cgR (p : Nat) (X Y : Int32 × pI × pF) : Prop := Y.1 = X.1 ∧ pE p p X.2.1 X.2.2 Y.2.1 Y.2.2
section LA
variable {p q n nA nC : Nat} {I I' : pI} {F F' : pF}
theorem cg_countV {x k : Nat} (h : pE (x + 1) (x + 1) I F I' F') (hA : nA ≤ 8) (hn : n ≤ 24) (hk : k < 15) : countV I' x nA n (nI k) = countV I x nA n (nI k) := by
  unfold countV
  rw [swV_in (by show k < 17; omega) (by show 17 < 100; decide), swV_in (by show k < 17; omega) (by show 17 < 100; decide)]
  simp only [cg_runs h.1 hA, cg_in h.1 hn, cg_slips h.1 hn, cg_allBusy h.1 hn, e0 h.1 (show 4 ≤ 4 by decide) (show 4 < 8 by decide), e0 h.1 (show 4 ≤ 5 by decide) (show 5 < 8 by decide), e0 h.1 (show 4 ≤ 6 by decide) (show 6 < 8 by decide), e0 h.1 (show 4 ≤ 7 by decide) (show 7 < 8 by decide)]
  rcases (show k = 0 ∨ k = 1 ∨ k = 2 ∨ k = 3 ∨ k = 4 ∨ k = 5 ∨ k = 6 ∨ k = 7 ∨ k = 8 ∨ k = 9 ∨ k = 10 ∨ k = 11 ∨ k = 12 ∨ k = 13 ∨ k = 14 by omega) with rfl | rfl | rfl | rfl | rfl | rfl | rfl | rfl | rfl | rfl | rfl | rfl | rfl | rfl | rfl <;> rfl
theorem cg_newAsset (h : pE p p I F I' F') {r w : Int32} : cgR p (newAssetR I F p nA r w) (newAssetR I' F' p nA r w) := by
  unfold newAssetR
  by_cases c1 : (1 ≤ r ∧ r ≤ 100) ∧ (1 ≤ w ∧ w ≤ 200)
  · rw [if_pos c1, if_pos c1]
    by_cases c2 : nA < 8
    · rw [if_pos c2, if_pos c2]
      exact ⟨rfl, qI_up (qI_up (qI_up (qI_up h.1))), qF_up (qF_up (qF_up h.2))⟩
    · rw [if_neg c2, if_neg c2]; exact ⟨rfl, h⟩
  · rw [if_neg c1, if_neg c1]; exact ⟨rfl, h⟩
theorem cg_newCrew (h : pE p p I F I' F') {r w : Int32} : cgR p (newCrewR I F p nC r w) (newCrewR I' F' p nC r w) := by
  unfold newCrewR
  by_cases c1 : (1 ≤ r ∧ r ≤ 6) ∧ (0 ≤ w ∧ w ≤ 15)
  · rw [if_pos c1, if_pos c1]
    by_cases c2 : nC < 5
    · rw [if_pos c2, if_pos c2]
      exact ⟨rfl, qI_up (qI_up (qI_up h.1)), h.2⟩
    · rw [if_neg c2, if_neg c2]; exact ⟨rfl, h⟩
  · rw [if_neg c1, if_neg c1]; exact ⟨rfl, h⟩
theorem cg_link (h : pE p p I F I' F') (hA : I p 4 = nI nA) (hA8 : nA ≤ 8) {a o z : Int32} : cgR p (setLinkR I F p a o z) (setLinkR I' F' p a o z) := by
  unfold setLinkR
  rw [e0 h.1 (by decide) (by decide)]
  by_cases c1 : (0 ≤ a ∧ a < I p 4) ∧ (0 ≤ o ∧ o < I p 4)
  · have ha := tn_lt' c1.1 hA hA8 (by decide)
    have ho := tn_lt' c1.2 hA hA8 (by decide)
    rw [if_pos c1, if_pos c1]
    by_cases c2 : a = o
    · rw [if_pos c2, if_pos c2]; exact ⟨rfl, h⟩
    · rw [if_neg c2, if_neg c2]
      have el : linkB I' p a.toNatClampNeg o = linkB I p a.toNatClampNeg o := by
        unfold linkB
        rw [eA h.1 ha (by decide)]
      rw [el]
      by_cases c3 : bI (linkB I p a.toNatClampNeg o) = z
      · rw [if_pos c3, if_pos c3]; exact ⟨rfl, h⟩
      · rw [if_neg c3, if_neg c3, eA h.1 ha (by decide)]
        have g1 : qI p p (up2 I (p + 5 + a.toNatClampNeg) 5 (I (p + 5 + a.toNatClampNeg) 5 ^^^ (1 <<< (o &&& 31)))) (up2 I' (p + 5 + a.toNatClampNeg) 5 (I (p + 5 + a.toNatClampNeg) 5 ^^^ (1 <<< (o &&& 31)))) := qI_up h.1
        rw [eA g1 ho (by decide)]
        have g2 := qI_up (q := p + 5 + o.toNatClampNeg) (k := 5) (v := up2 I (p + 5 + a.toNatClampNeg) 5 (I (p + 5 + a.toNatClampNeg) 5 ^^^ (1 <<< (o &&& 31))) (p + 5 + o.toNatClampNeg) 5 ^^^ (1 <<< (a &&& 31))) g1
        refine ⟨?_, g2, h.2⟩
        show bitC _ = bitC _
        rw [eA g2 ha (by decide)]
  · rw [if_neg c1, if_neg c1]; exact ⟨rfl, h⟩
theorem cg_barI1 (h : qI p p I I') {k : Nat} {o : Int32} (hk : k < 5) : qI p p (barI1 I p k o) (barI1 I' p k o) := by
  unfold barI1
  rw [eB h hk]
  exact qI_up h
theorem cg_setBar (h : pE p p I F I' F') {a o z : Int32} : cgR p (setBarR I F p a o z) (setBarR I' F' p a o z) := by
  unfold setBarR
  by_cases c1 : (0 ≤ a ∧ a ≤ 4) ∧ (0 ≤ o ∧ o ≤ 4)
  · rw [if_pos c1, if_pos c1]
    have q4 : ∀ b : Int32, 0 ≤ b ∧ b ≤ 4 → b.toNatClampNeg < 5 := fun b hb => by
      obtain ⟨d, -, h2, rfl⟩ := win_nat (x := b) (lo := 0) (hi := 4) (decide_eq_true hb) (by decide) (by decide)
      rw [nI_clamp (by omega)]
      omega
    have ha := q4 a c1.1
    have ho := q4 o c1.2
    rw [cg_bar h.1 ha]
    by_cases c2 : bI (barB I p a.toNatClampNeg o) = z
    · rw [if_pos c2, if_pos c2]; exact ⟨rfl, h⟩
    · rw [if_neg c2, if_neg c2]
      have g : qI p p (barI2 I p a.toNatClampNeg o.toNatClampNeg) (barI2 I' p a.toNatClampNeg o.toNatClampNeg) := by
        unfold barI2
        by_cases c3 : nI a.toNatClampNeg = nI o.toNatClampNeg
        · rw [if_pos c3, if_pos c3]; exact cg_barI1 h.1 ha
        · rw [if_neg c3, if_neg c3]; exact cg_barI1 (cg_barI1 h.1 ha) ho
      refine ⟨?_, g, h.2⟩
      show bitC _ = bitC _
      rw [eB g ha]
  · rw [if_neg c1, if_neg c1]; exact ⟨rfl, h⟩
theorem cg_taskI (h : qI p p I I') {a b c d e f : Int32} : qI p p (taskI I q a b c d e f) (taskI I' q a b c d e f) := by
  unfold taskI
  exact qI_up (qI_up (qI_up (qI_up (qI_up (qI_up (qI_up (qI_up (qI_up (qI_up (qI_up (qI_up h)))))))))))
theorem cg_newTask (h : pE p p I F I' F') {a s c d e f : Int32} : cgR p (newTaskR I F p n a s c d e f) (newTaskR I' F' p n a s c d e f) := by
  unfold newTaskR
  rw [e0 h.1 (by decide) (by decide), e0 h.1 (by decide) (by decide)]
  by_cases c1 : 0 ≤ a ∧ a < I p 4
  · rw [if_pos c1, if_pos c1]
    by_cases c2 : (0 ≤ s ∧ s ≤ 3) ∧ (1 ≤ c ∧ c ≤ 6) ∧ (0 ≤ d ∧ d ≤ 4) ∧ (1 ≤ e ∧ e ≤ 48) ∧ (I p 7 ≤ f ∧ f ≤ 2000)
    · rw [if_pos c2, if_pos c2]
      by_cases c3 : n < 24
      · rw [if_pos c3, if_pos c3]; exact ⟨rfl, qI_up (cg_taskI h.1), h.2⟩
      · rw [if_neg c3, if_neg c3]; exact ⟨rfl, h⟩
    · rw [if_neg c2, if_neg c2]; exact ⟨rfl, h⟩
  · rw [if_neg c1, if_neg c1]; exact ⟨rfl, h⟩
theorem cg_start (h : pE p p I F I' F') (hA : I p 4 = nI nA) (hA8 : nA ≤ 8) (hn : n ≤ 24) {a : Int32} : cgR p (startR I F p nA n a) (startR I' F' p nA n a) := by
  unfold startR
  rw [e0 h.1 (by decide) (by decide), cg_tags h.1 hn]
  by_cases c1 : 0 ≤ a ∧ a < I p 4
  · have ha := tn_lt' c1 hA hA8 (by decide)
    rw [if_pos c1, if_pos c1]
    by_cases c2 : nI (tagsC I p n a) ≤ 0
    · rw [if_pos c2, if_pos c2, eA h.1 ha (by decide)]
      by_cases c3 : I (p + 5 + a.toNatClampNeg) 4 = 0
      · rw [if_pos c3, if_pos c3]
        have g := qI_up (q := p + 5 + a.toNatClampNeg) (k := 4) (v := 1) h.1
        exact ⟨by show nI _ = nI _; rw [cg_runs g hA8], g, h.2⟩
      · rw [if_neg c3, if_neg c3]; exact ⟨rfl, h⟩
    · rw [if_neg c2, if_neg c2]; exact ⟨rfl, h⟩
  · rw [if_neg c1, if_neg c1]; exact ⟨rfl, h⟩
theorem cg_stop (h : pE p p I F I' F') (hA : I p 4 = nI nA) (hA8 : nA ≤ 8) {a : Int32} : cgR p (stopR I F p nA a) (stopR I' F' p nA a) := by
  unfold stopR
  rw [e0 h.1 (by decide) (by decide)]
  by_cases c1 : 0 ≤ a ∧ a < I p 4
  · have ha := tn_lt' c1 hA hA8 (by decide)
    rw [if_pos c1, if_pos c1, eA h.1 ha (by decide)]
    by_cases c3 : I (p + 5 + a.toNatClampNeg) 4 = 0
    · rw [if_pos c3, if_pos c3]; exact ⟨rfl, h⟩
    · rw [if_neg c3, if_neg c3]
      have g := qI_up (q := p + 5 + a.toNatClampNeg) (k := 4) (v := 0) h.1
      exact ⟨by show nI _ = nI _; rw [cg_runs g hA8], g, h.2⟩
  · rw [if_neg c1, if_neg c1]; exact ⟨rfl, h⟩
theorem cg_hang (h : pE p p I F I' F') (hn : I p 6 = nI n) (hn4 : n ≤ 24) (hC : I p 5 = nI nC) (hC5 : nC ≤ 5) (hW : ∀ t, t < n → ∃ a, a < 8 ∧ I (p + 18 + t) 0 = nI a) {a c : Int32} : cgR p (hangR I F p n a c) (hangR I' F' p n a c) := by
  unfold hangR
  rw [e0 h.1 (by decide) (by decide), e0 h.1 (by decide) (by decide)]
  by_cases c1 : (0 ≤ a ∧ a < I p 6) ∧ (0 ≤ c ∧ c < I p 5)
  · have ha' := tn_lt c1.1 hn (by omega)
    have ha : a.toNatClampNeg < 24 := by omega
    have hc := tn_lt' c1.2 hC hC5 (by decide)
    obtain ⟨b, hb, eb⟩ := hW _ ha'
    have cb : (I (p + 18 + a.toNatClampNeg) 0).toNatClampNeg < 8 := by rw [eb, nI_clamp (by omega)]; exact hb
    rw [if_pos c1, if_pos c1, eT h.1 ha (by decide), eT h.1 ha (by decide), eA h.1 cb (by decide), cg_serve h.1 hn4 hc ha, cg_tags h.1 hn4]
    by_cases c2 : I (p + 18 + a.toNatClampNeg) 7 = 0 ∧ I (p + 5 + (I (p + 18 + a.toNatClampNeg) 0).toNatClampNeg) 4 = 0 ∧ serveB I p n c.toNatClampNeg a.toNatClampNeg = true
    · rw [if_pos c2, if_pos c2]
      refine ⟨rfl, ?_, h.2⟩
      show qI p p (hangI I p n a.toNatClampNeg c) (hangI I' p n a.toNatClampNeg c)
      unfold hangI
      rw [eT h.1 ha (by decide), cg_tags h.1 hn4]
      exact qI_up (qI_up (qI_up h.1))
    · rw [if_neg c2, if_neg c2]; exact ⟨rfl, h⟩
  · rw [if_neg c1, if_neg c1]; exact ⟨rfl, h⟩
theorem cg_begin (h : pE p p I F I' F') (hn : I p 6 = nI n) (hn4 : n ≤ 24) (hW : ∀ t, t < n → ∃ a, a < 8 ∧ I (p + 18 + t) 0 = nI a) (hK : ∀ t, t < n → ∃ k, k < 5 ∧ I (p + 18 + t) 3 = nI k) {a : Int32} : cgR p (beginR I F p n a) (beginR I' F' p n a) := by
  unfold beginR
  rw [e0 h.1 (by decide) (by decide), e0 h.1 (by decide) (by decide)]
  by_cases c1 : 0 ≤ a ∧ a < I p 6
  · have ha' := tn_lt c1 hn (by omega)
    have ha : a.toNatClampNeg < 24 := by omega
    obtain ⟨b, hb, eb⟩ := hW _ ha'
    obtain ⟨k, hk, ek⟩ := hK _ ha'
    have cb : (I (p + 18 + a.toNatClampNeg) 0).toNatClampNeg < 8 := by rw [eb, nI_clamp (by omega)]; exact hb
    have ck : (I (p + 18 + a.toNatClampNeg) 3).toNatClampNeg < 5 := by rw [ek, nI_clamp (by omega)]; exact hk
    rw [if_pos c1, if_pos c1, eT h.1 ha (by decide), eT h.1 ha (by decide), eT h.1 ha (by decide), cg_reas h.1 hn4 ha ck cb]
    by_cases c2 : reasC I p n a.toNatClampNeg (I (p + 18 + a.toNatClampNeg) 3).toNatClampNeg (I (p + 18 + a.toNatClampNeg) 0).toNatClampNeg = 0
    · rw [if_pos c2, if_pos c2]; exact ⟨rfl, qI_up (qI_up h.1), h.2⟩
    · rw [if_neg c2, if_neg c2]; exact ⟨rfl, h⟩
  · rw [if_neg c1, if_neg c1]; exact ⟨rfl, h⟩
theorem cg_lift (h : pE p p I F I' F') (hn : I p 6 = nI n) (hn4 : n ≤ 24) {a c : Int32} : cgR p (liftR I F p n a c) (liftR I' F' p n a c) := by
  unfold liftR
  rw [e0 h.1 (by decide) (by decide), e0 h.1 (by decide) (by decide)]
  by_cases c1 : (0 ≤ a ∧ a < I p 6) ∧ (0 ≤ c ∧ c < I p 5)
  · have ha' := tn_lt c1.1 hn (by omega)
    have ha : a.toNatClampNeg < 24 := by omega
    rw [if_pos c1, if_pos c1, eT h.1 ha (by decide), eT h.1 ha (by decide), eT h.1 ha (by decide), cg_tag h.1 hn4]
    by_cases c2 : (I (p + 18 + a.toNatClampNeg) 7 = 1 ∨ I (p + 18 + a.toNatClampNeg) 7 = 3) ∧ I (p + 18 + a.toNatClampNeg) 8 = c ∧ tagC I p n (I (p + 18 + a.toNatClampNeg) 0) 0 = a
    · rw [if_pos c2, if_pos c2]
      have g : qI p p (liftI I p a.toNatClampNeg) (liftI I' p a.toNatClampNeg) := by
        unfold liftI
        rw [eT h.1 ha (by decide)]
        by_cases c3 : I (p + 18 + a.toNatClampNeg) 7 = 3
        · rw [if_pos c3, if_pos c3]; exact qI_up h.1
        · rw [if_neg c3, if_neg c3]; exact qI_up (qI_up h.1)
      exact ⟨by show nI _ = nI _; rw [cg_tags g hn4], g, h.2⟩
    · rw [if_neg c2, if_neg c2]; exact ⟨rfl, h⟩
  · rw [if_neg c1, if_neg c1]; exact ⟨rfl, h⟩
theorem cg_cancel (h : pE p p I F I' F') (hn : I p 6 = nI n) (hn4 : n ≤ 24) {a : Int32} : cgR p (cancelR I F p a) (cancelR I' F' p a) := by
  unfold cancelR
  rw [e0 h.1 (by decide) (by decide)]
  by_cases c1 : 0 ≤ a ∧ a < I p 6
  · have ha : a.toNatClampNeg < 24 := by have := tn_lt c1 hn (by omega); omega
    rw [if_pos c1, if_pos c1, eT h.1 ha (by decide), eT h.1 ha (by decide)]
    by_cases c2 : I (p + 18 + a.toNatClampNeg) 7 = 0
    · rw [if_pos c2, if_pos c2]; exact ⟨rfl, qI_up h.1, h.2⟩
    · rw [if_neg c2, if_neg c2]; exact ⟨rfl, h⟩
  · rw [if_neg c1, if_neg c1]; exact ⟨rfl, h⟩
/-! hours -/
theorem cg_runOne (h : qI p p I I') (g : qF p p F F') {a : Nat} (ha : a < 8) : qF p p (runOne I (p + 5 + a) F) (runOne I' (p + 5 + a) F') := by
  unfold runOne
  rw [eA h ha (by decide), eG g ha (by decide), eG g ha (by decide), eG g ha (by decide)]
  exact qF_up (qF_up g)
theorem cg_runAF (h : qI p p I I') (g : qF p p F F') : ∀ k, k ≤ 8 → qF p p (runAF I p k F) (runAF I' p k F')
  | 0, _ => g
  | k + 1, hk => by
    have ih := cg_runAF h g k (by omega)
    by_cases c : I (p + 5 + k) 4 = 0
    · rw [runAF_f c, runAF_f (by rw [eA h (by omega) (by decide)]; exact c)]
      exact ih
    · rw [runAF_t c, runAF_t (by rw [eA h (by omega) (by decide)]; exact c)]
      exact cg_runOne h ih (by omega)
theorem cg_mend (g : qF p p F F') {a : Nat} (ha : a < 8) : qF p p (mendF F (p + 5 + a)) (mendF F' (p + 5 + a)) := by
  unfold mendF
  rw [eG g ha (by decide)]
  exact qF_up g
theorem cg_wk1 {W W' : pI × pF × Nat} (h : qI p p W.1 W'.1) (g : qF p p W.2.1 W'.2.1) (hc : W'.2.2 = W.2.2) {k : Nat} (hk : k < 24) (hW : ∃ a, a < 8 ∧ W.1 (p + 18 + k) 0 = nI a) : qI p p (wk1 p k W).1 (wk1 p k W').1 ∧ qF p p (wk1 p k W).2.1 (wk1 p k W').2.1 ∧ (wk1 p k W').2.2 = (wk1 p k W).2.2 := by
  obtain ⟨b, hb, eb⟩ := hW
  have cb : (W.1 (p + 18 + k) 0).toNatClampNeg < 8 := by rw [eb, nI_clamp (by omega)]; exact hb
  unfold wk1
  rw [eT h hk (by decide), eT h hk (by decide), eT h hk (by decide), hc]
  by_cases c1 : W.1 (p + 18 + k) 7 = 2
  · rw [if_pos c1, if_pos c1]
    by_cases c2 : 0 < W.1 (p + 18 + k) 9 - 1
    · rw [if_pos c2, if_pos c2]; exact ⟨qI_up h, g, rfl⟩
    · rw [if_neg c2, if_neg c2]; exact ⟨qI_up (qI_up h), cg_mend g cb, rfl⟩
  · rw [if_neg c1, if_neg c1]; exact ⟨h, g, hc⟩
theorem cg_wkN (h : qI p p I I') (g : qF p p F F') (hW : ∀ t, t < n → ∃ a, a < 8 ∧ I (p + 18 + t) 0 = nI a) (hn : n ≤ 24) : ∀ k, k ≤ n → qI p p (wkN p k I F).1 (wkN p k I' F').1 ∧ qF p p (wkN p k I F).2.1 (wkN p k I' F').2.1 ∧ (wkN p k I' F').2.2 = (wkN p k I F).2.2
  | 0, _ => ⟨h, g, rfl⟩
  | k + 1, hk => by
    obtain ⟨a, b, c⟩ := cg_wkN h g hW hn k (by omega)
    exact cg_wk1 a b c (by omega) (by obtain ⟨z, hz, ez⟩ := hW k (by omega); exact ⟨z, hz, by rw [wkN_fr k (by omega)]; exact ez⟩)
theorem cg_slip (h : qI p p I I') {t : Nat} (ht : t < 24) : qI p p (slipI I (p + 18 + t)) (slipI I' (p + 18 + t)) := by
  unfold slipI
  rw [eT h ht (by decide), eT h ht (by decide), eT h ht (by decide), eT h ht (by decide)]
  by_cases c : I (p + 18 + t) 7 = 0 ∧ 3 ≤ I (p + 18 + t) 10
  · rw [if_pos c, if_pos c]; exact qI_up h
  · rw [if_neg c, if_neg c]; exact qI_up (qI_up (qI_up h))
theorem cg_sl1 (h : qI p p I I') {t : Nat} (ht : t < 24) : qI p p (sl1 p t I) (sl1 p t I') := by
  unfold sl1
  rw [eT h ht (by decide), eT h ht (by decide), eT h ht (by decide), e0 h (by decide) (by decide)]
  by_cases c : (0 ≤ I (p + 18 + t) 7 ∧ I (p + 18 + t) 7 ≤ 1) ∧ I (p + 18 + t) 6 < I p 7 + I (p + 18 + t) 4
  · rw [if_pos c, if_pos c]; exact cg_slip h ht
  · rw [if_neg c, if_neg c]; exact h
theorem cg_slN (h : qI p p I I') : ∀ k, k ≤ 24 → qI p p (slN p k I) (slN p k I')
  | 0, _ => h
  | k + 1, hk => cg_sl1 (cg_slN h k (by omega)) (by omega)
theorem cg_hrS {W W' : pI × pF × Nat} (h : qI p p W.1 W'.1) (g : qF p p W.2.1 W'.2.1) (hc : W'.2.2 = W.2.2) (hW : ∀ t, t < n → ∃ a, a < 8 ∧ W.1 (p + 18 + t) 0 = nI a) (hn : n ≤ 24) (hA : nA ≤ 8) : qI p p (hrS p nA n W).1 (hrS p nA n W').1 ∧ qF p p (hrS p nA n W).2.1 (hrS p nA n W').2.1 ∧ (hrS p nA n W').2.2 = (hrS p nA n W).2.2 := by
  have g1 := cg_runAF h g nA hA
  obtain ⟨a, b, c⟩ := cg_wkN h g1 hW hn n (Nat.le_refl _)
  unfold hrS
  refine ⟨?_, b, ?_⟩
  · show qI p p (slN p n (up2 _ p 7 _)) (slN p n (up2 _ p 7 _))
    rw [e0 a (by decide) (by decide)]
    exact cg_slN (qI_up a) n hn
  · show W'.2.2 + _ = W.2.2 + _
    rw [c, hc]
theorem cg_psN (h : qI p p I I') (g : qF p p F F') (hW : ∀ t, t < n → ∃ a, a < 8 ∧ I (p + 18 + t) 0 = nI a) (hn : n ≤ 24) (hA : nA ≤ 8) : ∀ k, qI p p (psN p nA n k I F).1 (psN p nA n k I' F').1 ∧ qF p p (psN p nA n k I F).2.1 (psN p nA n k I' F').2.1 ∧ (psN p nA n k I' F').2.2 = (psN p nA n k I F).2.2
  | 0 => ⟨h, g, rfl⟩
  | k + 1 => by
    obtain ⟨a, b, c⟩ := cg_psN h g hW hn hA k
    exact cg_hrS a b c (fun t ht => by obtain ⟨z, hz, ez⟩ := hW t ht; exact ⟨z, hz, by rw [psN_fr (by omega)]; exact ez⟩) hn hA
theorem cg_pass (h : pE p p I F I' F') (hW : ∀ t, t < n → ∃ a, a < 8 ∧ I (p + 18 + t) 0 = nI a) (hn : n ≤ 24) (hA : nA ≤ 8) {x : Int32} : cgR p (passR I F p nA n x) (passR I' F' p nA n x) := by
  unfold passR
  rw [e0 h.1 (by decide) (by decide)]
  by_cases c1 : 1 ≤ x ∧ x ≤ 48
  · rw [if_pos c1, if_pos c1]
    by_cases c2 : I p 7 + x ≤ 2000
    · rw [if_pos c2, if_pos c2]
      obtain ⟨a, b, c⟩ := cg_psN h.1 h.2 hW hn hA x.toNatClampNeg
      exact ⟨by show nI _ = nI _; rw [c], a, b⟩
    · rw [if_neg c2, if_neg c2]; exact ⟨rfl, h⟩
  · rw [if_neg c1, if_neg c1]; exact ⟨rfl, h⟩
end LA
