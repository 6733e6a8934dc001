/-! LIKE PLANTS: what a plant's relevant slots are, and that all answers and acts look at them alone -/
def rI (d j : Nat) : Prop := (d = 0 ∧ 4 ≤ j ∧ j < 8) ∨ (d = 4 ∧ j < 5) ∨ (5 ≤ d ∧ d < 13 ∧ (j = 0 ∨ j = 4 ∨ j = 5)) ∨ (13 ≤ d ∧ d < 18 ∧ j < 2) ∨ (18 ≤ d ∧ d < 42 ∧ j < 12)
def rF (d j : Nat) : Prop := 5 ≤ d ∧ d < 13 ∧ (j = 1 ∨ j = 2 ∨ j = 3)
def qI (p r : Nat) (I I' : pI) : Prop := ∀ d j, rI d j → I' (p + d) j = I (r + d) j
def qF (p r : Nat) (F F' : pF) : Prop := ∀ d j, rF d j → F' (p + d) j = F (r + d) j
def pE (p r : Nat) (I : pI) (F : pF) (I' : pI) (F' : pF) : Prop := qI p r I I' ∧ qF p r F F'
section LK
variable {p q r x n nA nC : Nat} {I I' I'' : pI} {F F' F'' : pF}
theorem pE_tr (h : pE p r I F I' F') (h2 : pE q p I' F' I'' F'') : pE q r I F I'' F'' := ⟨fun d j e => (h2.1 d j e).trans (h.1 d j e), fun d j e => (h2.2 d j e).trans (h.2 d j e)⟩
theorem pE_rf : pE p p I F I F := ⟨fun _ _ _ => rfl, fun _ _ _ => rfl⟩
theorem pE_sy (h : pE p r I F I' F') : pE r p I' F' I F := ⟨fun d j e => (h.1 d j e).symm, fun d j e => (h.2 d j e).symm⟩
theorem pE_row (h : ∀ i, p ≤ i → i < p + 42 → I' i = I i ∧ F' i = F i) : pE p p I F I' F' :=
  ⟨fun d j e => by rw [(h (p + d) (by omega) (by unfold rI at e; omega)).1], fun d j e => by rw [(h (p + d) (by omega) (by unfold rF at e; omega)).2]⟩
theorem pE_cpy (h : Cpy p r I F I' F') : pE p r I F I' F' := by
  obtain ⟨⟨-, hA, hC, hT, hB⟩, h4, h5, h6, h7⟩ := h
  refine ⟨fun d j e => ?_, fun d j e => ?_⟩
  · unfold rI at e
    rcases e with ⟨rfl, a1, a2⟩ | ⟨rfl, a1⟩ | ⟨a1, a2, a3⟩ | ⟨a1, a2, a3⟩ | ⟨a1, a2, a3⟩
    · rcases (show j = 4 ∨ j = 5 ∨ j = 6 ∨ j = 7 by omega) with rfl | rfl | rfl | rfl
      · exact h4
      · exact h5
      · exact h6
      · exact h7
    · exact hB j a1
    · obtain ⟨b1, b2, b3, -⟩ := hA (d - 5) (by omega)
      rw [show p + 5 + (d - 5) = p + d by omega, show r + 5 + (d - 5) = r + d by omega] at b1 b2 b3
      rcases a3 with rfl | rfl | rfl
      · exact b1
      · exact b2
      · exact b3
    · obtain ⟨b1, b2⟩ := hC (d - 13) (by omega)
      rw [show p + 13 + (d - 13) = p + d by omega, show r + 13 + (d - 13) = r + d by omega] at b1 b2
      rcases (show j = 0 ∨ j = 1 by omega) with rfl | rfl
      · exact b1
      · exact b2
    · have b1 := hT (d - 18) j (by omega) a3
      rw [show p + 18 + (d - 18) = p + d by omega, show r + 18 + (d - 18) = r + d by omega] at b1
      exact b1
  · unfold rF at e
    obtain ⟨a1, a2, a3⟩ := e
    obtain ⟨-, -, -, b1, b2, b3⟩ := hA (d - 5) (by omega)
    rw [show p + 5 + (d - 5) = p + d by omega, show r + 5 + (d - 5) = r + d by omega] at b1 b2 b3
    rcases a3 with rfl | rfl | rfl
    · exact b1
    · exact b2
    · exact b3
theorem qI_up {k : Nat} {v : Int32} (h : qI p p I I') : qI p p (up2 I q k v) (up2 I' q k v) := fun d j e => by
  unfold up2
  split
  · rfl
  · exact h d j e
theorem qF_up {k : Nat} {v : UInt32} (h : qF p p F F') : qF p p (up2 F q k v) (up2 F' q k v) := fun d j e => by
  unfold up2
  split
  · rfl
  · exact h d j e
theorem e0 (h : qI p r I I') {j : Nat} (h1 : 4 ≤ j) (h2 : j < 8) : I' p j = I r j := h 0 j (Or.inl ⟨rfl, h1, h2⟩)
theorem eB (h : qI p r I I') {k : Nat} (h1 : k < 5) : I' (p + 4) k = I (r + 4) k := h 4 k (Or.inr (Or.inl ⟨rfl, h1⟩))
theorem eA (h : qI p r I I') {a j : Nat} (h1 : a < 8) (h2 : j = 0 ∨ j = 4 ∨ j = 5) : I' (p + 5 + a) j = I (r + 5 + a) j := by
  rw [Nat.add_assoc, Nat.add_assoc]
  exact h (5 + a) j (by unfold rI; omega)
theorem eG (h : qF p r F F') {a j : Nat} (h1 : a < 8) (h2 : j = 1 ∨ j = 2 ∨ j = 3) : F' (p + 5 + a) j = F (r + 5 + a) j := by
  rw [Nat.add_assoc, Nat.add_assoc]
  exact h (5 + a) j (by unfold rF; omega)
theorem eC (h : qI p r I I') {c j : Nat} (h1 : c < 5) (h2 : j < 2) : I' (p + 13 + c) j = I (r + 13 + c) j := by
  rw [Nat.add_assoc, Nat.add_assoc]
  exact h (13 + c) j (by unfold rI; omega)
theorem eT (h : qI p r I I') {t j : Nat} (h1 : t < 24) (h2 : j < 12) : I' (p + 18 + t) j = I (r + 18 + t) j := by
  rw [Nat.add_assoc, Nat.add_assoc]
  exact h (18 + t) j (by unfold rI; omega)
theorem cnt_c {P Q : Nat → Bool} : ∀ {n : Nat}, (∀ t, t < n → P t = Q t) → cntT P n = cntT Q n
  | 0, _ => rfl
  | n + 1, h => by
    rw [cntT, cntT, cnt_c (fun t ht => h t (by omega)), h n (by omega)]
theorem sum_c {f g : Nat → Int32} : ∀ {n : Nat}, (∀ t, t < n → f t = g t) → sumT f n = sumT g n
  | 0, _ => rfl
  | n + 1, h => by
    rw [sumT, sumT, sum_c (fun t ht => h t (by omega)), h n (by omega)]
theorem fst_c {P Q : Nat → Bool} : ∀ {n k : Nat}, (∀ t, k ≤ t → t < k + n → P t = Q t) → fstT P n k = fstT Q n k
  | 0, _, _ => rfl
  | n + 1, k, h => by
    rw [fstT, fstT, fst_c (n := n) (k := k + 1) (fun t h1 h2 => h t (by omega) (by omega)), h k (by omega) (by omega)]
theorem cg_tags (h : qI p r I I') (hn : n ≤ 24) {a : Int32} : tagsC I' p n a = tagsC I r n a := cnt_c fun t ht => by
  rw [eT h (by omega) (by decide), eT h (by omega) (by decide)]
theorem cg_at (h : qI p r I I') (hn : n ≤ 24) {a f l : Int32} : atC I' p n a f l = atC I r n a f l := cnt_c fun t ht => by
  rw [eT h (by omega) (by decide), eT h (by omega) (by decide)]
theorem cg_of (h : qI p r I I') (hn : n ≤ 24) {a f l : Int32} : ofC I' p n a f l = ofC I r n a f l := cnt_c fun t ht => by
  rw [eT h (by omega) (by decide), eT h (by omega) (by decide)]
theorem cg_in (h : qI p r I I') (hn : n ≤ 24) {f l : Int32} : inC I' p n f l = inC I r n f l := cnt_c fun t ht => by
  rw [eT h (by omega) (by decide)]
theorem cg_busy (h : qI p r I I') (hn : n ≤ 24) {a : Int32} : busyC I' p n a = busyC I r n a := sum_c fun t ht => by
  rw [eT h (by omega) (by decide), eT h (by omega) (by decide), eT h (by omega) (by decide)]
theorem cg_slips (h : qI p r I I') (hn : n ≤ 24) : slipsC I' p n = slipsC I r n := sum_c fun t ht => by
  rw [eT h (by omega) (by decide)]
theorem cg_allBusy (h : qI p r I I') (hn : n ≤ 24) : allBusyC I' p n = allBusyC I r n := sum_c fun t ht => by
  rw [eT h (by omega) (by decide), eT h (by omega) (by decide)]
theorem cg_runs (h : qI p r I I') (hA : nA ≤ 8) : runsC I' p nA = runsC I r nA := cnt_c fun a ha => by
  rw [eA h (by omega) (by decide)]
theorem cg_tag (h : qI p r I I') (hn : n ≤ 24) {a x : Int32} : tagC I' p n a x = tagC I r n a x := by
  unfold tagC
  rw [cg_tags h hn]
  exact fst_c fun t h1 h2 => by
    unfold topP
    rw [eT h (by omega) (by decide), eT h (by omega) (by decide), eT h (by omega) (by decide)]
theorem cg_serve (h : qI p r I I') (hn : n ≤ 24) {c t : Nat} (hc : c < 5) (ht : t < 24) : serveB I' p n c t = serveB I r n c t := by
  unfold serveB
  rw [cg_busy h hn, eC h hc (by decide), eC h hc (by decide), eT h ht (by decide), eT h ht (by decide)]
theorem cg_crewC (h : qI p r I I') (hn : n ≤ 24) (hC : nC ≤ 5) {t : Nat} (ht : t < 24) : crewC I' p nC n t = crewC I r nC n t := by
  unfold crewC
  rw [eT h ht (by decide), fst_c (P := fun c => serveB I' p n c t) (Q := fun c => serveB I r n c t) (fun c h1 h2 => cg_serve h hn (by omega) ht)]
theorem cg_bar (h : qI p r I I') {k : Nat} {o : Int32} (hk : k < 5) : barB I' p k o = barB I r k o := by
  unfold barB
  rw [eB h hk]
theorem cg_near (h : qI p r I I') {a : Nat} {o : Int32} (ha : a < 8) : nearB I' p a o = nearB I r a o := by
  unfold nearB
  rw [eA h ha (by decide)]
theorem cg_barr (h : qI p r I I') (hn : n ≤ 24) {t k a : Nat} (ht : t < 24) (hk : k < 5) (ha : a < 8) : barrC I' p n t k a = barrC I r n t k a := by
  unfold barrC
  rw [eT h ht (by decide), fst_c (P := barP I' p k a) (Q := barP I r k a) (fun i h1 h2 => by
    unfold barP
    rw [eT h (by omega) (by decide), eT h (by omega) (by decide), eT h (by omega) (by decide), cg_bar h hk, cg_near h ha])]
theorem cg_reas (h : qI p r I I') (hn : n ≤ 24) {t k a : Nat} (ht : t < 24) (hk : k < 5) (ha : a < 8) : reasC I' p n t k a = reasC I r n t k a := by
  unfold reasC
  rw [cg_barr h hn ht hk ha, eT h ht (by decide), eT h ht (by decide), eT h ht (by decide), eT h ht (by decide), e0 h (by decide) (by decide)]
/-! the answers -/
theorem tn_lt' {a y : Int32} {n m : Nat} (h : 0 ≤ a ∧ a < y) (hx : y = nI n) (hn : n ≤ m) (hm : m < 100) : a.toNatClampNeg < m := Nat.lt_of_lt_of_le (tn_lt h hx (by omega)) hn
theorem cg_assetV (h : pE p r I F I' F') (hA : I r 4 = nI nA) (hA8 : nA ≤ 8) (hn : n ≤ 24) {a w : Int32} : assetV I' F' p n a w = assetV I F r n a w := by
  unfold assetV
  rw [e0 h.1 (by decide) (by decide)]
  by_cases c : 0 ≤ a ∧ a < I r 4
  · have ha := tn_lt' c hA hA8 (by decide)
    rw [if_pos c, if_pos c, eA h.1 ha (by decide), eA h.1 ha (by decide), eG h.2 ha (by decide), eG h.2 ha (by decide), cg_tags h.1 hn, cg_tag h.1 hn, cg_at h.1 hn, cg_at h.1 hn]
  · rw [if_neg c, if_neg c]
theorem cg_tagAtV (h : pE p r I F I' F') (hn : n ≤ 24) {a w : Int32} : tagAtV I' p n a w = tagAtV I r n a w := by
  unfold tagAtV
  rw [e0 h.1 (by decide) (by decide), cg_tag h.1 hn]
theorem cg_crewV (h : pE p r I F I' F') (hC : I r 5 = nI nC) (hC5 : nC ≤ 5) (hn : n ≤ 24) {a w : Int32} : crewV I' p n a w = crewV I r n a w := by
  unfold crewV
  rw [e0 h.1 (by decide) (by decide)]
  by_cases c : 0 ≤ a ∧ a < I r 5
  · have ha := tn_lt' c hC hC5 (by decide)
    rw [if_pos c, if_pos c, eC h.1 ha (by decide), eC h.1 ha (by decide), cg_busy h.1 hn, cg_of h.1 hn, cg_of h.1 hn]
  · rw [if_neg c, if_neg c]
theorem cg_taskV (h : pE p r I F I' F') (hn : I r 6 = nI n) (hn4 : n ≤ 24) (hW : ∀ t, t < n → ∃ a, a < 8 ∧ I (r + 18 + t) 0 = nI a) (hK : ∀ t, t < n → ∃ k, k < 5 ∧ I (r + 18 + t) 3 = nI k) {a w : Int32} : taskV I' p n a w = taskV I r n a w := by
  unfold taskV
  rw [e0 h.1 (by decide) (by decide)]
  by_cases c : 0 ≤ a ∧ a < I r 6
  · have ha' := tn_lt c hn (by omega)
    have ha : a.toNatClampNeg < 24 := by omega
    obtain ⟨b, hb, eb⟩ := hW _ ha'
    obtain ⟨k, hk, ek⟩ := hK _ ha'
    have cb : (I (r + 18 + a.toNatClampNeg) 0).toNatClampNeg < 8 := by rw [eb, nI_clamp (by omega)]; exact hb
    have ck : (I (r + 18 + a.toNatClampNeg) 3).toNatClampNeg < 5 := by rw [ek, nI_clamp (by omega)]; exact hk
    rw [if_pos c, if_pos c]
    simp only [eT h.1 ha (show (0 : Nat) < 12 by decide), eT h.1 ha (show (1 : Nat) < 12 by decide), eT h.1 ha (show (2 : Nat) < 12 by decide), eT h.1 ha (show (3 : Nat) < 12 by decide), eT h.1 ha (show (4 : Nat) < 12 by decide), eT h.1 ha (show (5 : Nat) < 12 by decide), eT h.1 ha (show (6 : Nat) < 12 by decide), eT h.1 ha (show (7 : Nat) < 12 by decide), eT h.1 ha (show (8 : Nat) < 12 by decide), eT h.1 ha (show (9 : Nat) < 12 by decide), eT h.1 ha (show (10 : Nat) < 12 by decide), cg_reas h.1 hn4 ha ck cb, cg_barr h.1 hn4 ha ck cb]
  · rw [if_neg c, if_neg c]
theorem cg_crewForV (h : pE p r I F I' F') (hn : I r 6 = nI n) (hn4 : n ≤ 24) (hC : nC ≤ 5) {a : Int32} : crewForV I' p nC n a = crewForV I r nC n a := by
  unfold crewForV
  rw [e0 h.1 (by decide) (by decide)]
  by_cases c : 0 ≤ a ∧ a < I r 6
  · rw [if_pos c, if_pos c, cg_crewC h.1 hn4 hC (tn_lt' c hn hn4 (by decide))]
  · rw [if_neg c, if_neg c]
theorem cg_hoursV (h : pE p r I F I' F') (hA : I r 4 = nI nA) (hA8 : nA ≤ 8) {a w : Int32} : hoursToV F' I' p a w = hoursToV F I r a w := by
  unfold hoursToV
  rw [e0 h.1 (by decide) (by decide)]
  by_cases c : 0 ≤ a ∧ a < I r 4
  · have ha := tn_lt' c hA hA8 (by decide)
    rw [if_pos c, if_pos c, eG h.2 ha (by decide), eG h.2 ha (by decide)]
  · rw [if_neg c, if_neg c]
end LK
