/-! ACTS AS THE LAW MAKES THEM, undo, keep, restore: what they leave of the object -/
def Ac (p nA nC n : Nat) (R : pR) : Prop :=
  (∀ I F h, Gd p I F nA nC n h → okR p nA nC n I F (R I F) ∧ lcl p I (R I F).2.1 ∧ lcl p F (R I F).2.2) ∧
  (∀ I F I' F' h, Gd p I F nA nC n h → pE p p I F I' F' → cgR p (R I F) (R I' F'))
theorem swV_all {α : Type} {P : α → Prop} {w : Int32} {fs : List α} {d : α} (h : ∀ f ∈ fs, P f) (hd : P d) : P (swV w fs d) := by
  unfold swV
  split
  · rename_i hc
    have hl : w.toInt.toNat < fs.length := by omega
    rw [List.getD_eq_getElem?_getD, List.getElem?_eq_getElem hl]
    exact h _ (List.getElem_mem hl)
  · exact hd
section ST
variable {x p nA nC n h o z : Nat} {I I' I0 : pI} {F F' F0 : pF}
theorem ac_newAsset {r w : Int32} : Ac p nA nC n (fun I F => newAssetR I F p nA r w) := ⟨fun I F h g => ⟨ok_newAsset g, lc_newAsset.1, lc_newAsset.2⟩, fun I F I' F' h g e => cg_newAsset e⟩
theorem ac_newCrew {r w : Int32} : Ac p nA nC n (fun I F => newCrewR I F p nC r w) := ⟨fun I F h g => ⟨ok_newCrew g, lc_newCrew.1, lc_newCrew.2⟩, fun I F I' F' h g e => cg_newCrew e⟩
theorem ac_link {a b c : Int32} : Ac p nA nC n (fun I F => setLinkR I F p a b c) := ⟨fun I F h g => ⟨ok_link g, (lc_setLink g.1.1 g.1.2.1).1, (lc_setLink g.1.1 g.1.2.1).2⟩, fun I F I' F' h g e => cg_link e g.1.1 g.1.2.1⟩
theorem ac_bar {a b c : Int32} : Ac p nA nC n (fun I F => setBarR I F p a b c) := ⟨fun I F h g => ⟨ok_bar g, lc_setBar.1, lc_setBar.2⟩, fun I F I' F' h g e => cg_setBar e⟩
theorem ac_newTask {a b c d e f : Int32} : Ac p nA nC n (fun I F => newTaskR I F p n a b c d e f) := ⟨fun I F h g => ⟨ok_newTask g, lc_newTask.1, lc_newTask.2⟩, fun I F I' F' h g e => cg_newTask e⟩
theorem ac_start {a : Int32} : Ac p nA nC n (fun I F => startR I F p nA n a) := ⟨fun I F h g => ⟨ok_start g, (lc_start g.1.1 g.1.2.1).1, (lc_start g.1.1 g.1.2.1).2⟩, fun I F I' F' h g e => cg_start e g.1.1 g.1.2.1 g.1.2.2.2.2.2.1⟩
theorem ac_stop {a : Int32} : Ac p nA nC n (fun I F => stopR I F p nA a) := ⟨fun I F h g => ⟨ok_stop g, (lc_stop g.1.1 g.1.2.1).1, (lc_stop g.1.1 g.1.2.1).2⟩, fun I F I' F' h g e => cg_stop e g.1.1 g.1.2.1⟩
theorem ac_hang {a b : Int32} : Ac p nA nC n (fun I F => hangR I F p n a b) := ⟨fun I F h g => ⟨ok_hang g, (lc_hang g.1.2.2.2.2.1 g.1.2.2.2.2.2.1).1, (lc_hang g.1.2.2.2.2.1 g.1.2.2.2.2.2.1).2⟩, fun I F I' F' h g e => cg_hang e g.1.2.2.2.2.1 g.1.2.2.2.2.2.1 g.1.2.2.1 g.1.2.2.2.1 (Gd_W8 g)⟩
theorem ac_begin {a : Int32} : Ac p nA nC n (fun I F => beginR I F p n a) := ⟨fun I F h g => ⟨ok_begin g, (lc_begin g.1.2.2.2.2.1 g.1.2.2.2.2.2.1).1, (lc_begin g.1.2.2.2.2.1 g.1.2.2.2.2.2.1).2⟩, fun I F I' F' h g e => cg_begin e g.1.2.2.2.2.1 g.1.2.2.2.2.2.1 (Gd_W8 g) (G2_K g.2.1)⟩
theorem ac_lift {a b : Int32} : Ac p nA nC n (fun I F => liftR I F p n a b) := ⟨fun I F h g => ⟨ok_lift g, (lc_lift g.1.2.2.2.2.1 g.1.2.2.2.2.2.1).1, (lc_lift g.1.2.2.2.2.1 g.1.2.2.2.2.2.1).2⟩, fun I F I' F' h g e => cg_lift e g.1.2.2.2.2.1 g.1.2.2.2.2.2.1⟩
theorem ac_cancel {a : Int32} : Ac p nA nC n (fun I F => cancelR I F p a) := ⟨fun I F h g => ⟨ok_cancel g, (lc_cancel g.1.2.2.2.2.1 g.1.2.2.2.2.2.1).1, (lc_cancel g.1.2.2.2.2.1 g.1.2.2.2.2.2.1).2⟩, fun I F I' F' h g e => cg_cancel e g.1.2.2.2.2.1 g.1.2.2.2.2.2.1⟩
theorem ac_pass {a : Int32} : Ac p nA nC n (fun I F => passR I F p nA n a) := ⟨fun I F h g => ⟨ok_pass g, (lc_pass g.1.2.2.2.2.2.1 (G2_W g.2.1) g.1.2.1).1, (lc_pass g.1.2.2.2.2.2.1 (G2_W g.2.1) g.1.2.1).2⟩, fun I F I' F' h g e => cg_pass e (Gd_W8 g) g.1.2.2.2.2.2.1 g.1.2.1⟩
theorem ac_any {a b : Int32} : Ac (x + 1) nA nC n (anyR x nA nC n a b) := by
  unfold anyR
  refine swV_all (fun f hf => ?_) ac_cancel
  simp only [List.mem_cons, List.not_mem_nil, or_false] at hf
  rcases hf with rfl | rfl | rfl | rfl | rfl | rfl | rfl
  · exact ac_newAsset
  · exact ac_newTask
  · exact ac_hang
  · exact ac_lift
  · exact ac_pass
  · exact ac_bar
  · exact ac_start
theorem ac_sets {a b hr : Int32} : Ac (x + 1) nA nC n (setsR x nA nC n a b hr) := by
  unfold setsR
  refine swV_all (fun f hf => ?_) ac_newTask
  simp only [List.mem_cons, List.not_mem_nil, or_false] at hf
  rcases hf with rfl | rfl | rfl | rfl
  · exact ac_newAsset
  · exact ac_link
  · exact ac_bar
  · exact ac_newCrew
theorem ac_turn {w a b : Int32} : Ac (x + 1) nA nC n (turnF x nA nC n w a b I) := by
  unfold turnF turnR
  refine swV_all (fun f hf => ?_) ac_any
  simp only [List.mem_cons, List.not_mem_nil, or_false] at hf
  rcases hf with rfl | rfl | rfl | rfl | rfl | rfl | rfl | rfl | rfl | rfl | rfl | rfl | rfl | rfl | rfl
  · exact ac_sets
  · exact ac_sets
  · exact ac_sets
  · exact ac_sets
  · exact ac_start
  · exact ac_stop
  · exact ac_hang
  · exact ac_hang
  · exact ac_begin
  · exact ac_begin
  · exact ac_lift
  · exact ac_lift
  · exact ac_cancel
  · exact ac_pass
  · exact ac_pass
theorem turn_cg {w a b : Int32} (g : Gd (x + 1) I F nA nC n h) (e : pE (x + 1) (x + 1) I F I' F') : turnF x nA nC n w a b I' = turnF x nA nC n w a b I := by
  unfold turnF
  rw [e0 e.1 (by decide) (by decide), cg_crewForV e g.1.2.2.2.2.1 g.1.2.2.2.2.2.1 g.1.2.2.2.1, cg_taskV e g.1.2.2.2.2.1 g.1.2.2.2.2.2.1 (Gd_W8 g) (G2_K g.2.1)]
/-! the history and the snapshot -/
def Hs (x : Nat) (I : pI) (o z : Nat) : Prop := I (x + 127) 1 = nI o ∧ o < 4 ∧ I (x + 127) 2 = nI z ∧ z ≤ 4 ∧ (∀ i, i < 4 → RepB (x + 127 + 2 + 42 * i) I) ∧ RepB (x + 85) I
def St (x : Nat) (I : pI) (F : pF) (nA nC n h o z : Nat) : Prop := Gd (x + 1) I F nA nC n h ∧ Hs x I o z
theorem St_cOK (s : St x I F nA nC n h o z) : cOK x I nA nC n o z := ⟨s.1.1.1, s.1.1.2.1, s.1.1.2.2.1, s.1.1.2.2.2.1, s.1.1.2.2.2.2.1, s.1.1.2.2.2.2.2.1, G2_W s.1.2.1, G2_K s.1.2.1, s.1.2.2.1, s.2.1, s.2.2.1, s.2.2.2.1, s.2.2.2.2.1⟩
theorem Hs_row (g : Hs x I o z) (hr : ∀ i, x + 85 ≤ i → i < x + 297 → I' i = I i) : Hs x I' o z := by
  obtain ⟨h1, h2, h3, h4, h5, h6⟩ := g
  exact ⟨by rw [hr _ (by omega) (by omega)]; exact h1, h2, by rw [hr _ (by omega) (by omega)]; exact h3, h4, fun i hi => RepB_eq (h5 i hi) (fun j j1 j2 => hr j (by omega) (by omega)), RepB_eq h6 (fun j j1 j2 => hr j (by omega) (by omega))⟩
theorem RepB_pE {p r : Nat} (e : pE p r I F I' F') (g : RepB r I) : RepB p I' := fun a ha => by
  rw [eA e.1 ha (by decide)]
  exact g a ha
/-- what is recorded -/
theorem rec_st {r : Int32} {v : Option Value} (hH : Hs x I o z) (hb : RepB (x + 43) I) (hr : ¬ r < 0) (hq : recQ x o z r I F v I' F') : v = some (.int r) ∧ ∃ o' z', Hs x I' o' z' ∧ z' = (if z < 4 then z + 1 else 4) ∧ 0 < z' ∧ pE (x + 127 + 2 + 42 * ((o' + (z' - 1)) % 4)) (x + 43) I F I' F' ∧ (∀ i, i < x + 127 → I' i = I i ∧ F' i = F i) := by
  obtain ⟨hv, hq⟩ := hq
  refine ⟨hv, ?_⟩
  rcases hq with ⟨hr2, -, -⟩ | ⟨-, I1, hc, rfl⟩
  · exact absurd hr2 hr
  obtain ⟨h1, h2, h3, h4, h5, h6⟩ := hH
  have hm : (o + z) % 4 < 4 := Nat.mod_lt _ (by decide)
  have hcp := pE_cpy hc
  have hfr : ∀ i, (i < x + 127 + 2 + 42 * ((o + z) % 4) ∨ x + 127 + 2 + 42 * ((o + z) % 4) + 42 ≤ i) → I1 i = I i := fun i hi => (Cpy_fr hc hi).1
  have hF : ∀ i, i < x + 127 → F' i = F i := fun i hi => (Cpy_fr hc (by omega)).2
  have hB : ∀ i, i < 4 → RepB (x + 127 + 2 + 42 * i) I1 := fun i hi => by
    by_cases e : i = (o + z) % 4
    · subst e
      exact RepB_pE hcp hb
    · exact RepB_eq (h5 i hi) (fun j j1 j2 => hfr j (by omega))
  have hK : RepB (x + 85) I1 := RepB_eq h6 (fun j j1 j2 => hfr j (by omega))
  by_cases c : z < 4
  · rw [if_pos c]
    refine ⟨o, z + 1, ⟨?_, h2, up2_s, by omega, fun i hi => RepB_eq (hB i hi) (fun j j1 j2 => up2_row (by omega)), RepB_eq hK (fun j j1 j2 => up2_row (by omega))⟩, by rw [if_pos c], by omega, ?_, fun i hi => ⟨?_, hF i hi⟩⟩
    · rw [up2_nj (by decide), hfr _ (by omega)]
      exact h1
    · rw [show o + (z + 1 - 1) = o + z by omega]
      exact ⟨fun d j e => by rw [up2_row (by omega)]; exact hcp.1 d j e, hcp.2⟩
    · rw [up2_row (by omega), hfr _ (by omega)]
  · rw [if_neg c]
    have hz : z = 4 := by omega
    subst hz
    refine ⟨(o + 1) % 4, 4, ⟨up2_s, Nat.mod_lt _ (by decide), ?_, by omega, fun i hi => RepB_eq (hB i hi) (fun j j1 j2 => up2_row (by omega)), RepB_eq hK (fun j j1 j2 => up2_row (by omega))⟩, by rw [if_neg c], by omega, ?_, fun i hi => ⟨?_, hF i hi⟩⟩
    · rw [up2_nj (by decide), hfr _ (by omega)]
      exact h3
    · rw [show ((o + 1) % 4 + (4 - 1)) % 4 = (o + 4) % 4 by omega]
      exact ⟨fun d j e => by rw [up2_row (by omega)]; exact hcp.1 d j e, hcp.2⟩
    · rw [up2_row (by omega), hfr _ (by omega)]
/-- one act -/
theorem act_st {R : pR} {v : Option Value} (hS : St x I F nA nC n h o z) (hR : Ac (x + 1) nA nC n R) (hq : actQ x o z I F R v I' F') : v = some (.int (R I F).1) ∧ pE (x + 1) (x + 1) (R I F).2.1 (R I F).2.2 I' F' ∧ (∀ i, x + 85 ≤ i → i < x + 127 → I' i = I i ∧ F' i = F i) ∧ I' x = I x ∧
    (((R I F).1 < 0 ∧ St x I' F' nA nC n h o z ∧ pE (x + 1) (x + 1) I F I' F') ∨ (¬ (R I F).1 < 0 ∧ ∃ nA' nC' n' h' o' z', St x I' F' nA' nC' n' h' o' z' ∧ slS I (x + 1) n ≤ slS I' (x + 1) n' ∧ z' = (if z < 4 then z + 1 else 4) ∧ 0 < z' ∧ pE (x + 127 + 2 + 42 * ((o' + (z' - 1)) % 4)) (x + 1) I F I' F')) := by
  obtain ⟨I1, F1, hc, hq⟩ := hq
  have hfr : ∀ i, (i < x + 43 ∨ x + 85 ≤ i) → I1 i = I i ∧ F1 i = F i := fun i hi => Cpy_fr hc (by omega)
  have e1 : pE (x + 1) (x + 1) I F I1 F1 := pE_row fun i i1 i2 => hfr i (by omega)
  have g1 := Gd_cg e1 hS.1
  obtain ⟨c1, c2⟩ := hR.2 I F I1 F1 h hS.1 e1
  obtain ⟨k1, k2, k3⟩ := hR.1 I1 F1 h g1
  have hH1 : Hs x I1 o z := Hs_row hS.2 fun i i1 i2 => (hfr i (by omega)).1
  rw [← c1]
  generalize R I1 F1 = X at *
  obtain ⟨r, J, G⟩ := X
  have hbef : pE (x + 43) (x + 1) I F I1 F1 := pE_cpy hc
  have hbJ : pE (x + 43) (x + 43) I1 F1 J G := pE_row fun i i1 i2 => ⟨k2 i (by omega), k3 i (by omega)⟩
  have hHJ : Hs x J o z := Hs_row hH1 fun i i1 i2 => k2 i (by omega)
  by_cases hr : r < 0
  · rcases k1 with ⟨-, rfl, rfl⟩ | ⟨hr2, -⟩
    · obtain ⟨hv, hq⟩ := hq
      rcases hq with ⟨-, rfl, rfl⟩ | ⟨hr2, -⟩
      · exact ⟨hv, c2, fun i i1 i2 => hfr i (by omega), (hfr x (by omega)).1, Or.inl ⟨hr, ⟨g1, hH1⟩, e1⟩⟩
      · exact absurd hr hr2
    · exact absurd hr hr2
  · rcases k1 with ⟨hr2, -, -⟩ | ⟨-, nA', nC', n', h', g2, s2⟩
    · exact absurd hr2 hr
    · obtain ⟨hv, o', z', q1, q2, q3, q4, q5⟩ := rec_st hHJ (RepB_pE hbJ (RepB_pE hbef hS.1.2.2.1)) hr hq
      have e2 : pE (x + 1) (x + 1) J G I' F' := pE_row fun i i1 i2 => q5 i (by omega)
      refine ⟨hv, pE_tr c2 e2, fun i i1 i2 => ?_, ?_, Or.inr ⟨hr, nA', nC', n', h', o', z', ⟨Gd_cg e2 g2, q1⟩, ?_, q2, q3, pE_tr (pE_tr hbef hbJ) q4⟩⟩
      · obtain ⟨a1, a2⟩ := q5 i i2
        obtain ⟨b1, b2⟩ := hfr i (by omega)
        exact ⟨a1.trans ((k2 i (by omega)).trans b1), a2.trans ((k3 i (by omega)).trans b2)⟩
      · exact (q5 x (by omega)).1.trans ((k2 x (by omega)).trans (hfr x (by omega)).1)
      · have s3 : slS I' (x + 1) n' = slS J (x + 1) n' := slS_cg e2.1 g2.1.2.2.2.2.2.1
        have s4 : slS I1 (x + 1) n = slS I (x + 1) n := slS_cg e1.1 hS.1.1.2.2.2.2.2.1
        rw [s3, ← s4]
        exact s2
end ST
