/-! cells that are made -/
def upr {α : Type} (f : Nat → α) (q : Nat) (r : α) : Nat → α := fun j => if j = q then r else f j
theorem upr_s {α : Type} {f : Nat → α} {q : Nat} {r : α} : upr f q r q = r := by simp [upr]
theorem upr_n {α : Type} {f : Nat → α} {q j : Nat} {r : α} (h : j ≠ q) : upr f q r j = f j := by simp [upr, h]
/-- the world with one cell more -/
abbrev σnew (σ : pT) (k n : Nat) : pT := (σ.1 + 1, upr σ.2.1 (σ.1 + 1) (k, n), upr σ.2.2 (σ.1 + 1) (fun _ => none))
abbrev Inew (σ : pT) (I : pI) : pI := upr I (σ.1 + 1) (fun _ => 0)
abbrev Fnew (σ : pT) (F : pF) : pF := upr F (σ.1 + 1) (fun _ => 0)
def dfl (ci : Nat) : List Value := (List.range (fN ci)).map fun k => defaultValue (fty ci k)
theorem dfl_at {ci k : Nat} (h : k < fN ci) : (dfl ci)[k]? = some (defaultValue (fty ci k)) := by
  unfold dfl
  rw [List.getElem?_map, List.getElem?_range h]
  rfl
theorem dfl_V {ci k : Nat} (h : k < fN ci) : defaultValue (fty ci k) = vp_V (dfl ci) k := by
  unfold vp_V
  rw [List.getD_eq_getElem?_getD, dfl_at h]
  rfl
theorem fty_ok (ci k : Nat) : fty ci k ≠ .long ∧ fty ci k ≠ .double := by
  unfold fty
  split <;> first | (unfold tyX0; split <;> exact ⟨by decide, by decide⟩) | (unfold tyX1; split <;> exact ⟨by decide, by decide⟩) | (unfold tyX2; split <;> exact ⟨by decide, by decide⟩) | (unfold tyX3; split <;> exact ⟨by decide, by decide⟩) | (unfold tyX4; split <;> exact ⟨by decide, by decide⟩) | (unfold tyX5; split <;> exact ⟨by decide, by decide⟩) | (unfold tyX6; split <;> exact ⟨by decide, by decide⟩) | (unfold tyX7; split <;> exact ⟨by decide, by decide⟩) | (unfold tyX8; split <;> exact ⟨by decide, by decide⟩)
theorem fv_new {al : List Nat} {σ : pT} {I : pI} {F : pF} {kd n ci k : Nat} : vr al (fv (σnew σ kd n) (Inew σ I) (Fnew σ F) ci (σ.1 + 1) k) (defaultValue (fty ci k)) := by
  have hok := fty_ok ci k
  unfold fv
  generalize fty ci k = t at hok
  cases t <;> simp only [upr_s, σnew, Inew, Fnew, rv, vr, defaultValue]
  · exact absurd rfl hok.2
  · exact ⟨_, rfl, alike32_refl _⟩
  · exact absurd rfl hok.1
section PA
variable {cc : ByteArray} {Y : mB} {Z : pZ} {pc : Nat} {ls st : List Value} {σ : pT} {I : pI} {F : pF} {β : Nat × Nat}

theorem pw_fconst0 (hdg : decode cc pc = .ok (.fconst 0, 1)) (k : PW cc Y Z (pc + 1) ls (.float FP.fconst0 :: st) σ I F β) : PW cc Y Z pc ls st σ I F β := by
  intro p l e R s m args below meth c D base b al0 l0 d0 H locs cells slots lsM stM hc hd hls hs hw hS hk1 hk2
  obtain ⟨hx, hb, hr0, hts, hown, hlk, hml, hrf, hrl, hbs, hsp, -⟩ := id hc
  exact lv_fconst0 hx hb hdg (k p l e R s m args below meth c D base b al0 l0 d0 H locs cells slots lsM _ hc hd hls ⟨_, _, rfl, ⟨_, rfl, alike32_refl _⟩, hs⟩ hw hS hk1 hk2)

theorem pw_fconst1 (hdg : decode cc pc = .ok (.fconst 1, 1)) (k : PW cc Y Z (pc + 1) ls (.float FP.fconst1 :: st) σ I F β) : PW cc Y Z pc ls st σ I F β := by
  intro p l e R s m args below meth c D base b al0 l0 d0 H locs cells slots lsM stM hc hd hls hs hw hS hk1 hk2
  obtain ⟨hx, hb, hr0, hts, hown, hlk, hml, hrf, hrl, hbs, hsp, -⟩ := id hc
  exact lv_fconst1 hx hb hdg (k p l e R s m args below meth c D base b al0 l0 d0 H locs cells slots lsM _ hc hd hls ⟨_, _, rfl, ⟨_, rfl, alike32_refl _⟩, hs⟩ hw hS hk1 hk2)

theorem pw_new {idx ci i9 k9 : Nat} {own9 : String} (hdg : decode cc pc = .ok (.new idx, 3)) (hci : ci < 8) (hf : fdOK own9 i9 ci k9) (hcl : Cond.classLink Y.1 idx (cnm ci) ∈ wsA) (hin : Cond.instantiable (cnm ci) (fN ci) ∈ wsA) (hini : Cond.initialized (cnm ci) ∈ wsA) (hβ : 1 ≤ β.1 ∧ fN ci ≤ β.2) (kk : PW cc Y Z (pc + 3) ls (.ref (σ.1 + 1) :: st) (σnew σ (ci + 1) (fN ci)) (Inew σ I) (Fnew σ F) (β.1 - 1, β.2 - fN ci)) : PW cc Y Z pc ls st σ I F β := by
  intro p l e R s m args below meth c D base b al0 l0 d0 H locs cells slots lsM stM hc hd hls hs hw hS hk1 hk2
  obtain ⟨hx, hb, hr0, hts, hown, hlk, hml, hrf, hrl, hbs, hsp, -⟩ := id hc
  obtain ⟨ws, tys, g1, g2, g3, g4, g5, g6, g7, g8, g9, g10, g11⟩ := id hw
  obtain ⟨C, T, f1, f2, f3, f4, f5, f6⟩ := hf
  obtain ⟨rr, hrr, hrn⟩ := vw_at hci
  rw [f1] at hrr
  cases hrr
  have hrn : C = cnm ci := hrn
  subst hrn
  refine va_new (s := s.setDrawn d0) (D := D) (A := fun q : Nat => base ≤ q) (fs := dfl ci) hx hb (dr_words hts d0) f2 (fty ci) f4 hown (dr_words hts d0 _ hcl) (dr_words hts d0 _ hin) (dr_words hts d0 _ hini) g4 g3 g5 hS (fun q9 h9 => Nat.le_trans hbs h9) f1 (fun j hj => dfl_V hj) (by omega) (by omega) hdg (fun q H1 hP1 hD1 hS1 => ?_)
  have hce : ce ((al0 ++ l0) ++ [q]) (tys ++ []) (σnew σ (ci + 1) (fN ci)) (Inew σ I) (Fnew σ F) (σ.1 + 1) (.inr (ci, dfl ci)) := by
    have hk0 : (σnew σ (ci + 1) (fN ci)).2.1 (σ.1 + 1) = ((ci + 1), (fN ci)) := upr_s
    refine ⟨fun c h1 h2 => ?_, fun h1 => ?_, fun h1 => ?_, fun h1 => ?_, fun c h1 h2 => ?_⟩
    · rw [hk0] at h1; have hcc : ci = c := by (try dsimp only at h1); omega
      subst hcc
      exact ⟨_, rfl, fun k hk => ⟨_, dfl_at hk, fv_new⟩⟩
    · exfalso; rw [hk0] at h1; (try dsimp only at h1); omega
    · exfalso; rw [hk0] at h1; (try dsimp only at h1); omega
    · exfalso; rw [hk0] at h1; (try dsimp only at h1); omega
    · exfalso; rw [hk0] at h1; (try dsimp only at h1); omega
  obtain ⟨hw1, hq1⟩ := wr_push (σ' := σnew σ (ci + 1) (fN ci)) (I' := Inew σ I) (F' := Fnew σ F) (ts := []) g1 g2 g6 g7 g8 g9 hbs g11 (by rw [List.append_nil]; exact g4) hP1 hD1 hS hS1 rfl (fun q9 h9 => upr_n h9) (fun q9 h9 => upr_n h9) (fun q9 h9 => upr_n h9) (fun q9 h9 => upr_n h9) hce
  rw [List.append_assoc] at hw1 hq1
  refine kk p l e R s m args below meth c D base b al0 (l0 ++ [q]) d0 H1 locs _ _ lsM _ hc hd (by rw [← List.append_assoc]; exact lr_app hls) ⟨_, _, rfl, ⟨q, hq1, rfl⟩, by rw [← List.append_assoc]; exact sr_app hs⟩ hw1 hS1 ?_ ?_
  · show cells + 1 + (β.1 - 1) ≤ _; omega
  · show slots + fN ci + (β.2 - fN ci) ≤ _; omega

theorem pw_newI {n : Int32} {N : Nat} (hdg : decode cc pc = .ok (.newarray .int, 2)) (hac : Cond.arrayClass .int ∈ wsA) (hn : ¬ n < 0) (hN : n.toNatClampNeg = N) (hN2 : N ≤ 100000) (hβ : 1 ≤ β.1 ∧ N ≤ β.2) (kk : PW cc Y Z (pc + 2) ls (.ref (σ.1 + 1) :: st) (σnew σ 20 N) (Inew σ I) (Fnew σ F) (β.1 - 1, β.2 - N)) : PW cc Y Z pc ls (.int n :: st) σ I F β := by
  intro p l e R s m args below meth c D base b al0 l0 d0 H locs cells slots lsM stM hc hd hls hs hw hS hk1 hk2
  obtain ⟨hx, hb, hr0, hts, hown, hlk, hml, hrf, hrl, hbs, hsp, -⟩ := id hc
  obtain ⟨_, t0, rfl, rfl, hs⟩ := hs
  obtain ⟨ws, tys, g1, g2, g3, g4, g5, g6, g7, g8, g9, g10, g11⟩ := id hw
  refine va_newa (s := s.setDrawn d0) (D := D) (A := fun q : Nat => base ≤ q) (atype := .int) (a0 := (N, .inl (fun _ => 0))) hx hb (dr_words hts d0 _ hac) rfl g4 g3 g5 hS (fun q9 h9 => Nat.le_trans hbs h9) (fun cA => rfl) hn hN (by show N * 4 ≤ _; omega) (by omega) (by omega) hdg (fun q cA H1 hK1 hP1 hD1 hS1 => ?_)
  have hce : ce ((al0 ++ l0) ++ [q]) (tys ++ [(cA, .int)]) (σnew σ 20 N) (Inew σ I) (Fnew σ F) (σ.1 + 1) (.inl (cA, N, .inl (fun _ => 0))) := by
    have hk0 : (σnew σ 20 N).2.1 (σ.1 + 1) = (20, N) := upr_s
    refine ⟨fun c h1 h2 => ?_, fun h1 => ?_, fun h1 => ?_, fun h1 => ?_, fun c h1 h2 => ?_⟩
    · exfalso; rw [hk0] at h1; (try dsimp only at h1); omega
    · exact ⟨cA, _, by rw [hk0], ⟨tys.length, by simp⟩, fun k hk => by simp [Inew, upr_s]⟩
    · exfalso; rw [hk0] at h1; (try dsimp only at h1); omega
    · exfalso; rw [hk0] at h1; (try dsimp only at h1); omega
    · exfalso; rw [hk0] at h1; (try dsimp only at h1); omega
  obtain ⟨hw1, hq1⟩ := wr_push (σ' := σnew σ 20 N) (I' := Inew σ I) (F' := Fnew σ F) (ts := [(cA, .int)]) g1 g2 g6 g7 g8 g9 hbs g11 hK1 hP1 hD1 hS hS1 rfl (fun q9 h9 => upr_n h9) (fun q9 h9 => upr_n h9) (fun q9 h9 => upr_n h9) (fun q9 h9 => upr_n h9) hce
  rw [List.append_assoc] at hw1 hq1
  refine kk p l e R s m args below meth c D base b al0 (l0 ++ [q]) d0 H1 locs _ _ lsM _ hc hd (by rw [← List.append_assoc]; exact lr_app hls) ⟨_, _, rfl, ⟨q, hq1, rfl⟩, by rw [← List.append_assoc]; exact sr_app hs⟩ hw1 hS1 ?_ ?_
  · show cells + 1 + (β.1 - 1) ≤ _; omega
  · show slots + N + (β.2 - N) ≤ _; omega

theorem pw_newC {n : Int32} {N : Nat} (hdg : decode cc pc = .ok (.newarray .char, 2)) (hac : Cond.arrayClass .char ∈ wsA) (hn : ¬ n < 0) (hN : n.toNatClampNeg = N) (hN2 : N ≤ 100000) (hβ : 1 ≤ β.1 ∧ N ≤ β.2) (kk : PW cc Y Z (pc + 2) ls (.ref (σ.1 + 1) :: st) (σnew σ 21 N) (Inew σ I) (Fnew σ F) (β.1 - 1, β.2 - N)) : PW cc Y Z pc ls (.int n :: st) σ I F β := by
  intro p l e R s m args below meth c D base b al0 l0 d0 H locs cells slots lsM stM hc hd hls hs hw hS hk1 hk2
  obtain ⟨hx, hb, hr0, hts, hown, hlk, hml, hrf, hrl, hbs, hsp, -⟩ := id hc
  obtain ⟨_, t0, rfl, rfl, hs⟩ := hs
  obtain ⟨ws, tys, g1, g2, g3, g4, g5, g6, g7, g8, g9, g10, g11⟩ := id hw
  refine va_newa (s := s.setDrawn d0) (D := D) (A := fun q : Nat => base ≤ q) (atype := .char) (a0 := (N, .inl (fun _ => 0))) hx hb (dr_words hts d0 _ hac) rfl g4 g3 g5 hS (fun q9 h9 => Nat.le_trans hbs h9) (fun cA => rfl) hn hN (by show N * 2 ≤ _; omega) (by omega) (by omega) hdg (fun q cA H1 hK1 hP1 hD1 hS1 => ?_)
  have hce : ce ((al0 ++ l0) ++ [q]) (tys ++ [(cA, .char)]) (σnew σ 21 N) (Inew σ I) (Fnew σ F) (σ.1 + 1) (.inl (cA, N, .inl (fun _ => 0))) := by
    have hk0 : (σnew σ 21 N).2.1 (σ.1 + 1) = (21, N) := upr_s
    refine ⟨fun c h1 h2 => ?_, fun h1 => ?_, fun h1 => ?_, fun h1 => ?_, fun c h1 h2 => ?_⟩
    · exfalso; rw [hk0] at h1; (try dsimp only at h1); omega
    · exfalso; rw [hk0] at h1; (try dsimp only at h1); omega
    · exact ⟨cA, _, by rw [hk0], ⟨tys.length, by simp⟩, fun k hk => by simp [Inew, upr_s]⟩
    · exfalso; rw [hk0] at h1; (try dsimp only at h1); omega
    · exfalso; rw [hk0] at h1; (try dsimp only at h1); omega
  obtain ⟨hw1, hq1⟩ := wr_push (σ' := σnew σ 21 N) (I' := Inew σ I) (F' := Fnew σ F) (ts := [(cA, .char)]) g1 g2 g6 g7 g8 g9 hbs g11 hK1 hP1 hD1 hS hS1 rfl (fun q9 h9 => upr_n h9) (fun q9 h9 => upr_n h9) (fun q9 h9 => upr_n h9) (fun q9 h9 => upr_n h9) hce
  rw [List.append_assoc] at hw1 hq1
  refine kk p l e R s m args below meth c D base b al0 (l0 ++ [q]) d0 H1 locs _ _ lsM _ hc hd (by rw [← List.append_assoc]; exact lr_app hls) ⟨_, _, rfl, ⟨q, hq1, rfl⟩, by rw [← List.append_assoc]; exact sr_app hs⟩ hw1 hS1 ?_ ?_
  · show cells + 1 + (β.1 - 1) ≤ _; omega
  · show slots + N + (β.2 - N) ≤ _; omega

theorem pw_newF {n : Int32} {N : Nat} (hdg : decode cc pc = .ok (.newarray .float, 2)) (hac : Cond.arrayClass .float ∈ wsA) (hn : ¬ n < 0) (hN : n.toNatClampNeg = N) (hN2 : N ≤ 100000) (hβ : 1 ≤ β.1 ∧ N ≤ β.2) (kk : PW cc Y Z (pc + 2) ls (.ref (σ.1 + 1) :: st) (σnew σ 22 N) (Inew σ I) (Fnew σ F) (β.1 - 1, β.2 - N)) : PW cc Y Z pc ls (.int n :: st) σ I F β := by
  intro p l e R s m args below meth c D base b al0 l0 d0 H locs cells slots lsM stM hc hd hls hs hw hS hk1 hk2
  obtain ⟨hx, hb, hr0, hts, hown, hlk, hml, hrf, hrl, hbs, hsp, -⟩ := id hc
  obtain ⟨_, t0, rfl, rfl, hs⟩ := hs
  obtain ⟨ws, tys, g1, g2, g3, g4, g5, g6, g7, g8, g9, g10, g11⟩ := id hw
  refine va_newa (s := s.setDrawn d0) (D := D) (A := fun q : Nat => base ≤ q) (atype := .float) (a0 := (N, .inr (.inr (.inl (fun _ => 0))))) hx hb (dr_words hts d0 _ hac) rfl g4 g3 g5 hS (fun q9 h9 => Nat.le_trans hbs h9) (fun cA => rfl) hn hN (by show N * 4 ≤ _; omega) (by omega) (by omega) hdg (fun q cA H1 hK1 hP1 hD1 hS1 => ?_)
  have hce : ce ((al0 ++ l0) ++ [q]) (tys ++ [(cA, .float)]) (σnew σ 22 N) (Inew σ I) (Fnew σ F) (σ.1 + 1) (.inl (cA, N, .inr (.inr (.inl (fun _ => 0))))) := by
    have hk0 : (σnew σ 22 N).2.1 (σ.1 + 1) = (22, N) := upr_s
    refine ⟨fun c h1 h2 => ?_, fun h1 => ?_, fun h1 => ?_, fun h1 => ?_, fun c h1 h2 => ?_⟩
    · exfalso; rw [hk0] at h1; (try dsimp only at h1); omega
    · exfalso; rw [hk0] at h1; (try dsimp only at h1); omega
    · exfalso; rw [hk0] at h1; (try dsimp only at h1); omega
    · exact ⟨cA, _, by rw [hk0], ⟨tys.length, by simp⟩, fun k hk => by simp [Fnew, upr_s, alike32_refl]⟩
    · exfalso; rw [hk0] at h1; (try dsimp only at h1); omega
  obtain ⟨hw1, hq1⟩ := wr_push (σ' := σnew σ 22 N) (I' := Inew σ I) (F' := Fnew σ F) (ts := [(cA, .float)]) g1 g2 g6 g7 g8 g9 hbs g11 hK1 hP1 hD1 hS hS1 rfl (fun q9 h9 => upr_n h9) (fun q9 h9 => upr_n h9) (fun q9 h9 => upr_n h9) (fun q9 h9 => upr_n h9) hce
  rw [List.append_assoc] at hw1 hq1
  refine kk p l e R s m args below meth c D base b al0 (l0 ++ [q]) d0 H1 locs _ _ lsM _ hc hd (by rw [← List.append_assoc]; exact lr_app hls) ⟨_, _, rfl, ⟨q, hq1, rfl⟩, by rw [← List.append_assoc]; exact sr_app hs⟩ hw1 hS1 ?_ ?_
  · show cells + 1 + (β.1 - 1) ≤ _; omega
  · show slots + N + (β.2 - N) ≤ _; omega

theorem pw_newA {idx ci N : Nat} {n : Int32} (hdg : decode cc pc = .ok (.anewarray idx, 3)) (hci : ci < 8) (hcl : Cond.classLink Y.1 idx (cnm ci) ∈ wsA) (hao : cnm ci ∈ spA) (hn : ¬ n < 0) (hN : n.toNatClampNeg = N) (hN2 : N ≤ 100000) (hβ : 1 ≤ β.1 ∧ N ≤ β.2) (kk : PW cc Y Z (pc + 3) ls (.ref (σ.1 + 1) :: st) (σnew σ (ci + 30) N) (Inew σ I) (Fnew σ F) (β.1 - 1, β.2 - N)) : PW cc Y Z pc ls (.int n :: st) σ I F β := by
  intro p l e R s m args below meth c D base b al0 l0 d0 H locs cells slots lsM stM hc hd hls hs hw hS hk1 hk2
  obtain ⟨hx, hb, hr0, hts, hown, hlk, hml, hrf, hrl, hbs, hsp, -⟩ := id hc
  obtain ⟨_, t0, rfl, rfl, hs⟩ := hs
  obtain ⟨ws, tys, g1, g2, g3, g4, g5, g6, g7, g8, g9, g10, g11⟩ := id hw
  refine va_newq (s := s.setDrawn d0) (D := D) (A := fun q : Nat => base ≤ q) (C := cnm ci) hx hb hown (dr_words hts d0 _ hcl) ((spW_vm (u := s) (U := s.setDrawn d0) rfl hsp).2 _ hao) g4 g3 g5 hS (fun q9 h9 => Nat.le_trans hbs h9) hn hN (by omega) (by omega) (by omega) hdg (fun q cA H1 hK1 hP1 hD1 hS1 => ?_)
  have hce : ce ((al0 ++ l0) ++ [q]) (tys ++ [(cA, .object (cnm ci))]) (σnew σ (ci + 30) N) (Inew σ I) (Fnew σ F) (σ.1 + 1) (.inl (cA, N, .inr (.inr (.inr (.inr (fun _ => none)))))) := by
    have hk0 : (σnew σ (ci + 30) N).2.1 (σ.1 + 1) = ((ci + 30), N) := upr_s
    refine ⟨fun c h1 h2 => ?_, fun h1 => ?_, fun h1 => ?_, fun h1 => ?_, fun c h1 h2 => ?_⟩
    · exfalso; rw [hk0] at h1; (try dsimp only at h1); omega
    · exfalso; rw [hk0] at h1; (try dsimp only at h1); omega
    · exfalso; rw [hk0] at h1; (try dsimp only at h1); omega
    · exfalso; rw [hk0] at h1; (try dsimp only at h1); omega
    · rw [hk0] at h1; have hcc : ci = c := by (try dsimp only at h1); omega
      subst hcc
      refine ⟨cA, _, by rw [hk0], ⟨tys.length, by simp⟩, fun k hk => ?_⟩
      simp only [σnew, upr_s, rv, va_rf, vr]
  obtain ⟨hw1, hq1⟩ := wr_push (σ' := σnew σ (ci + 30) N) (I' := Inew σ I) (F' := Fnew σ F) (ts := [(cA, .object (cnm ci))]) g1 g2 g6 g7 g8 g9 hbs g11 hK1 hP1 hD1 hS hS1 rfl (fun q9 h9 => upr_n h9) (fun q9 h9 => upr_n h9) (fun q9 h9 => upr_n h9) (fun q9 h9 => upr_n h9) hce
  rw [List.append_assoc] at hw1 hq1
  refine kk p l e R s m args below meth c D base b al0 (l0 ++ [q]) d0 H1 locs _ _ lsM _ hc hd (by rw [← List.append_assoc]; exact lr_app hls) ⟨_, _, rfl, ⟨q, hq1, rfl⟩, by rw [← List.append_assoc]; exact sr_app hs⟩ hw1 hS1 ?_ ?_
  · show cells + 1 + (β.1 - 1) ≤ _; omega
  · show slots + N + (β.2 - N) ≤ _; omega

end PA

