/-! the law's loop, its start -/
theorem fN_7 : fN 7 = 6 := rfl
theorem fN_8 : fN 8 = 15 := rfl
theorem hd_small : ∀ L, L < 7 → ∀ i, i < 7 → nI L - 7 < nI i := by decide +kernel
theorem hd_le {L i : Nat} (hL : L ≤ 3584) (hi : i ≤ L) (h : ¬ nI L - 7 < nI i) : i + 7 ≤ L := by
  rcases Nat.lt_or_ge L 7 with h7 | h7
  · exact absurd (hd_small L h7 i (by omega)) h
  · have e : nI L - 7 = nI (L - 7) := pk_sub (a := L) (b := 7) h7
    rw [e] at h
    rcases Nat.lt_or_ge (L - 7) i with h8 | h8
    · exact absurd (nI_lt h8 (by omega)) h
    · omega

theorem law_loop {σ : pT} {x m L : Nat} (hT : isTW σ x) (hMo : isMo σ m) (hL : (σ.2.1 0).2 = L) (hL4 : L ≤ 3584) (hx : 1 ≤ x) (hm : x + 320 ≤ m) : ∀ (d i : Nat), L ≤ i + d → i ≤ L → ∀ (I : pI) (F : pF), Inv x m I F → PW cL_law mW lwZ 18 [.ref 0, .ref x, .ref m, .int (nI i), pJ, pJ, pJ, pJ] [] σ I F (0, 0) := by
  intro d
  induction d with
  | zero =>
    intro i hd hi I F hv
    refine pw_iload_n dL_law_18 rfl rfl ?_
    refine pw_aload_n dL_law_19 rfl rfl ?_
    refine pw_slen dL_law_20 hL ?_
    refine pw_bipush (v := 7) dL_law_21 (by decide) ?_
    refine pw_isub dL_law_23 ?_
    refine pw_icmp_gt (tgt := 1029) dL_law_24 (by decide) (fun c_24 => ?_) (fun c_24 => absurd (hd_le hL4 hi c_24) (by omega))
    refine pw_iconst (v := 1) dL_law_1029 (by decide) ?_
    exact pw_lret dL_law_1030
  | succ d ih =>
    intro i hd hi I F hv
    refine pw_iload_n dL_law_18 rfl rfl ?_
    refine pw_aload_n dL_law_19 rfl rfl ?_
    refine pw_slen dL_law_20 hL ?_
    refine pw_bipush (v := 7) dL_law_21 (by decide) ?_
    refine pw_isub dL_law_23 ?_
    refine pw_icmp_gt (tgt := 1029) dL_law_24 (by decide) (fun c_24 => ?_) (fun c_24 => ?_)
    · refine pw_iconst (v := 1) dL_law_1029 (by decide) ?_
      exact pw_lret dL_law_1030
    have h7 := hd_le hL4 hi c_24
    have K : ∀ (I' : pI) (F' : pF), Inv x m I' F' → PW cL_law mW lwZ 1023 [.ref 0, .ref x, .ref m, .int (nI i), pJ, pJ, pJ, pJ] [] σ I' F' (0, 0) := by
      intro I' F' hv'
      refine pw_iinc (v := nI (i + 7)) dL_law_1023 rfl (nI_add _ _) rfl ?_
      refine pw_goto (tgt := 18) dL_law_1026 (by decide) ?_
      exact ih (i + 7) (by omega) h7 I' F' hv'
    refine pw_aload_n dL_law_27 rfl rfl ?_
    refine pw_iload_n dL_law_28 rfl rfl ?_
    refine pw_saldN (j := i) dL_law_29 hL (by omega) (by omega) ?_
    refine pw_bipush (v := 31) dL_law_30 (by decide) ?_
    refine pw_iand dL_law_32 ?_
    obtain ⟨nA, nC, n, o, z, l, h⟩ := hv
    generalize I 0 i &&& 31 = w
    rcases sw_cases w 26 (by decide) with ⟨kw, hkw, rfl⟩ | hout
    · rcases (show kw = 0 ∨ kw = 1 ∨ kw = 2 ∨ kw = 3 ∨ kw = 4 ∨ kw = 5 ∨ kw = 6 ∨ kw = 7 ∨ kw = 8 ∨ kw = 9 ∨ kw = 10 ∨ kw = 11 ∨ kw = 12 ∨ kw = 13 ∨ kw = 14 ∨ kw = 15 ∨ kw = 16 ∨ kw = 17 ∨ kw = 18 ∨ kw = 19 ∨ kw = 20 ∨ kw = 21 ∨ kw = 22 ∨ kw = 23 ∨ kw = 24 ∨ kw = 25 ∨ kw = 26 by omega) with rfl | rfl | rfl | rfl | rfl | rfl | rfl | rfl | rfl | rfl | rfl | rfl | rfl | rfl | rfl | rfl | rfl | rfl | rfl | rfl | rfl | rfl | rfl | rfl | rfl | rfl | rfl
      · refine pw_tableIn (x := nI 0) (off := 123) (tgt := 156) dL_law_33 (by decide) (by decide) (by decide) (by decide) ?_
        exact law_addAsset hT hMo hL hL4 hx hm h7 h K
      · refine pw_tableIn (x := nI 1) (off := 156) (tgt := 189) dL_law_33 (by decide) (by decide) (by decide) (by decide) ?_
        exact law_link hT hMo hL hL4 hx hm h7 h K
      · refine pw_tableIn (x := nI 2) (off := 215) (tgt := 248) dL_law_33 (by decide) (by decide) (by decide) (by decide) ?_
        exact law_bar hT hMo hL hL4 hx hm h7 h K
      · refine pw_tableIn (x := nI 3) (off := 274) (tgt := 307) dL_law_33 (by decide) (by decide) (by decide) (by decide) ?_
        exact law_addCrew hT hMo hL hL4 hx hm h7 h K
      · refine pw_tableIn (x := nI 4) (off := 307) (tgt := 340) dL_law_33 (by decide) (by decide) (by decide) (by decide) ?_
        exact law_addTask hT hMo hL hL4 hx hm h7 h K
      · refine pw_tableIn (x := nI 5) (off := 382) (tgt := 415) dL_law_33 (by decide) (by decide) (by decide) (by decide) ?_
        exact law_run hT hMo hL hL4 hx hm h7 h K
      · refine pw_tableIn (x := nI 6) (off := 405) (tgt := 438) dL_law_33 (by decide) (by decide) (by decide) (by decide) ?_
        exact law_stop hT hMo hL hL4 hx hm h7 h K
      · refine pw_tableIn (x := nI 7) (off := 428) (tgt := 461) dL_law_33 (by decide) (by decide) (by decide) (by decide) ?_
        exact law_hang hT hMo hL hL4 hx hm h7 h K
      · refine pw_tableIn (x := nI 8) (off := 461) (tgt := 494) dL_law_33 (by decide) (by decide) (by decide) (by decide) ?_
        exact law_begin hT hMo hL hL4 hx hm h7 h K
      · refine pw_tableIn (x := nI 9) (off := 484) (tgt := 517) dL_law_33 (by decide) (by decide) (by decide) (by decide) ?_
        exact law_lift hT hMo hL hL4 hx hm h7 h K
      · refine pw_tableIn (x := nI 10) (off := 517) (tgt := 550) dL_law_33 (by decide) (by decide) (by decide) (by decide) ?_
        exact law_cancel hT hMo hL hL4 hx hm h7 h K
      · refine pw_tableIn (x := nI 11) (off := 540) (tgt := 573) dL_law_33 (by decide) (by decide) (by decide) (by decide) ?_
        exact law_pass hT hMo hL hL4 hx hm h7 h K
      · refine pw_tableIn (x := nI 12) (off := 563) (tgt := 596) dL_law_33 (by decide) (by decide) (by decide) (by decide) ?_
        exact law_type hT hMo hL hL4 hx hm h7 h K
      · refine pw_tableIn (x := nI 13) (off := 588) (tgt := 621) dL_law_33 (by decide) (by decide) (by decide) (by decide) ?_
        exact law_clearText hT hMo hL hL4 hx hm h7 h K
      · refine pw_tableIn (x := nI 14) (off := 601) (tgt := 634) dL_law_33 (by decide) (by decide) (by decide) (by decide) ?_
        exact law_perform hT hMo hL hL4 hx hm h7 h K
      · refine pw_tableIn (x := nI 15) (off := 614) (tgt := 647) dL_law_33 (by decide) (by decide) (by decide) (by decide) ?_
        exact law_undo hT hMo hL hL4 hx hm h7 h K
      · refine pw_tableIn (x := nI 16) (off := 627) (tgt := 660) dL_law_33 (by decide) (by decide) (by decide) (by decide) ?_
        exact law_keep hT hMo hL hL4 hx hm h7 h K
      · refine pw_tableIn (x := nI 17) (off := 640) (tgt := 673) dL_law_33 (by decide) (by decide) (by decide) (by decide) ?_
        exact law_restore hT hMo hL hL4 hx hm h7 h K
      · refine pw_tableIn (x := nI 18) (off := 653) (tgt := 686) dL_law_33 (by decide) (by decide) (by decide) (by decide) ?_
        exact law_real hT hMo hL hL4 hx hm h7 h K
      · refine pw_tableIn (x := nI 19) (off := 716) (tgt := 749) dL_law_33 (by decide) (by decide) (by decide) (by decide) ?_
        exact law_healthIn hT hMo hL hL4 hx hm h7 h K
      · refine pw_tableIn (x := nI 20) (off := 779) (tgt := 812) dL_law_33 (by decide) (by decide) (by decide) (by decide) ?_
        exact law_hoursTo hT hMo hL hL4 hx hm h7 h K
      · refine pw_tableIn (x := nI 21) (off := 812) (tgt := 845) dL_law_33 (by decide) (by decide) (by decide) (by decide) ?_
        exact law_asset hT hMo hL hL4 hx hm h7 h K
      · refine pw_tableIn (x := nI 22) (off := 845) (tgt := 878) dL_law_33 (by decide) (by decide) (by decide) (by decide) ?_
        exact law_tagAt hT hMo hL hL4 hx hm h7 h K
      · refine pw_tableIn (x := nI 23) (off := 878) (tgt := 911) dL_law_33 (by decide) (by decide) (by decide) (by decide) ?_
        exact law_crew hT hMo hL hL4 hx hm h7 h K
      · refine pw_tableIn (x := nI 24) (off := 911) (tgt := 944) dL_law_33 (by decide) (by decide) (by decide) (by decide) ?_
        exact law_task hT hMo hL hL4 hx hm h7 h K
      · refine pw_tableIn (x := nI 25) (off := 944) (tgt := 977) dL_law_33 (by decide) (by decide) (by decide) (by decide) ?_
        exact law_crewFor hT hMo hL hL4 hx hm h7 h K
      · refine pw_tableIn (x := nI 26) (off := 967) (tgt := 1000) dL_law_33 (by decide) (by decide) (by decide) (by decide) ?_
        exact law_count hT hMo hL hL4 hx hm h7 h K
    · refine pw_tableOut (tgt := 1023) dL_law_33 hout (by decide) ?_
      exact K _ _ ⟨nA, nC, n, o, z, l, h⟩

theorem isTW_fr {σ σ' : pT} {x : Nat} (h : isTW σ x) (hf : ∀ i, x ≤ i → i < x + 320 → σ'.2.1 i = σ.2.1 i ∧ σ'.2.2 i = σ.2.2 i) : isTW σ' x := by
  obtain ⟨a1, a2, a3, a4, a5, a6, b1, b2, b3, b4, b5⟩ := h
  have ex := hf x (by omega) (by omega)
  exact ⟨by rw [ex.1]; exact a1, by rw [ex.2]; exact a2, by rw [ex.2]; exact a3, by rw [ex.2]; exact a4, by rw [ex.2]; exact a5, by rw [ex.2]; exact a6, isPl_fr b1 (fun i h1 h2 => hf i (by omega) (by omega)), isPl_fr b2 (fun i h1 h2 => hf i (by omega) (by omega)), isPl_fr b3 (fun i h1 h2 => hf i (by omega) (by omega)), isHi_fr b4 (fun i h1 h2 => hf i (by omega) (by omega)), isOr_fr b5 (fun i h1 h2 => hf i (by omega) (by omega))⟩
theorem plZ_fr {p : Nat} {I I' : pI} (h : plZ p I) (hf : ∀ i, p ≤ i → i < p + 42 → I' i = I i) : plZ p I' := by
  obtain ⟨h1, h2, h3⟩ := h
  exact ⟨fun t => by rw [hf p (by omega) (by omega)]; exact h1 t, fun k => by rw [hf _ (by omega) (by omega)]; exact h2 k, RepB_eq h3 (fun i h4 h5 => hf i (by omega) (by omega))⟩
theorem twZ_fr {x : Nat} {I I' : pI} (h : twZ x I) (hf : ∀ i, x ≤ i → i < x + 320 → I' i = I i) : twZ x I' := by
  obtain ⟨h1, h2, h3, h4, ⟨h5, h6⟩, h7⟩ := h
  exact ⟨fun t => by rw [hf x (by omega) (by omega)]; exact h1 t, plZ_fr h2 (fun i h8 h9 => hf i (by omega) (by omega)), plZ_fr h3 (fun i h8 h9 => hf i (by omega) (by omega)), plZ_fr h4 (fun i h8 h9 => hf i (by omega) (by omega)), ⟨fun t => by rw [hf _ (by omega) (by omega)]; exact h5 t, fun i hi => RepB_eq (h6 i hi) (fun j h8 h9 => hf j (by omega) (by omega))⟩, fun t => by rw [hf _ (by omega) (by omega)]; exact h7 t⟩
/-- the pure world at the start: the script alone -/
abbrev σL (L : Nat) : pT := (0, fun q => if q = 0 then (99, L) else (0, 0), fun _ _ => none)

theorem law_all {L : Nat} {I0 : pI} {F0 : pF} (hL4 : L ≤ 3584) : PW cL_law mW lwZ 0 [.ref 0, pJ, pJ, pJ, pJ, pJ, pJ, pJ] [] (σL L) I0 F0 (600000, 7302250) := by
  have k0 : (σL L).2.1 0 = (99, L) := rfl
  have s0 : (σL L).1 = 0 := rfl
  generalize σL L = σ at k0 s0 ⊢
  refine pw_new (ci := 7) dL_law_0 (by decide) fd_RX7_10 cl_RL_7 in_RX7 ii_RX7 (by constructor <;> (try simp only [fN_7, fN_8]) <;> (try dsimp only) <;> omega) ?_
  refine pw_dup dL_law_3 rfl ?_
  refine pw_callI dL_law_4 oX_X7_init lk_RL_9 (sp_i7 (x := σ.1 + 1) rfl (by show (upr σ.2.1 (σ.1 + 1) (7 + 1, 6) (σ.1 + 1)).1 = _; rw [upr_s]) (fun t => by show upr I0 (σ.1 + 1) (fun _ => 0) (σ.1 + 1) t = 0; rw [upr_s])) rfl rfl (Nat.le_of_ble_eq_true rfl) (by decide) (by constructor <;> (try simp only [fN_7, fN_8]) <;> (try dsimp only) <;> omega) (fun v σ1 I1 F1 hq => ?_)
  obtain ⟨rfl, h1, he1, hT1, hZ1⟩ := hq
  refine pw_astore_n dL_law_7 rfl (by decide) rfl ?_
  refine pw_new (ci := 8) dL_law_8 (by decide) fd_RX8_7 cl_RL_10 in_RX8 ii_RX8 (by constructor <;> (try simp only [fN_7, fN_8]) <;> (try dsimp only) <;> omega) ?_
  refine pw_dup dL_law_11 rfl ?_
  refine pw_callI dL_law_12 oX_X8_init lk_RL_12 (sp_i8 (m := σ1.1 + 1) rfl (by show (upr σ1.2.1 (σ1.1 + 1) (8 + 1, 15) (σ1.1 + 1)).1 = _; rw [upr_s]) (fun t => by show upr I1 (σ1.1 + 1) (fun _ => 0) (σ1.1 + 1) t = 0; rw [upr_s])) rfl rfl (Nat.le_of_ble_eq_true rfl) (by decide) (by constructor <;> (try simp only [fN_7, fN_8]) <;> (try dsimp only) <;> omega) (fun v σ2 I2 F2 hq => ?_)
  obtain ⟨rfl, h2, he2, hMo, hZ2, hZ3⟩ := hq
  refine pw_astore_n dL_law_15 rfl (by decide) rfl ?_
  refine pw_iconst (v := 0) dL_law_16 (by decide) ?_
  refine pw_istore_n dL_law_17 rfl (by decide) rfl ?_
  have e1 : σ.1 + 1 = 1 := by omega
  have e2 : σ1.1 + 1 = 321 := by omega
  rw [e1] at hT1 hZ1
  have J : ∀ i, i < 321 → σ2.2.1 i = σ1.2.1 i ∧ σ2.2.2 i = σ1.2.2 i ∧ I2 i = I1 i := fun i hi => by
    obtain ⟨b1, b2, b3, b4⟩ := he2 i (by omega)
    exact ⟨b1.trans (upr_n (by omega)), b2.trans (upr_n (by omega)), b3.trans (upr_n (by omega))⟩
  have hT : isTW σ2 1 := isTW_fr hT1 (fun i h3 h4 => ⟨(J i (by omega)).1, (J i (by omega)).2.1⟩)
  have hZ : twZ 1 I2 := twZ_fr hZ1 (fun i h3 h4 => (J i (by omega)).2.2)
  have hL : (σ2.2.1 0).2 = L := by
    rw [(J 0 (by omega)).1, (he1 0 (by omega)).1]
    show (upr σ.2.1 (σ.1 + 1) (7 + 1, fN 7) 0).2 = L
    rw [upr_n (by omega), k0]
  rw [e2] at hMo hZ2 hZ3
  rw [e1, e2]
  exact pw_mono ⟨Nat.zero_le _, Nat.zero_le _⟩ (law_loop hT hMo hL hL4 (Nat.le_refl _) (Nat.le_refl _) L 0 (by omega) (Nat.zero_le _) I2 F2 (inv_0 hZ hZ2 hZ3))

theorem whole_start {p : Program} {e : Env} {s : State} {m : MethodId} {below : List Frame} {meth : Method} {c : Code} (l : Launch) (hflags : l.flags = flags0) {b L : Nat} {xs : Nat → Int32} (hL : L ≤ 3584) (C0 : lw_At p s m meth c b L xs) : W p l e room_1 s m #[Value.ref b] below meth c s.heap [] 0 0 (lw_Z below #[Value.ref b] s) (entryFrame m ([Value.ref b] : List Value).toArray 8) := by
  obtain ⟨hx, hb, hr, hml, hown, hts, hX, hbl, hlocks, hgv⟩ := id C0
  obtain ⟨c0, i0, hKn0⟩ := u_known (C := RX0) (T := TX0) (N := 6) (n := 6) hts (fun w h => wsA_in w (iAX0 w h)) (hts _ (wsA_in _ in_RX0))
  obtain ⟨c1, i1, hKn1⟩ := u_known (C := RX1) (T := TX1) (N := 2) (n := 2) hts (fun w h => wsA_in w (iAX1 w h)) (hts _ (wsA_in _ in_RX1))
  obtain ⟨c2, i2, hKn2⟩ := u_known (C := RX2) (T := TX2) (N := 3) (n := 3) hts (fun w h => wsA_in w (iAX2 w h)) (hts _ (wsA_in _ in_RX2))
  obtain ⟨c3, i3, hKn3⟩ := u_known (C := RX3) (T := TX3) (N := 3) (n := 3) hts (fun w h => wsA_in w (iAX3 w h)) (hts _ (wsA_in _ in_RX3))
  obtain ⟨c4, i4, hKn4⟩ := u_known (C := RX4) (T := TX4) (N := 5) (n := 5) hts (fun w h => wsA_in w (iAX4 w h)) (hts _ (wsA_in _ in_RX4))
  obtain ⟨c5, i5, hKn5⟩ := u_known (C := RX5) (T := TX5) (N := 8) (n := 8) hts (fun w h => wsA_in w (iAX5 w h)) (hts _ (wsA_in _ in_RX5))
  obtain ⟨c6, i6, hKn6⟩ := u_known (C := RX6) (T := TX6) (N := 12) (n := 12) hts (fun w h => wsA_in w (iAX6 w h)) (hts _ (wsA_in _ in_RX6))
  obtain ⟨c7, i7, hKn7⟩ := u_known (C := RX7) (T := TX7) (N := 6) (n := 6) hts (fun w h => wsA_in w (iAX7 w h)) (hts _ (wsA_in _ in_RX7))
  obtain ⟨c8, i8, hKn8⟩ := u_known (C := RX8) (T := TX8) (N := 15) (n := 15) hts (fun w h => wsA_in w (iAX8 w h)) (hts _ (wsA_in _ in_RX8))
  obtain ⟨dC, dI, hKc⟩ : ∃ (dC : Nat → ClassId) (dI : Nat → Nat → Nat), ∀ (k : Nat) (q : vw_C), vwCl[k]? = some q → u_Kn s q.1 q.2.1 q.2.2 (dC k) (dI k) := by
    refine ⟨fun k => if k = 0 then c0 else if k = 1 then c1 else if k = 2 then c2 else if k = 3 then c3 else if k = 4 then c4 else if k = 5 then c5 else if k = 6 then c6 else if k = 7 then c7 else c8, fun k => if k = 0 then i0 else if k = 1 then i1 else if k = 2 then i2 else if k = 3 then i3 else if k = 4 then i4 else if k = 5 then i5 else if k = 6 then i6 else if k = 7 then i7 else i8, ?_⟩
    intro k q hq
    match k, hq with
    | 0, hq => cases hq; exact hKn0
    | 1, hq => cases hq; exact hKn1
    | 2, hq => cases hq; exact hKn2
    | 3, hq => cases hq; exact hKn3
    | 4, hq => cases hq; exact hKn4
    | 5, hq => cases hq; exact hKn5
    | 6, hq => cases hq; exact hKn6
    | 7, hq => cases hq; exact hKn7
    | 8, hq => cases hq; exact hKn8
    | k + 9, hq => simp [vwCl] at hq
  have hS : va_S (fun q : Nat => s.heap.size ≤ q) s.heap s.heap [] := va_S.rf
  have hK : va_K (dC, dI) vwCl [] s := ⟨hKc, fun k q h => by simp at h⟩
  have hP : va_P (dC, dI) vwCl [] s.heap := fun k q h => by simp at h
  have hD : va_D (fun q : Nat => s.heap.size ≤ q) [] := ⟨fun i j p q h => by simp at h, fun k q h => by simp at h⟩
  have hspW : spW s := ⟨fun q hq => va_Nw.of rfl (hts _ (spN_in q hq)), fun C hC => va_AO.of (hts _ (spA_in C hC))⟩
  refine W.base ?_
  rw [lg_entry_eq]
  have hsr : sr [b] [Value.ref 0] [Value.ref b] := ⟨_, _, rfl, ⟨b, rfl, rfl⟩, rfl⟩
  have hwr : wr (dC, dI) s.heap.size b ([b] ++ []) (σL L) (fun _ => xs) (fun _ _ => 0) s s.heap := ⟨[], [], rfl, rfl, hP, hK, hD, fun j a e h => by simp at h, fun j h => absurd rfl h, rfl, hbl, Nat.le_refl _, hX⟩
  have hlr := lr_entry (al := [b] ++ []) (as := [Value.ref 0]) (asM := [Value.ref b]) (nL := 8) (by rw [List.append_nil]; exact hsr) (fun v hv => by rw [List.mem_singleton.mp hv]; rfl) (by decide)
  intro T hT X
  obtain ⟨t, a1, b1⟩ := law_all (I0 := fun _ => xs) (F0 := fun _ _ => 0) hL p l e room_1 s m #[Value.ref b] below meth c (dC, dI) s.heap.size b [b] [] s.drawn s.heap [] 0 0 _ [] ⟨hx, hb, hr, fun w h => hts w (wsA_in w h), hown, hlocks, hml, rfl, rfl, Nat.le_refl _, hspW, fun h => by cases h⟩ (Drawn.sameBut.refl s.drawn lw_cs) hlr rfl hwr hS (Nat.le_of_ble_eq_true rfl) (Nat.le_of_ble_eq_true rfl) T hT X
  exact ⟨t, a1, b1 rfl rfl (Nat.le_refl _)⟩
