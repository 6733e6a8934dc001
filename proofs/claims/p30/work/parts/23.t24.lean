def RepB (p : Nat) (I : pI) : Prop := ∀ a, a < 8 → I (p + 5 + a) 4 = 0 ∨ I (p + 5 + a) 4 = 1
theorem RepB_eq {p : Nat} {I I' : pI} (h : RepB p I) (hI : ∀ i, p + 5 ≤ i → i < p + 13 → I' i = I i) : RepB p I' := fun a ha => by
  rw [hI _ (by omega) (by omega)]
  exact h a ha
/-! THE CONSTRUCTORS -/
section PB2
variable {cc : ByteArray} {Y : mB} {Z : pZ} {pc : Nat} {ls st : List Value} {σ : pT} {I : pI} {F : pF} {β : Nat × Nat}
theorem pr_callI {y : MethodName} {cy : ByteArray} {Yy : mB} {n idx q : Nat} {as : List Value} {Q : Option Value → pI → pF → Prop} {stk : List Value} (hdg : decode cc pc = .ok (.invokespecial idx, 3)) (hy : mOKI y cy Yy n) (hl : Cond.methodLink Y.1 idx y ∈ wsA) (hM : PR y cy Yy (.ref q :: as) σ I F Q)
    (hn : as.length = n) (hst : stk = as.reverse ++ .ref q :: st) (hcat : (st.map fun v => v.category).sum ≤ 8) (hR : Yy.2.2.2.1 + 1 ≤ Y.2.2.2.1 ∧ 8 + (Yy.2.1 + 11) + Yy.2.2.2.2.1 ≤ Y.2.2.2.2.1)
    (k : ∀ v I' F', Q v I' F' → PW cc Y Z (pc + 3) ls (v.toList ++ st) σ I' F' β) : PW cc Y Z pc ls stk σ I F β :=
  pw_callI hdg hy hl hM hn hst hcat hR ⟨Nat.zero_le _, Nat.zero_le _⟩ (by rintro v _ I' F' ⟨rfl, h⟩; exact k v I' F' h)
theorem pr_callIN {y : MethodName} {cy : ByteArray} {Yy : mB} {n idx q : Nat} {as : List Value} {Q : Option Value → pI → pF → Prop} {stk : List Value} (hdg : decode cc pc = .ok (.invokespecial idx, 3)) (hy : mOKI y cy Yy n) {host : String} (hl : (Y.1, idx, y, host) ∈ spN) (hM : PR y cy Yy (.ref q :: as) σ I F Q)
    (hn : as.length = n) (hst : stk = as.reverse ++ .ref q :: st) (hcat : (st.map fun v => v.category).sum ≤ 8) (hR : Yy.2.2.2.1 + 1 ≤ Y.2.2.2.1 ∧ 8 + (Yy.2.1 + 11) + Yy.2.2.2.2.1 ≤ Y.2.2.2.2.1)
    (k : ∀ v I' F', Q v I' F' → PW cc Y Z (pc + 3) ls (v.toList ++ st) σ I' F' β) : PW cc Y Z pc ls stk σ I F β :=
  pw_callIN hdg hy hl hM hn hst hcat hR ⟨Nat.zero_le _, Nat.zero_le _⟩ (by rintro v _ I' F' ⟨rfl, h⟩; exact k v I' F' h)
theorem pw_mono {β' : Nat × Nat} (h : β'.1 ≤ β.1 ∧ β'.2 ≤ β.2) (k : PW cc Y Z pc ls st σ I F β') : PW cc Y Z pc ls st σ I F β := by
  intro p l e R s m args below meth c D base b al0 l0 d0 H locs cells slots lsM stM hc hd hls hs hw hS hk1 hk2
  exact k p l e R s m args below meth c D base b al0 l0 d0 H locs cells slots lsM stM hc hd hls hs hw hS (by omega) (by omega)
end PB2
theorem fN_0 : fN 0 = 6 := rfl
theorem fN_1 : fN 1 = 2 := rfl
theorem fN_2 : fN 2 = 3 := rfl
theorem fN_3 : fN 3 = 3 := rfl
theorem fN_4 : fN 4 = 5 := rfl
theorem fN_5 : fN 5 = 8 := rfl
theorem fN_6 : fN 6 = 12 := rfl
/-- what lies below b is as it was -/
def ext (b : Nat) (σ σ' : pT) (I I' : pI) (F F' : pF) : Prop := ∀ i, i < b → σ'.2.1 i = σ.2.1 i ∧ σ'.2.2 i = σ.2.2 i ∧ I' i = I i ∧ F' i = F i
theorem ext_t {b b' : Nat} {σ σ1 σ' : pT} {I I1 I' : pI} {F F1 F' : pF} (h : ext b σ σ1 I I1 F F1) (h2 : ext b' σ1 σ' I1 I' F1 F') (hb : b ≤ b') : ext b σ σ' I I' F F' := fun i hi => by
  obtain ⟨a1, a2, a3, a4⟩ := h i hi
  obtain ⟨b1, b2, b3, b4⟩ := h2 i (by omega)
  exact ⟨b1.trans a1, b2.trans a2, b3.trans a3, b4.trans a4⟩
/-- a constructor's end: s cells more, what lay below p is as it was -/
def nwQ (p s : Nat) (σ : pT) (I : pI) (F : pF) (Q : pT → pI → Prop) : pQ := fun v σ' I' F' => v = none ∧ σ'.1 = p + s ∧ ext p σ σ' I I' F F' ∧ Q σ' I'
theorem isPl_fr {σ σ' : pT} {p : Nat} (h : isPl σ p) (hf : ∀ i, p ≤ i → i < p + 42 → σ'.2.1 i = σ.2.1 i ∧ σ'.2.2 i = σ.2.2 i) : isPl σ' p := by
  obtain ⟨a1, a2, a3, a4, a5, a6, a7, a8, a9, b1, b2, b3, b4, b5, b6⟩ := h
  refine ⟨by rw [(hf p (by omega) (by omega)).1]; exact a1, by rw [(hf p (by omega) (by omega)).2]; exact a2, by rw [(hf p (by omega) (by omega)).2]; exact a3, by rw [(hf p (by omega) (by omega)).2]; exact a4, by rw [(hf p (by omega) (by omega)).2]; exact a5,
    by rw [(hf (p + 1) (by omega) (by omega)).1]; exact a6, by rw [(hf (p + 2) (by omega) (by omega)).1]; exact a7, by rw [(hf (p + 3) (by omega) (by omega)).1]; exact a8, by rw [(hf (p + 4) (by omega) (by omega)).1]; exact a9,
    fun i hi => by rw [(hf (p + 1) (by omega) (by omega)).2]; exact b1 i hi, fun i hi => by rw [(hf (p + 5 + i) (by omega) (by omega)).1]; exact b2 i hi,
    fun i hi => by rw [(hf (p + 2) (by omega) (by omega)).2]; exact b3 i hi, fun i hi => by rw [(hf (p + 13 + i) (by omega) (by omega)).1]; exact b4 i hi,
    fun i hi => by rw [(hf (p + 3) (by omega) (by omega)).2]; exact b5 i hi, fun i hi => by rw [(hf (p + 18 + i) (by omega) (by omega)).1]; exact b6 i hi⟩
theorem isHi_fr {σ σ' : pT} {q : Nat} (h : isHi σ q) (hf : ∀ i, q ≤ i → i < q + 170 → σ'.2.1 i = σ.2.1 i ∧ σ'.2.2 i = σ.2.2 i) : isHi σ' q := by
  obtain ⟨a1, a2, a3, a4, a5⟩ := h
  exact ⟨by rw [(hf q (by omega) (by omega)).1]; exact a1, by rw [(hf q (by omega) (by omega)).2]; exact a2, by rw [(hf (q + 1) (by omega) (by omega)).1]; exact a3, fun i hi => by rw [(hf (q + 1) (by omega) (by omega)).2]; exact a4 i hi, fun i hi => isPl_fr (a5 i hi) (fun j h1 h2 => hf j (by omega) (by omega))⟩
theorem isOr_fr {σ σ' : pT} {q : Nat} (h : isOr σ q) (hf : ∀ i, q ≤ i → i < q + 23 → σ'.2.1 i = σ.2.1 i ∧ σ'.2.2 i = σ.2.2 i) : isOr σ' q := by
  obtain ⟨a1, a2, a3, a4, a5, a6, a7⟩ := h
  exact ⟨by rw [(hf q (by omega) (by omega)).1]; exact a1, by rw [(hf q (by omega) (by omega)).2]; exact a2, by rw [(hf q (by omega) (by omega)).2]; exact a3, by rw [(hf (q + 1) (by omega) (by omega)).1]; exact a4, by rw [(hf (q + 2) (by omega) (by omega)).1]; exact a5, fun i hi => by rw [(hf (q + 2) (by omega) (by omega)).2]; exact a6 i hi, fun i hi => by rw [(hf (q + 3 + i) (by omega) (by omega)).1]; exact a7 i hi⟩
/-- an object's rows, made one after the other: their slots, kinds, lengths -/
def MkS (x kx : Nat) (σ0 : pT) (I0 : pI) (F0 : pF) (ks : List (Nat × Nat × Nat)) (j : Nat) (σ : pT) (I : pI) (F : pF) : Prop :=
  σ.1 = x + j ∧ (σ.2.1 x).1 = kx ∧ (∀ t, I x t = 0) ∧ ext x σ0 σ I0 I F0 F ∧ ∀ (i : Nat) (a : Nat × Nat × Nat), i < j → ks[i]? = some a → σ.2.2 x a.1 = some (x + 1 + i) ∧ σ.2.1 (x + 1 + i) = (a.2.1, a.2.2) ∧ ∀ t, I (x + 1 + i) t = 0
section MK
variable {x kx j : Nat} {σ0 σ : pT} {I0 I : pI} {F0 F : pF} {ks : List (Nat × Nat × Nat)}
theorem mk_0 (h1 : σ.1 = x) (h2 : (σ.2.1 x).1 = kx) (h3 : ∀ t, I x t = 0) : MkS x kx σ I F ks 0 σ I F := ⟨h1, h2, h3, fun _ _ => ⟨rfl, rfl, rfl, rfl⟩, fun _ _ h => absurd h (Nat.not_lt_zero _)⟩
theorem mk_k (h : MkS x kx σ0 I0 F0 ks j σ I F) {kd n : Nat} : ((σnew σ kd n).2.1 x).1 = kx := by
  have h1 := h.1
  show ((upr σ.2.1 (σ.1 + 1) (kd, n)) x).1 = kx
  rw [upr_n (by omega)]
  exact h.2.1
theorem mk_put {k : Nat} (h : MkS x kx σ0 I0 F0 ks j σ I F) : MkS x kx σ0 I0 F0 ks j σ (up2 I x k 0) F := by
  obtain ⟨h1, h2, h3, h4, h5⟩ := h
  refine ⟨h1, h2, fun t => ?_, fun i hi => ?_, fun i a hi ha => ?_⟩
  · by_cases ht : t = k
    · subst ht
      exact up2_s
    · rw [up2_nj ht]
      exact h3 t
  · obtain ⟨b1, b2, b3, b4⟩ := h4 i hi
    exact ⟨b1, b2, (up2_row (by omega)).trans b3, b4⟩
  · obtain ⟨b1, b2, b3⟩ := h5 i a hi ha
    exact ⟨b1, b2, fun t => (up2_ni (by omega)).trans (b3 t)⟩
theorem mk_arr (h : MkS x kx σ0 I0 F0 ks j σ I F) {k kd n : Nat} (hj : ks[j]? = some (k, kd, n)) (hd : (ks.take j).all (fun a => a.1 != k) = true) : MkS x kx σ0 I0 F0 ks (j + 1) ((σnew σ kd n).1, (σnew σ kd n).2.1, up2 (σnew σ kd n).2.2 x k (some (σ.1 + 1))) (Inew σ I) (Fnew σ F) := by
  obtain ⟨h1, h2, h3, h4, h5⟩ := h
  have e : σ.1 + 1 = x + 1 + j := by omega
  refine ⟨by show σ.1 + 1 = _; omega, ?_, fun t => ?_, fun i hi => ?_, fun i a hi ha => ?_⟩
  · show ((upr σ.2.1 (σ.1 + 1) (kd, n)) x).1 = kx
    rw [upr_n (by omega)]
    exact h2
  · show upr I (σ.1 + 1) (fun _ => 0) x t = 0
    rw [upr_n (by omega)]
    exact h3 t
  · obtain ⟨b1, b2, b3, b4⟩ := h4 i hi
    exact ⟨(upr_n (by omega)).trans b1, (up2_row (by omega)).trans ((upr_n (by omega)).trans b2), (upr_n (by omega)).trans b3, (upr_n (by omega)).trans b4⟩
  · by_cases hc : i = j
    · subst hc
      rw [hj] at ha
      cases ha
      refine ⟨?_, ?_, fun t => ?_⟩
      · show up2 _ x k (some (σ.1 + 1)) x k = _
        rw [up2_s, e]
      · show upr σ.2.1 (σ.1 + 1) (kd, n) (x + 1 + i) = _
        rw [e, upr_s]
      · show upr I (σ.1 + 1) (fun _ => 0) (x + 1 + i) t = 0
        rw [e, upr_s]
    · obtain ⟨b1, b2, b3⟩ := h5 i a (by omega) ha
      have hne : a.1 ≠ k := by
        have hm : a ∈ ks.take j := List.mem_of_getElem? (i := i) (by rw [List.getElem?_take_of_lt (by omega)]; exact ha)
        have := List.all_eq_true.mp hd a hm
        simpa using this
      refine ⟨?_, ?_, fun t => ?_⟩
      · show up2 (upr σ.2.2 (σ.1 + 1) (fun _ => none)) x k (some (σ.1 + 1)) x a.1 = _
        rw [up2_nj hne, upr_n (by omega)]
        exact b1
      · show upr σ.2.1 (σ.1 + 1) (kd, n) (x + 1 + i) = _
        rw [upr_n (by omega)]
        exact b2
      · show upr I (σ.1 + 1) (fun _ => 0) (x + 1 + i) t = 0
        rw [upr_n (by omega)]
        exact b3 t
end MK

theorem sp_i0 {σ : pT} {I : pI} {F : pF} {q : Nat} (h : (σ.2.1 q).1 = 0 + 1) : PR yX0_init cX0_init mX0_init [.ref q] σ I F fun v I' F' => v = none ∧ (∀ i, i ≠ q → I' i = I i ∧ F' i = F i) ∧ I' q 4 = 0 := by
  refine PR.of oP_X0_init (catOK rfl) (Nat.le_of_ble_eq_true rfl) ?_
  show PW _ _ _ 0 [.ref q] [] _ _ _ _
  refine pw_aload_n dX0_init_0 rfl rfl ?_
  refine pw_objInit dX0_init_1 lk_RX0_3 oi_inst oi_code ⟨by decide, by decide⟩ ?_
  refine pw_aload_n dX0_init_4 rfl rfl ?_
  refine pw_iconst (v := 0) dX0_init_5 (by decide) ?_
  refine pw_putI dX0_init_6 fd_RX0_9 (by decide) rfl ⟨rfl, rfl, rfl⟩ h ?_
  refine pw_aload_n dX0_init_9 rfl rfl ?_
  refine pw_fconst0 dX0_init_10 ?_
  refine pw_putF dX0_init_11 fd_RX0_15 (by decide) rfl rfl h ?_
  refine pw_aload_n dX0_init_14 rfl rfl ?_
  refine pw_fconst1 dX0_init_15 ?_
  refine pw_putF dX0_init_16 fd_RX0_19 (by decide) rfl rfl h ?_
  refine pw_aload_n dX0_init_19 rfl rfl ?_
  refine pw_fconst0 dX0_init_20 ?_
  refine pw_putF dX0_init_21 fd_RX0_22 (by decide) rfl rfl h ?_
  refine pw_aload_n dX0_init_24 rfl rfl ?_
  refine pw_iconst (v := 0) dX0_init_25 (by decide) ?_
  refine pw_putI dX0_init_26 fd_RX0_25 (by decide) rfl ⟨by decide, by decide, rfl⟩ h ?_
  refine pw_aload_n dX0_init_29 rfl rfl ?_
  refine pw_iconst (v := 0) dX0_init_30 (by decide) ?_
  refine pw_putI dX0_init_31 fd_RX0_29 (by decide) rfl ⟨rfl, rfl, rfl⟩ h ?_
  exact pw_vret dX0_init_34 rfl ⟨rfl, rfl, fun i hi => ⟨by rw [up2_row hi, up2_row hi, up2_row hi], by rw [up2_row hi, up2_row hi, up2_row hi]⟩, by simp [up2]⟩

theorem sp_i1 {σ : pT} {I : pI} {F : pF} {q : Nat} (h : (σ.2.1 q).1 = 1 + 1) : PR yX1_init cX1_init mX1_init [.ref q] σ I F fun v I' F' => v = none ∧ (∀ i, i ≠ q → I' i = I i ∧ F' i = F i) := by
  refine PR.of oP_X1_init (catOK rfl) (Nat.le_of_ble_eq_true rfl) ?_
  show PW _ _ _ 0 [.ref q] [] _ _ _ _
  refine pw_aload_n dX1_init_0 rfl rfl ?_
  refine pw_objInit dX1_init_1 lk_RX1_1 oi_inst oi_code ⟨by decide, by decide⟩ ?_
  refine pw_aload_n dX1_init_4 rfl rfl ?_
  refine pw_iconst (v := 0) dX1_init_5 (by decide) ?_
  refine pw_putI dX1_init_6 fd_RX1_7 (by decide) rfl ⟨rfl, rfl, rfl⟩ h ?_
  refine pw_aload_n dX1_init_9 rfl rfl ?_
  refine pw_iconst (v := 0) dX1_init_10 (by decide) ?_
  refine pw_putI dX1_init_11 fd_RX1_13 (by decide) rfl ⟨rfl, rfl, rfl⟩ h ?_
  exact pw_vret dX1_init_14 rfl ⟨rfl, rfl, fun i hi => ⟨by rw [up2_row hi, up2_row hi], rfl⟩⟩

theorem sp_i3 {σ : pT} {I : pI} {F : pF} {q : Nat} (h : (σ.2.1 q).1 = 3 + 1) : PR yX3_init cX3_init mX3_init [.ref q] σ I F fun v I' F' => v = none ∧ (∀ i, i ≠ q → I' i = I i ∧ F' i = F i) := by
  refine PR.of oP_X3_init (catOK rfl) (Nat.le_of_ble_eq_true rfl) ?_
  show PW _ _ _ 0 [.ref q] [] _ _ _ _
  refine pw_aload_n dX3_init_0 rfl rfl ?_
  refine pw_objInit dX3_init_1 lk_RX3_1 oi_inst oi_code ⟨by decide, by decide⟩ ?_
  refine pw_aload_n dX3_init_4 rfl rfl ?_
  refine pw_bipush (v := 112) dX3_init_5 (by decide) ?_
  refine pw_putI dX3_init_7 fd_RX3_7 (by decide) rfl ⟨by decide, by decide, rfl⟩ h ?_
  refine pw_aload_n dX3_init_10 rfl rfl ?_
  refine pw_iconst (v := 0) dX3_init_11 (by decide) ?_
  refine pw_putI dX3_init_12 fd_RX3_13 (by decide) rfl ⟨rfl, rfl, rfl⟩ h ?_
  refine pw_aload_n dX3_init_15 rfl rfl ?_
  refine pw_iconst (v := 0) dX3_init_16 (by decide) ?_
  refine pw_putI dX3_init_17 fd_RX3_17 (by decide) rfl ⟨rfl, rfl, rfl⟩ h ?_
  exact pw_vret dX3_init_20 rfl ⟨rfl, rfl, fun i hi => ⟨by rw [up2_row hi, up2_row hi, up2_row hi], rfl⟩⟩

theorem sp_i6 {σ : pT} {I : pI} {F : pF} {q : Nat} (h : (σ.2.1 q).1 = 6 + 1) : PR yX6_init cX6_init mX6_init [.ref q] σ I F fun v I' F' => v = none ∧ (∀ i, i ≠ q → I' i = I i ∧ F' i = F i) := by
  refine PR.of oP_X6_init (catOK rfl) (Nat.le_of_ble_eq_true rfl) ?_
  show PW _ _ _ 0 [.ref q] [] _ _ _ _
  refine pw_aload_n dX6_init_0 rfl rfl ?_
  refine pw_objInit dX6_init_1 lk_RX6_3 oi_inst oi_code ⟨by decide, by decide⟩ ?_
  refine pw_aload_n dX6_init_4 rfl rfl ?_
  refine pw_iconst (v := 0) dX6_init_5 (by decide) ?_
  refine pw_putI dX6_init_6 fd_RX6_9 (by decide) rfl ⟨rfl, rfl, rfl⟩ h ?_
  refine pw_aload_n dX6_init_9 rfl rfl ?_
  refine pw_iconst (v := 0) dX6_init_10 (by decide) ?_
  refine pw_putI dX6_init_11 fd_RX6_15 (by decide) rfl ⟨rfl, rfl, rfl⟩ h ?_
  refine pw_aload_n dX6_init_14 rfl rfl ?_
  refine pw_iconst (v := 0) dX6_init_15 (by decide) ?_
  refine pw_putI dX6_init_16 fd_RX6_18 (by decide) rfl ⟨rfl, rfl, rfl⟩ h ?_
  refine pw_aload_n dX6_init_19 rfl rfl ?_
  refine pw_iconst (v := 0) dX6_init_20 (by decide) ?_
  refine pw_putI dX6_init_21 fd_RX6_21 (by decide) rfl ⟨rfl, rfl, rfl⟩ h ?_
  refine pw_aload_n dX6_init_24 rfl rfl ?_
  refine pw_iconst (v := 0) dX6_init_25 (by decide) ?_
  refine pw_putI dX6_init_26 fd_RX6_24 (by decide) rfl ⟨rfl, rfl, rfl⟩ h ?_
  refine pw_aload_n dX6_init_29 rfl rfl ?_
  refine pw_iconst (v := 0) dX6_init_30 (by decide) ?_
  refine pw_putI dX6_init_31 fd_RX6_27 (by decide) rfl ⟨rfl, rfl, rfl⟩ h ?_
  refine pw_aload_n dX6_init_34 rfl rfl ?_
  refine pw_iconst (v := 0) dX6_init_35 (by decide) ?_
  refine pw_putI dX6_init_36 fd_RX6_30 (by decide) rfl ⟨rfl, rfl, rfl⟩ h ?_
  refine pw_aload_n dX6_init_39 rfl rfl ?_
  refine pw_iconst (v := 0) dX6_init_40 (by decide) ?_
  refine pw_putI dX6_init_41 fd_RX6_33 (by decide) rfl ⟨rfl, rfl, rfl⟩ h ?_
  refine pw_aload_n dX6_init_44 rfl rfl ?_
  refine pw_bipush (v := (-5)) dX6_init_45 (by decide) ?_
  refine pw_putI dX6_init_47 fd_RX6_36 (by decide) rfl ⟨rfl, rfl, rfl⟩ h ?_
  refine pw_aload_n dX6_init_50 rfl rfl ?_
  refine pw_iconst (v := 0) dX6_init_51 (by decide) ?_
  refine pw_putI dX6_init_52 fd_RX6_39 (by decide) rfl ⟨rfl, rfl, rfl⟩ h ?_
  refine pw_aload_n dX6_init_55 rfl rfl ?_
  refine pw_iconst (v := 0) dX6_init_56 (by decide) ?_
  refine pw_putI dX6_init_57 fd_RX6_42 (by decide) rfl ⟨rfl, rfl, rfl⟩ h ?_
  refine pw_aload_n dX6_init_60 rfl rfl ?_
  refine pw_iconst (v := 0) dX6_init_61 (by decide) ?_
  refine pw_putI dX6_init_62 fd_RX6_45 (by decide) rfl ⟨rfl, rfl, rfl⟩ h ?_
  exact pw_vret dX6_init_65 rfl ⟨rfl, rfl, fun i hi => ⟨by rw [up2_row hi, up2_row hi, up2_row hi, up2_row hi, up2_row hi, up2_row hi, up2_row hi, up2_row hi, up2_row hi, up2_row hi, up2_row hi, up2_row hi], rfl⟩⟩

def ksPl : List (Nat × Nat × Nat) := [(0, 30, 8), (1, 31, 5), (2, 36, 24), (3, 20, 5)]
/-- a plant's cells being made: a assets, c crews, t tasks -/
def PlL (p : Nat) (σ0 : pT) (I0 : pI) (F0 : pF) (a c t : Nat) (σ : pT) (I : pI) (F : pF) : Prop :=
  σ.1 = p + 4 + a + c + t ∧ ((σ.2.1 p).1 = 6 ∧ σ.2.2 p 0 = some (p + 1) ∧ σ.2.2 p 1 = some (p + 2) ∧ σ.2.2 p 2 = some (p + 3) ∧ σ.2.2 p 3 = some (p + 4) ∧ σ.2.1 (p + 1) = (0 + 30, 8) ∧ σ.2.1 (p + 2) = (1 + 30, 5) ∧ σ.2.1 (p + 3) = (6 + 30, 24) ∧ σ.2.1 (p + 4) = (20, 5)) ∧
  ((∀ i, i < a → σ.2.2 (p + 1) i = some (p + 5 + i)) ∧ (∀ i, i < a → (σ.2.1 (p + 5 + i)).1 = 0 + 1) ∧ (∀ i, i < c → σ.2.2 (p + 2) i = some (p + 13 + i)) ∧ (∀ i, i < c → (σ.2.1 (p + 13 + i)).1 = 1 + 1) ∧ (∀ i, i < t → σ.2.2 (p + 3) i = some (p + 18 + i)) ∧ (∀ i, i < t → (σ.2.1 (p + 18 + i)).1 = 6 + 1)) ∧
  ext p σ0 σ I0 I F0 F ∧ (∀ t, I p t = 0) ∧ (∀ k, I (p + 4) k = 0) ∧ ∀ i, i < a → I (p + 5 + i) 4 = 0
theorem PlL_0 {p : Nat} {σ0 σ : pT} {I0 I : pI} {F0 F : pF} (h : MkS p 6 σ0 I0 F0 ksPl 4 σ I F) : PlL p σ0 I0 F0 0 0 0 σ I F := by
  obtain ⟨h1, h2, h3, h4, h5⟩ := h
  obtain ⟨a1, a2, -⟩ := h5 0 (0, 30, 8) (by decide) rfl
  obtain ⟨b1, b2, -⟩ := h5 1 (1, 31, 5) (by decide) rfl
  obtain ⟨c1, c2, -⟩ := h5 2 (2, 36, 24) (by decide) rfl
  obtain ⟨d1, d2, d3⟩ := h5 3 (3, 20, 5) (by decide) rfl
  exact ⟨h1, ⟨h2, a1, b1, c1, d1, a2, b2, c2, d2⟩, ⟨fun _ h => absurd h (Nat.not_lt_zero _), fun _ h => absurd h (Nat.not_lt_zero _), fun _ h => absurd h (Nat.not_lt_zero _), fun _ h => absurd h (Nat.not_lt_zero _), fun _ h => absurd h (Nat.not_lt_zero _), fun _ h => absurd h (Nat.not_lt_zero _)⟩, h4, h3, d3, fun _ h => absurd h (Nat.not_lt_zero _)⟩
/-- a plant that was just made: nothing is there -/
def plZ (p : Nat) (I : pI) : Prop := (∀ t, I p t = 0) ∧ (∀ k, I (p + 4) k = 0) ∧ RepB p I
theorem PlL_e {p : Nat} {σ0 σ : pT} {I0 I : pI} {F0 F : pF} (h : PlL p σ0 I0 F0 8 5 24 σ I F) : nwQ p 41 σ0 I0 F0 (fun σ I => isPl σ p ∧ plZ p I) none σ I F := by
  obtain ⟨h1, ⟨a1, a2, a3, a4, a5, a6, a7, a8, a9⟩, ⟨b1, b2, b3, b4, b5, b6⟩, h4, h5, h6, h7⟩ := h
  exact ⟨rfl, by omega, h4, ⟨a1, a2, a3, a4, a5, a6, a7, a8, a9, b1, b2, b3, b4, b5, b6⟩, h5, h6, fun a ha => Or.inl (h7 a ha)⟩

theorem PlL_A_ {p a : Nat} {σ0 σ σ' : pT} {I0 I I' : pI} {F0 F F' : pF} (h : PlL p σ0 I0 F0 a 0 0 σ I F) (hv : a < 8) (e1 : σ'.1 = σ.1 + 1) (K : ∀ i, i ≠ σ.1 + 1 → σ'.2.1 i = σ.2.1 i) (Kn : σ'.2.1 (σ.1 + 1) = (1, 6)) (R : ∀ i, i ≠ σ.1 + 1 → i ≠ p + 1 → σ'.2.2 i = σ.2.2 i) (Rn : σ'.2.2 (p + 1) a = some (σ.1 + 1)) (Ro : ∀ j, j ≠ a → σ'.2.2 (p + 1) j = σ.2.2 (p + 1) j) (J : ∀ i, i ≠ σ.1 + 1 → I' i = I i ∧ F' i = F i) (h4 : I' (σ.1 + 1) 4 = 0) : PlL p σ0 I0 F0 (a + 1) 0 0 σ' I' F' := by
  obtain ⟨h1, ⟨a1, a2, a3, a4, a5, a6, a7, a8, a9⟩, ⟨b1, b2, b3, b4, b5, b6⟩, g4, g5, g6, g7⟩ := h
  have e : σ.1 + 1 = p + 5 + a := by omega
  refine ⟨by omega, ⟨?_, ?_, ?_, ?_, ?_, ?_, ?_, ?_, ?_⟩, ⟨fun i hi => ?_, fun i hi => ?_, fun i hi => ?_, fun i hi => ?_, fun i hi => ?_, fun i hi => ?_⟩, fun i hi => ?_, fun t => ?_, fun k => ?_, fun i hi => ?_⟩
  · rw [K p (by omega)]; exact a1
  · rw [R p (by omega) (by omega)]; exact a2
  · rw [R p (by omega) (by omega)]; exact a3
  · rw [R p (by omega) (by omega)]; exact a4
  · rw [R p (by omega) (by omega)]; exact a5
  · rw [K _ (by omega)]; exact a6
  · rw [K _ (by omega)]; exact a7
  · rw [K _ (by omega)]; exact a8
  · rw [K _ (by omega)]; exact a9
  · by_cases hc : i = a
    · subst hc
      rw [Rn, e]
    · rw [Ro i hc]
      exact b1 i (by omega)
  · by_cases hc : i = a
    · subst hc
      rw [← e, Kn]
    · rw [K _ (by omega)]
      exact b2 i (by omega)
  · rw [R _ (by omega) (by omega)]; exact b3 i hi
  · rw [K _ (by omega)]; exact b4 i hi
  · rw [R _ (by omega) (by omega)]; exact b5 i hi
  · rw [K _ (by omega)]; exact b6 i hi
  · obtain ⟨c1, c2, c3, c4⟩ := g4 i hi
    exact ⟨(K i (by omega)).trans c1, (R i (by omega) (by omega)).trans c2, (J i (by omega)).1.trans c3, (J i (by omega)).2.trans c4⟩
  · rw [(J p (by omega)).1]; exact g5 t
  · rw [(J (p + 4) (by omega)).1]; exact g6 k
  · by_cases hc : i = a
    · subst hc
      rw [← e]
      exact h4
    · rw [(J _ (by omega)).1]
      exact g7 i (by omega)

theorem PlL_A {p a : Nat} {σ0 σ : pT} {I0 I I' : pI} {F0 F F' : pF} (h : PlL p σ0 I0 F0 a 0 0 σ I F) (hv : a < 8) (hI : ∀ i, i ≠ σ.1 + 1 → I' i = Inew σ I i ∧ F' i = Fnew σ F i) (h4 : I' (σ.1 + 1) 4 = 0) : PlL p σ0 I0 F0 (a + 1) 0 0 ((σnew σ 1 6).1, (σnew σ 1 6).2.1, up2 (σnew σ 1 6).2.2 (p + 1) a (some (σ.1 + 1))) I' F' :=
  PlL_A_ h hv rfl (fun i hi => upr_n hi) upr_s (fun i hi h2 => (up2_row h2).trans (upr_n hi)) up2_s (fun j hj => (up2_nj hj).trans (congrFun (upr_n (by have := h.1; omega)) j)) (fun i hi => ⟨(hI i hi).1.trans (upr_n hi), (hI i hi).2.trans (upr_n hi)⟩) h4

theorem PlL_C_ {p c : Nat} {σ0 σ σ' : pT} {I0 I I' : pI} {F0 F F' : pF} (h : PlL p σ0 I0 F0 8 c 0 σ I F) (hv : c < 5) (e1 : σ'.1 = σ.1 + 1) (K : ∀ i, i ≠ σ.1 + 1 → σ'.2.1 i = σ.2.1 i) (Kn : σ'.2.1 (σ.1 + 1) = (2, 2)) (R : ∀ i, i ≠ σ.1 + 1 → i ≠ p + 2 → σ'.2.2 i = σ.2.2 i) (Rn : σ'.2.2 (p + 2) c = some (σ.1 + 1)) (Ro : ∀ j, j ≠ c → σ'.2.2 (p + 2) j = σ.2.2 (p + 2) j) (J : ∀ i, i ≠ σ.1 + 1 → I' i = I i ∧ F' i = F i) : PlL p σ0 I0 F0 8 (c + 1) 0 σ' I' F' := by
  obtain ⟨h1, ⟨a1, a2, a3, a4, a5, a6, a7, a8, a9⟩, ⟨b1, b2, b3, b4, b5, b6⟩, g4, g5, g6, g7⟩ := h
  have e : σ.1 + 1 = p + 13 + c := by omega
  refine ⟨by omega, ⟨?_, ?_, ?_, ?_, ?_, ?_, ?_, ?_, ?_⟩, ⟨fun i hi => ?_, fun i hi => ?_, fun i hi => ?_, fun i hi => ?_, fun i hi => ?_, fun i hi => ?_⟩, fun i hi => ?_, fun t => ?_, fun k => ?_, fun i hi => ?_⟩
  · rw [K p (by omega)]; exact a1
  · rw [R p (by omega) (by omega)]; exact a2
  · rw [R p (by omega) (by omega)]; exact a3
  · rw [R p (by omega) (by omega)]; exact a4
  · rw [R p (by omega) (by omega)]; exact a5
  · rw [K _ (by omega)]; exact a6
  · rw [K _ (by omega)]; exact a7
  · rw [K _ (by omega)]; exact a8
  · rw [K _ (by omega)]; exact a9
  · rw [R _ (by omega) (by omega)]; exact b1 i hi
  · rw [K _ (by omega)]; exact b2 i hi
  · by_cases hc : i = c
    · subst hc
      rw [Rn, e]
    · rw [Ro i hc]
      exact b3 i (by omega)
  · by_cases hc : i = c
    · subst hc
      rw [← e, Kn]
    · rw [K _ (by omega)]
      exact b4 i (by omega)
  · rw [R _ (by omega) (by omega)]; exact b5 i hi
  · rw [K _ (by omega)]; exact b6 i hi
  · obtain ⟨c1, c2, c3, c4⟩ := g4 i hi
    exact ⟨(K i (by omega)).trans c1, (R i (by omega) (by omega)).trans c2, (J i (by omega)).1.trans c3, (J i (by omega)).2.trans c4⟩
  · rw [(J p (by omega)).1]; exact g5 t
  · rw [(J (p + 4) (by omega)).1]; exact g6 k
  · rw [(J _ (by omega)).1]
    exact g7 i hi

theorem PlL_C {p c : Nat} {σ0 σ : pT} {I0 I I' : pI} {F0 F F' : pF} (h : PlL p σ0 I0 F0 8 c 0 σ I F) (hv : c < 5) (hI : ∀ i, i ≠ σ.1 + 1 → I' i = Inew σ I i ∧ F' i = Fnew σ F i) : PlL p σ0 I0 F0 8 (c + 1) 0 ((σnew σ 2 2).1, (σnew σ 2 2).2.1, up2 (σnew σ 2 2).2.2 (p + 2) c (some (σ.1 + 1))) I' F' :=
  PlL_C_ h hv rfl (fun i hi => upr_n hi) upr_s (fun i hi h2 => (up2_row h2).trans (upr_n hi)) up2_s (fun j hj => (up2_nj hj).trans (congrFun (upr_n (by have := h.1; omega)) j)) (fun i hi => ⟨(hI i hi).1.trans (upr_n hi), (hI i hi).2.trans (upr_n hi)⟩)

theorem PlL_T_ {p t : Nat} {σ0 σ σ' : pT} {I0 I I' : pI} {F0 F F' : pF} (h : PlL p σ0 I0 F0 8 5 t σ I F) (hv : t < 24) (e1 : σ'.1 = σ.1 + 1) (K : ∀ i, i ≠ σ.1 + 1 → σ'.2.1 i = σ.2.1 i) (Kn : σ'.2.1 (σ.1 + 1) = (7, 12)) (R : ∀ i, i ≠ σ.1 + 1 → i ≠ p + 3 → σ'.2.2 i = σ.2.2 i) (Rn : σ'.2.2 (p + 3) t = some (σ.1 + 1)) (Ro : ∀ j, j ≠ t → σ'.2.2 (p + 3) j = σ.2.2 (p + 3) j) (J : ∀ i, i ≠ σ.1 + 1 → I' i = I i ∧ F' i = F i) : PlL p σ0 I0 F0 8 5 (t + 1) σ' I' F' := by
  obtain ⟨h1, ⟨a1, a2, a3, a4, a5, a6, a7, a8, a9⟩, ⟨b1, b2, b3, b4, b5, b6⟩, g4, g5, g6, g7⟩ := h
  have e : σ.1 + 1 = p + 18 + t := by omega
  refine ⟨by omega, ⟨?_, ?_, ?_, ?_, ?_, ?_, ?_, ?_, ?_⟩, ⟨fun i hi => ?_, fun i hi => ?_, fun i hi => ?_, fun i hi => ?_, fun i hi => ?_, fun i hi => ?_⟩, fun i hi => ?_, fun t => ?_, fun k => ?_, fun i hi => ?_⟩
  · rw [K p (by omega)]; exact a1
  · rw [R p (by omega) (by omega)]; exact a2
  · rw [R p (by omega) (by omega)]; exact a3
  · rw [R p (by omega) (by omega)]; exact a4
  · rw [R p (by omega) (by omega)]; exact a5
  · rw [K _ (by omega)]; exact a6
  · rw [K _ (by omega)]; exact a7
  · rw [K _ (by omega)]; exact a8
  · rw [K _ (by omega)]; exact a9
  · rw [R _ (by omega) (by omega)]; exact b1 i hi
  · rw [K _ (by omega)]; exact b2 i hi
  · rw [R _ (by omega) (by omega)]; exact b3 i hi
  · rw [K _ (by omega)]; exact b4 i hi
  · by_cases hc : i = t
    · subst hc
      rw [Rn, e]
    · rw [Ro i hc]
      exact b5 i (by omega)
  · by_cases hc : i = t
    · subst hc
      rw [← e, Kn]
    · rw [K _ (by omega)]
      exact b6 i (by omega)
  · obtain ⟨c1, c2, c3, c4⟩ := g4 i hi
    exact ⟨(K i (by omega)).trans c1, (R i (by omega) (by omega)).trans c2, (J i (by omega)).1.trans c3, (J i (by omega)).2.trans c4⟩
  · rw [(J p (by omega)).1]; exact g5 t
  · rw [(J (p + 4) (by omega)).1]; exact g6 k
  · rw [(J _ (by omega)).1]
    exact g7 i hi

theorem PlL_T {p t : Nat} {σ0 σ : pT} {I0 I I' : pI} {F0 F F' : pF} (h : PlL p σ0 I0 F0 8 5 t σ I F) (hv : t < 24) (hI : ∀ i, i ≠ σ.1 + 1 → I' i = Inew σ I i ∧ F' i = Fnew σ F i) : PlL p σ0 I0 F0 8 5 (t + 1) ((σnew σ 7 12).1, (σnew σ 7 12).2.1, up2 (σnew σ 7 12).2.2 (p + 3) t (some (σ.1 + 1))) I' F' :=
  PlL_T_ h hv rfl (fun i hi => upr_n hi) upr_s (fun i hi h2 => (up2_row h2).trans (upr_n hi)) up2_s (fun j hj => (up2_nj hj).trans (congrFun (upr_n (by have := h.1; omega)) j)) (fun i hi => ⟨(hI i hi).1.trans (upr_n hi), (hI i hi).2.trans (upr_n hi)⟩)

set_option maxRecDepth 4000 in
theorem sp_i5 {σ0 : pT} {I0 : pI} {F0 : pF} {p : Nat} (hp : σ0.1 = p) (hk : (σ0.2.1 p).1 = 6) (hz : ∀ t, I0 p t = 0) : PM yX5_init cX5_init mX5_init (41, 400) [.ref p] σ0 I0 F0 (nwQ p 41 σ0 I0 F0 (fun σ I => isPl σ p ∧ plZ p I)) := by
  refine PM.of oP_X5_init (catOK rfl) (Nat.le_of_ble_eq_true rfl) ?_
  show PW _ _ _ 0 [.ref p, pJ] [] _ _ _ _
  have L119 : ∀ k, k ≤ 24 → ∀ (σ : pT) (I : pI) (F : pF), PlL p σ0 I0 F0 8 5 k σ I F → PW cX5_init mX5_init (fM (nwQ p 41 σ0 I0 F0 (fun σ I => isPl σ p ∧ plZ p I))) 119 [.ref p, .int (nI k)] [] σ I F (24 - k, (24 - k) * 12) := by
    refine dn (fun k => ∀ (σ : pT) (I : pI) (F : pF), PlL p σ0 I0 F0 8 5 k σ I F → PW cX5_init mX5_init (fM (nwQ p 41 σ0 I0 F0 (fun σ I => isPl σ p ∧ plZ p I))) 119 [.ref p, .int (nI k)] [] σ I F (24 - k, (24 - k) * 12)) 24 ?_ ?_
    · intro σ I F h
      refine pw_iload_n dX5_init_119 rfl rfl ?_
      refine pw_aload_n dX5_init_120 rfl rfl ?_
      refine pw_getR (x := (p + 3)) dX5_init_121 fd_RX5_25 (by decide) h.2.1.1 rfl h.2.1.2.2.2.1 ?_
      refine pw_alenR dX5_init_124 h.2.1.2.2.2.2.2.2.2.1 (by decide) ?_
      refine pw_icmp_ge (tgt := 147) dX5_init_125 (by decide) (fun c_125 => ?_) (fun c_125 => absurd (Int32.le_refl _) c_125)
      exact pw_vret dX5_init_147 rfl (PlL_e h)
    · intro k hk ih σ I F h
      refine pw_iload_n dX5_init_119 rfl rfl ?_
      refine pw_aload_n dX5_init_120 rfl rfl ?_
      refine pw_getR (x := (p + 3)) dX5_init_121 fd_RX5_25 (by decide) h.2.1.1 rfl h.2.1.2.2.2.1 ?_
      refine pw_alenR dX5_init_124 h.2.1.2.2.2.2.2.2.2.1 (by decide) ?_
      refine pw_icmp_ge (tgt := 147) dX5_init_125 (by decide) (fun c_125 => absurd c_125 (nI_ge (b := 24) (by omega) (by decide))) (fun c_125 => ?_)
      refine pw_aload_n dX5_init_128 rfl rfl ?_
      refine pw_getR (x := (p + 3)) dX5_init_129 fd_RX5_25 (by decide) h.2.1.1 rfl h.2.1.2.2.2.1 ?_
      refine pw_iload_n dX5_init_132 rfl rfl ?_
      refine pw_new (ci := 6) dX5_init_133 (by decide) fd_RX6_9 cl_RX5_23 in_RX6 ii_RX6 (by constructor <;> (try simp only [fN_0, fN_1, fN_2, fN_3, fN_4, fN_5, fN_6]) <;> (try dsimp only) <;> omega) ?_
      refine pw_dup dX5_init_136 rfl ?_
      refine pr_callIN dX5_init_137 oX_X6_init nk_RX5_48 (sp_i6 (q := σ.1 + 1) (by show (upr σ.2.1 (σ.1 + 1) (6 + 1, 12) (σ.1 + 1)).1 = _; rw [upr_s])) rfl rfl (Nat.le_of_ble_eq_true rfl) (by decide) (fun v I1 F1 hq => ?_)
      obtain ⟨rfl, hI⟩ := hq
      refine pw_aastN (j := k) dX5_init_140 (by show upr σ.2.1 (σ.1 + 1) (6 + 1, 12) (p + 3) = _; rw [upr_n (by have := h.1; omega)]; exact h.2.1.2.2.2.2.2.2.2.1) (by omega) (by decide) (by decide) (by show (upr σ.2.1 (σ.1 + 1) (6 + 1, 12) (σ.1 + 1)).1 = _; rw [upr_s]) ?_
      refine pw_iinc (v := nI (k + 1)) dX5_init_141 rfl (nI_add _ _) rfl ?_
      refine pw_goto (tgt := 119) dX5_init_144 (by decide) ?_
      exact pw_mono (by constructor <;> (try simp only [fN_0, fN_1, fN_2, fN_3, fN_4, fN_5, fN_6]) <;> (try dsimp only) <;> omega) (ih _ _ _ (PlL_T h hk hI))
  have L89 : ∀ k, k ≤ 5 → ∀ (σ : pT) (I : pI) (F : pF), PlL p σ0 I0 F0 8 k 0 σ I F → PW cX5_init mX5_init (fM (nwQ p 41 σ0 I0 F0 (fun σ I => isPl σ p ∧ plZ p I))) 89 [.ref p, .int (nI k)] [] σ I F (5 - k + 24, (5 - k) * 2 + 288) := by
    refine dn (fun k => ∀ (σ : pT) (I : pI) (F : pF), PlL p σ0 I0 F0 8 k 0 σ I F → PW cX5_init mX5_init (fM (nwQ p 41 σ0 I0 F0 (fun σ I => isPl σ p ∧ plZ p I))) 89 [.ref p, .int (nI k)] [] σ I F (5 - k + 24, (5 - k) * 2 + 288)) 5 ?_ ?_
    · intro σ I F h
      refine pw_iload_n dX5_init_89 rfl rfl ?_
      refine pw_aload_n dX5_init_90 rfl rfl ?_
      refine pw_getR (x := (p + 2)) dX5_init_91 fd_RX5_19 (by decide) h.2.1.1 rfl h.2.1.2.2.1 ?_
      refine pw_alenR dX5_init_94 h.2.1.2.2.2.2.2.2.1 (by decide) ?_
      refine pw_icmp_ge (tgt := 117) dX5_init_95 (by decide) (fun c_95 => ?_) (fun c_95 => absurd (Int32.le_refl _) c_95)
      refine pw_iconst (v := 0) dX5_init_117 (by decide) ?_
      refine pw_istore_n dX5_init_118 rfl (by decide) rfl ?_
      exact pw_mono (by constructor <;> (try simp only [fN_0, fN_1, fN_2, fN_3, fN_4, fN_5, fN_6]) <;> (try dsimp only) <;> omega) (L119 0 (Nat.zero_le _) _ _ _ h)
    · intro k hk ih σ I F h
      refine pw_iload_n dX5_init_89 rfl rfl ?_
      refine pw_aload_n dX5_init_90 rfl rfl ?_
      refine pw_getR (x := (p + 2)) dX5_init_91 fd_RX5_19 (by decide) h.2.1.1 rfl h.2.1.2.2.1 ?_
      refine pw_alenR dX5_init_94 h.2.1.2.2.2.2.2.2.1 (by decide) ?_
      refine pw_icmp_ge (tgt := 117) dX5_init_95 (by decide) (fun c_95 => absurd c_95 (nI_ge (b := 5) (by omega) (by decide))) (fun c_95 => ?_)
      refine pw_aload_n dX5_init_98 rfl rfl ?_
      refine pw_getR (x := (p + 2)) dX5_init_99 fd_RX5_19 (by decide) h.2.1.1 rfl h.2.1.2.2.1 ?_
      refine pw_iload_n dX5_init_102 rfl rfl ?_
      refine pw_new (ci := 1) dX5_init_103 (by decide) fd_RX1_7 cl_RX5_17 in_RX1 ii_RX1 (by constructor <;> (try simp only [fN_0, fN_1, fN_2, fN_3, fN_4, fN_5, fN_6]) <;> (try dsimp only) <;> omega) ?_
      refine pw_dup dX5_init_106 rfl ?_
      refine pr_callIN dX5_init_107 oX_X1_init nk_RX5_47 (sp_i1 (q := σ.1 + 1) (by show (upr σ.2.1 (σ.1 + 1) (1 + 1, 2) (σ.1 + 1)).1 = _; rw [upr_s])) rfl rfl (Nat.le_of_ble_eq_true rfl) (by decide) (fun v I1 F1 hq => ?_)
      obtain ⟨rfl, hI⟩ := hq
      refine pw_aastN (j := k) dX5_init_110 (by show upr σ.2.1 (σ.1 + 1) (1 + 1, 2) (p + 2) = _; rw [upr_n (by have := h.1; omega)]; exact h.2.1.2.2.2.2.2.2.1) (by omega) (by decide) (by decide) (by show (upr σ.2.1 (σ.1 + 1) (1 + 1, 2) (σ.1 + 1)).1 = _; rw [upr_s]) ?_
      refine pw_iinc (v := nI (k + 1)) dX5_init_111 rfl (nI_add _ _) rfl ?_
      refine pw_goto (tgt := 89) dX5_init_114 (by decide) ?_
      exact pw_mono (by constructor <;> (try simp only [fN_0, fN_1, fN_2, fN_3, fN_4, fN_5, fN_6]) <;> (try dsimp only) <;> omega) (ih _ _ _ (PlL_C h hk hI))
  have L59 : ∀ k, k ≤ 8 → ∀ (σ : pT) (I : pI) (F : pF), PlL p σ0 I0 F0 k 0 0 σ I F → PW cX5_init mX5_init (fM (nwQ p 41 σ0 I0 F0 (fun σ I => isPl σ p ∧ plZ p I))) 59 [.ref p, .int (nI k)] [] σ I F (8 - k + 29, (8 - k) * 6 + 298) := by
    refine dn (fun k => ∀ (σ : pT) (I : pI) (F : pF), PlL p σ0 I0 F0 k 0 0 σ I F → PW cX5_init mX5_init (fM (nwQ p 41 σ0 I0 F0 (fun σ I => isPl σ p ∧ plZ p I))) 59 [.ref p, .int (nI k)] [] σ I F (8 - k + 29, (8 - k) * 6 + 298)) 8 ?_ ?_
    · intro σ I F h
      refine pw_iload_n dX5_init_59 rfl rfl ?_
      refine pw_aload_n dX5_init_60 rfl rfl ?_
      refine pw_getR (x := (p + 1)) dX5_init_61 fd_RX5_11 (by decide) h.2.1.1 rfl h.2.1.2.1 ?_
      refine pw_alenR dX5_init_64 h.2.1.2.2.2.2.2.1 (by decide) ?_
      refine pw_icmp_ge (tgt := 87) dX5_init_65 (by decide) (fun c_65 => ?_) (fun c_65 => absurd (Int32.le_refl _) c_65)
      refine pw_iconst (v := 0) dX5_init_87 (by decide) ?_
      refine pw_istore_n dX5_init_88 rfl (by decide) rfl ?_
      exact pw_mono (by constructor <;> (try simp only [fN_0, fN_1, fN_2, fN_3, fN_4, fN_5, fN_6]) <;> (try dsimp only) <;> omega) (L89 0 (Nat.zero_le _) _ _ _ h)
    · intro k hk ih σ I F h
      refine pw_iload_n dX5_init_59 rfl rfl ?_
      refine pw_aload_n dX5_init_60 rfl rfl ?_
      refine pw_getR (x := (p + 1)) dX5_init_61 fd_RX5_11 (by decide) h.2.1.1 rfl h.2.1.2.1 ?_
      refine pw_alenR dX5_init_64 h.2.1.2.2.2.2.2.1 (by decide) ?_
      refine pw_icmp_ge (tgt := 87) dX5_init_65 (by decide) (fun c_65 => absurd c_65 (nI_ge (b := 8) (by omega) (by decide))) (fun c_65 => ?_)
      refine pw_aload_n dX5_init_68 rfl rfl ?_
      refine pw_getR (x := (p + 1)) dX5_init_69 fd_RX5_11 (by decide) h.2.1.1 rfl h.2.1.2.1 ?_
      refine pw_iload_n dX5_init_72 rfl rfl ?_
      refine pw_new (ci := 0) dX5_init_73 (by decide) fd_RX0_9 cl_RX5_9 in_RX0 ii_RX0 (by constructor <;> (try simp only [fN_0, fN_1, fN_2, fN_3, fN_4, fN_5, fN_6]) <;> (try dsimp only) <;> omega) ?_
      refine pw_dup dX5_init_76 rfl ?_
      refine pr_callIN dX5_init_77 oX_X0_init nk_RX5_46 (sp_i0 (q := σ.1 + 1) (by show (upr σ.2.1 (σ.1 + 1) (0 + 1, 6) (σ.1 + 1)).1 = _; rw [upr_s])) rfl rfl (Nat.le_of_ble_eq_true rfl) (by decide) (fun v I1 F1 hq => ?_)
      obtain ⟨rfl, hI, h4⟩ := hq
      refine pw_aastN (j := k) dX5_init_80 (by show upr σ.2.1 (σ.1 + 1) (0 + 1, 6) (p + 1) = _; rw [upr_n (by have := h.1; omega)]; exact h.2.1.2.2.2.2.2.1) (by omega) (by decide) (by decide) (by show (upr σ.2.1 (σ.1 + 1) (0 + 1, 6) (σ.1 + 1)).1 = _; rw [upr_s]) ?_
      refine pw_iinc (v := nI (k + 1)) dX5_init_81 rfl (nI_add _ _) rfl ?_
      refine pw_goto (tgt := 59) dX5_init_84 (by decide) ?_
      exact pw_mono (by constructor <;> (try simp only [fN_0, fN_1, fN_2, fN_3, fN_4, fN_5, fN_6]) <;> (try dsimp only) <;> omega) (ih _ _ _ (PlL_A h hk hI h4))
  have g0 := mk_0 (ks := ksPl) (F := F0) hp hk hz
  refine pw_aload_n dX5_init_0 rfl rfl ?_
  refine pw_objInit dX5_init_1 lk_RX5_3 oi_inst oi_code ⟨by decide, by decide⟩ ?_
  refine pw_aload_n dX5_init_4 rfl rfl ?_
  refine pw_bipush (v := 8) dX5_init_5 (by decide) ?_
  refine pw_newA (ci := 0) (N := 8) dX5_init_7 (by decide) cl_RX5_9 ao_RX0 (by decide) rfl (by decide) (by constructor <;> (try simp only [fN_0, fN_1, fN_2, fN_3, fN_4, fN_5, fN_6]) <;> (try dsimp only) <;> omega) ?_
  refine pw_putFR dX5_init_10 fd_RX5_11 (by decide) rfl rfl rfl rfl (mk_k g0) ?_
  have g1 := mk_arr (k := 0) g0 rfl rfl
  refine pw_aload_n dX5_init_13 rfl rfl ?_
  refine pw_iconst (v := 5) dX5_init_14 (by decide) ?_
  refine pw_newA (ci := 1) (N := 5) dX5_init_15 (by decide) cl_RX5_17 ao_RX1 (by decide) rfl (by decide) (by constructor <;> (try simp only [fN_0, fN_1, fN_2, fN_3, fN_4, fN_5, fN_6]) <;> (try dsimp only) <;> omega) ?_
  refine pw_putFR dX5_init_18 fd_RX5_19 (by decide) rfl rfl rfl rfl (mk_k g1) ?_
  have g2 := mk_arr (k := 1) g1 rfl rfl
  refine pw_aload_n dX5_init_21 rfl rfl ?_
  refine pw_bipush (v := 24) dX5_init_22 (by decide) ?_
  refine pw_newA (ci := 6) (N := 24) dX5_init_24 (by decide) cl_RX5_23 ao_RX6 (by decide) rfl (by decide) (by constructor <;> (try simp only [fN_0, fN_1, fN_2, fN_3, fN_4, fN_5, fN_6]) <;> (try dsimp only) <;> omega) ?_
  refine pw_putFR dX5_init_27 fd_RX5_25 (by decide) rfl rfl rfl rfl (mk_k g2) ?_
  have g3 := mk_arr (k := 2) g2 rfl rfl
  refine pw_aload_n dX5_init_30 rfl rfl ?_
  refine pw_iconst (v := 5) dX5_init_31 (by decide) ?_
  refine pw_newI (N := 5) dX5_init_32 ac_int (by decide) rfl (by decide) (by constructor <;> (try simp only [fN_0, fN_1, fN_2, fN_3, fN_4, fN_5, fN_6]) <;> (try dsimp only) <;> omega) ?_
  refine pw_putFR dX5_init_34 fd_RX5_29 (by decide) rfl rfl rfl rfl (mk_k g3) ?_
  have g4 := mk_arr (k := 3) g3 rfl rfl
  refine pw_aload_n dX5_init_37 rfl rfl ?_
  refine pw_iconst (v := 0) dX5_init_38 (by decide) ?_
  refine pw_putI dX5_init_39 fd_RX5_33 (by decide) rfl ⟨rfl, rfl, rfl⟩ g4.2.1 ?_
  have g5 := mk_put (k := 4) g4
  refine pw_aload_n dX5_init_42 rfl rfl ?_
  refine pw_iconst (v := 0) dX5_init_43 (by decide) ?_
  refine pw_putI dX5_init_44 fd_RX5_37 (by decide) rfl ⟨rfl, rfl, rfl⟩ g5.2.1 ?_
  have g6 := mk_put (k := 5) g5
  refine pw_aload_n dX5_init_47 rfl rfl ?_
  refine pw_iconst (v := 0) dX5_init_48 (by decide) ?_
  refine pw_putI dX5_init_49 fd_RX5_40 (by decide) rfl ⟨rfl, rfl, rfl⟩ g6.2.1 ?_
  have g7 := mk_put (k := 6) g6
  refine pw_aload_n dX5_init_52 rfl rfl ?_
  refine pw_iconst (v := 0) dX5_init_53 (by decide) ?_
  refine pw_putI dX5_init_54 fd_RX5_43 (by decide) rfl ⟨rfl, rfl, rfl⟩ g7.2.1 ?_
  have g8 := mk_put (k := 7) g7
  refine pw_iconst (v := 0) dX5_init_57 (by decide) ?_
  refine pw_istore_n dX5_init_58 rfl (by decide) rfl ?_
  exact pw_mono (by constructor <;> (try simp only [fN_0, fN_1, fN_2, fN_3, fN_4, fN_5, fN_6]) <;> (try dsimp only) <;> omega) (L59 0 (Nat.zero_le _) _ _ _ (PlL_0 g8))

def ksHi : List (Nat × Nat × Nat) := [(0, 35, 4)]
def HiL (q : Nat) (σ0 : pT) (I0 : pI) (F0 : pF) (k : Nat) (σ : pT) (I : pI) (F : pF) : Prop :=
  σ.1 = q + 1 + 42 * k ∧ (σ.2.1 q).1 = 3 ∧ σ.2.2 q 0 = some (q + 1) ∧ σ.2.1 (q + 1) = (5 + 30, 4) ∧ (∀ i, i < k → σ.2.2 (q + 1) i = some (q + 2 + 42 * i)) ∧ (∀ i, i < k → isPl σ (q + 2 + 42 * i)) ∧ ext q σ0 σ I0 I F0 F ∧ (∀ t, I q t = 0) ∧ ∀ i, i < k → RepB (q + 2 + 42 * i) I
def hiZ (q : Nat) (I : pI) : Prop := (∀ t, I q t = 0) ∧ ∀ i, i < 4 → RepB (q + 2 + 42 * i) I
theorem HiL_0 {q : Nat} {σ0 σ : pT} {I0 I : pI} {F0 F : pF} (h : MkS q 3 σ0 I0 F0 ksHi 1 σ I F) : HiL q σ0 I0 F0 0 σ I F := by
  obtain ⟨h1, h2, h3, h4, h5⟩ := h
  obtain ⟨a1, a2, -⟩ := h5 0 (0, 35, 4) (by decide) rfl
  exact ⟨h1, h2, a1, a2, fun _ h => absurd h (Nat.not_lt_zero _), fun _ h => absurd h (Nat.not_lt_zero _), h4, h3, fun _ h => absurd h (Nat.not_lt_zero _)⟩
theorem HiL_e {q : Nat} {σ0 σ : pT} {I0 I : pI} {F0 F : pF} (h : HiL q σ0 I0 F0 4 σ I F) : nwQ q 169 σ0 I0 F0 (fun σ I => isHi σ q ∧ hiZ q I) none σ I F := by
  obtain ⟨h1, a1, a2, a3, a4, a5, h4, h5, h6⟩ := h
  exact ⟨rfl, by omega, h4, ⟨a1, a2, a3, a4, a5⟩, h5, h6⟩
theorem HiL_s {q k : Nat} {σ0 σ σ1 : pT} {I0 I I1 : pI} {F0 F F1 : pF} (h : HiL q σ0 I0 F0 k σ I F) (hk : k < 4) (h1 : σ1.1 = σ.1 + 1 + 41) (he : ext (σ.1 + 1) (σnew σ (5 + 1) 8) σ1 (Inew σ I) I1 (Fnew σ F) F1) (hp : isPl σ1 (σ.1 + 1)) (hz : plZ (σ.1 + 1) I1) : HiL q σ0 I0 F0 (k + 1) (σ1.1, σ1.2.1, up2 σ1.2.2 (q + 1) k (some (σ.1 + 1))) I1 F1 := by
  obtain ⟨g1, a1, a2, a3, a4, a5, g4, g5, g6⟩ := h
  have e : σ.1 + 1 = q + 2 + 42 * k := by omega
  have J : ∀ i, i ≤ σ.1 → σ1.2.1 i = σ.2.1 i ∧ σ1.2.2 i = σ.2.2 i ∧ I1 i = I i ∧ F1 i = F i := fun i hi => by
    obtain ⟨b1, b2, b3, b4⟩ := he i (by omega)
    exact ⟨b1.trans (upr_n (by omega)), b2.trans (upr_n (by omega)), b3.trans (upr_n (by omega)), b4.trans (upr_n (by omega))⟩
  have U : ∀ i, i ≠ q + 1 → up2 σ1.2.2 (q + 1) k (some (σ.1 + 1)) i = σ1.2.2 i := fun i hi => up2_row hi
  refine ⟨by show σ1.1 = _; omega, ?_, ?_, ?_, fun i hi => ?_, fun i hi => ?_, fun i hi => ?_, fun t => ?_, fun i hi => ?_⟩
  · show (σ1.2.1 q).1 = 3
    rw [(J q (by omega)).1]; exact a1
  · exact (congrFun ((U q (by omega)).trans (J q (by omega)).2.1) 0).trans a2
  · show σ1.2.1 (q + 1) = _
    rw [(J _ (by omega)).1]; exact a3
  · by_cases hc : i = k
    · subst hc
      show up2 _ (q + 1) i (some (σ.1 + 1)) (q + 1) i = _
      rw [up2_s, e]
    · show up2 σ1.2.2 (q + 1) k (some (σ.1 + 1)) (q + 1) i = _
      rw [up2_nj hc, (J _ (by omega)).2.1]
      exact a4 i (by omega)
  · by_cases hc : i = k
    · subst hc
      rw [← e]
      exact isPl_fr hp (fun j h1 h2 => ⟨rfl, U j (by omega)⟩)
    · exact isPl_fr (a5 i (by omega)) (fun j h1 h2 => ⟨(J j (by omega)).1, (U j (by omega)).trans (J j (by omega)).2.1⟩)
  · obtain ⟨b1, b2, b3, b4⟩ := g4 i hi
    obtain ⟨c1, c2, c3, c4⟩ := J i (by omega)
    exact ⟨c1.trans b1, (U i (by omega)).trans (c2.trans b2), c3.trans b3, c4.trans b4⟩
  · rw [(J q (by omega)).2.2.1]; exact g5 t
  · by_cases hc : i = k
    · subst hc
      rw [← e]
      exact hz.2.2
    · exact RepB_eq (g6 i (by omega)) (fun j h1 h2 => (J j (by omega)).2.2.1)

set_option maxRecDepth 4000 in
theorem sp_i2 {σ0 : pT} {I0 : pI} {F0 : pF} {q : Nat} (hp : σ0.1 = q) (hk : (σ0.2.1 q).1 = 3) (hz : ∀ t, I0 q t = 0) : PM yX2_init cX2_init mX2_init (169, 1700) [.ref q] σ0 I0 F0 (nwQ q 169 σ0 I0 F0 (fun σ I => isHi σ q ∧ hiZ q I)) := by
  refine PM.of oP_X2_init (catOK rfl) (Nat.le_of_ble_eq_true rfl) ?_
  show PW _ _ _ 0 [.ref q, pJ] [] _ _ _ _
  have L24 : ∀ k, k ≤ 4 → ∀ (σ : pT) (I : pI) (F : pF), HiL q σ0 I0 F0 k σ I F → PW cX2_init mX2_init (fM (nwQ q 169 σ0 I0 F0 (fun σ I => isHi σ q ∧ hiZ q I))) 24 [.ref q, .int (nI k)] [] σ I F ((4 - k) * 42, (4 - k) * 408) := by
    refine dn (fun k => ∀ (σ : pT) (I : pI) (F : pF), HiL q σ0 I0 F0 k σ I F → PW cX2_init mX2_init (fM (nwQ q 169 σ0 I0 F0 (fun σ I => isHi σ q ∧ hiZ q I))) 24 [.ref q, .int (nI k)] [] σ I F ((4 - k) * 42, (4 - k) * 408)) 4 ?_ ?_
    · intro σ I F h
      refine pw_iload_n dX2_init_24 rfl rfl ?_
      refine pw_aload_n dX2_init_25 rfl rfl ?_
      refine pw_getR (x := (q + 1)) dX2_init_26 fd_RX2_11 (by decide) h.2.1 rfl h.2.2.1 ?_
      refine pw_alenR dX2_init_29 h.2.2.2.1 (by decide) ?_
      refine pw_icmp_ge (tgt := 52) dX2_init_30 (by decide) (fun c_30 => ?_) (fun c_30 => absurd (Int32.le_refl _) c_30)
      exact pw_vret dX2_init_52 rfl (HiL_e h)
    · intro k hk ih σ I F h
      refine pw_iload_n dX2_init_24 rfl rfl ?_
      refine pw_aload_n dX2_init_25 rfl rfl ?_
      refine pw_getR (x := (q + 1)) dX2_init_26 fd_RX2_11 (by decide) h.2.1 rfl h.2.2.1 ?_
      refine pw_alenR dX2_init_29 h.2.2.2.1 (by decide) ?_
      refine pw_icmp_ge (tgt := 52) dX2_init_30 (by decide) (fun c_30 => absurd c_30 (nI_ge (b := 4) (by omega) (by decide))) (fun c_30 => ?_)
      refine pw_aload_n dX2_init_33 rfl rfl ?_
      refine pw_getR (x := (q + 1)) dX2_init_34 fd_RX2_11 (by decide) h.2.1 rfl h.2.2.1 ?_
      refine pw_iload_n dX2_init_37 rfl rfl ?_
      refine pw_new (ci := 5) dX2_init_38 (by decide) fd_RX5_11 cl_RX2_9 in_RX5 ii_RX5 (by constructor <;> (try simp only [fN_0, fN_1, fN_2, fN_3, fN_4, fN_5, fN_6]) <;> (try dsimp only) <;> omega) ?_
      refine pw_dup dX2_init_41 rfl ?_
      refine pw_callI dX2_init_42 oX_X5_init lk_RX2_24 (sp_i5 (p := σ.1 + 1) rfl (by show (upr σ.2.1 (σ.1 + 1) (5 + 1, 8) (σ.1 + 1)).1 = _; rw [upr_s]) (fun t => by show upr I (σ.1 + 1) (fun _ => 0) (σ.1 + 1) t = 0; rw [upr_s])) rfl rfl (Nat.le_of_ble_eq_true rfl) (by decide) (by constructor <;> (try simp only [fN_0, fN_1, fN_2, fN_3, fN_4, fN_5, fN_6]) <;> (try dsimp only) <;> omega) (fun v σ1 I1 F1 hq => ?_)
      obtain ⟨rfl, h1, he, hpl, hzl⟩ := hq
      refine pw_aastN (j := k) dX2_init_45 (by rw [(he (q + 1) (by have := h.1; omega)).1]; show upr σ.2.1 (σ.1 + 1) (5 + 1, 8) (q + 1) = _; rw [upr_n (by have := h.1; omega)]; exact h.2.2.2.1) (by omega) (by decide) (by decide) hpl.1 ?_
      refine pw_iinc (v := nI (k + 1)) dX2_init_46 rfl (nI_add _ _) rfl ?_
      refine pw_goto (tgt := 24) dX2_init_49 (by decide) ?_
      exact pw_mono (by constructor <;> (try simp only [fN_0, fN_1, fN_2, fN_3, fN_4, fN_5, fN_6]) <;> (try dsimp only) <;> omega) (ih _ _ _ (HiL_s h hk h1 he hpl hzl))
  have g0 := mk_0 (ks := ksHi) (F := F0) hp hk hz
  refine pw_aload_n dX2_init_0 rfl rfl ?_
  refine pw_objInit dX2_init_1 lk_RX2_3 oi_inst oi_code ⟨by decide, by decide⟩ ?_
  refine pw_aload_n dX2_init_4 rfl rfl ?_
  refine pw_iconst (v := 4) dX2_init_5 (by decide) ?_
  refine pw_newA (ci := 5) (N := 4) dX2_init_6 (by decide) cl_RX2_9 ao_RX5 (by decide) rfl (by decide) (by constructor <;> (try simp only [fN_0, fN_1, fN_2, fN_3, fN_4, fN_5, fN_6]) <;> (try dsimp only) <;> omega) ?_
  refine pw_putFR dX2_init_9 fd_RX2_11 (by decide) rfl rfl rfl rfl (mk_k g0) ?_
  have g1 := mk_arr (k := 0) g0 rfl rfl
  refine pw_aload_n dX2_init_12 rfl rfl ?_
  refine pw_iconst (v := 0) dX2_init_13 (by decide) ?_
  refine pw_putI dX2_init_14 fd_RX2_17 (by decide) rfl ⟨rfl, rfl, rfl⟩ g1.2.1 ?_
  have g2 := mk_put (k := 1) g1
  refine pw_aload_n dX2_init_17 rfl rfl ?_
  refine pw_iconst (v := 0) dX2_init_18 (by decide) ?_
  refine pw_putI dX2_init_19 fd_RX2_21 (by decide) rfl ⟨rfl, rfl, rfl⟩ g2.2.1 ?_
  have g3 := mk_put (k := 2) g2
  refine pw_iconst (v := 0) dX2_init_22 (by decide) ?_
  refine pw_istore_n dX2_init_23 rfl (by decide) rfl ?_
  exact pw_mono (by constructor <;> (try simp only [fN_0, fN_1, fN_2, fN_3, fN_4, fN_5, fN_6]) <;> (try dsimp only) <;> omega) (L24 0 (Nat.zero_le _) _ _ _ (HiL_0 g3))

def ksOr : List (Nat × Nat × Nat) := [(0, 21, 60), (2, 33, 20)]
def OrL (q : Nat) (σ0 : pT) (I0 : pI) (F0 : pF) (k : Nat) (σ : pT) (I : pI) (F : pF) : Prop :=
  σ.1 = q + 2 + k ∧ (σ.2.1 q).1 = 5 ∧ σ.2.2 q 0 = some (q + 1) ∧ σ.2.2 q 2 = some (q + 2) ∧ σ.2.1 (q + 1) = (21, 60) ∧ σ.2.1 (q + 2) = (3 + 30, 20) ∧ (∀ i, i < k → σ.2.2 (q + 2) i = some (q + 3 + i)) ∧ (∀ i, i < k → (σ.2.1 (q + 3 + i)).1 = 3 + 1) ∧ ext q σ0 σ I0 I F0 F ∧ ∀ t, I q t = 0
theorem OrL_0 {q : Nat} {σ0 σ : pT} {I0 I : pI} {F0 F : pF} (h : MkS q 5 σ0 I0 F0 ksOr 2 σ I F) : OrL q σ0 I0 F0 0 σ I F := by
  obtain ⟨h1, h2, h3, h4, h5⟩ := h
  obtain ⟨a1, a2, -⟩ := h5 0 (0, 21, 60) (by decide) rfl
  obtain ⟨b1, b2, -⟩ := h5 1 (2, 33, 20) (by decide) rfl
  exact ⟨h1, h2, a1, b1, a2, b2, fun _ h => absurd h (Nat.not_lt_zero _), fun _ h => absurd h (Nat.not_lt_zero _), h4, h3⟩
theorem OrL_e {q : Nat} {σ0 σ : pT} {I0 I : pI} {F0 F : pF} (h : OrL q σ0 I0 F0 20 σ I F) : nwQ q 22 σ0 I0 F0 (fun σ I => isOr σ q ∧ ∀ t, I q t = 0) none σ I F := by
  obtain ⟨h1, a1, a2, a3, a4, a5, a6, a7, h4, h5⟩ := h
  exact ⟨rfl, by omega, h4, ⟨a1, a2, a3, a4, a5, a6, a7⟩, h5⟩
theorem OrL_s_ {q k : Nat} {σ0 σ σ' : pT} {I0 I I' : pI} {F0 F F' : pF} (h : OrL q σ0 I0 F0 k σ I F) (hk : k < 20) (e1 : σ'.1 = σ.1 + 1) (K : ∀ i, i ≠ σ.1 + 1 → σ'.2.1 i = σ.2.1 i) (Kn : σ'.2.1 (σ.1 + 1) = (3 + 1, 3)) (R : ∀ i, i ≠ σ.1 + 1 → i ≠ q + 2 → σ'.2.2 i = σ.2.2 i) (Rn : σ'.2.2 (q + 2) k = some (σ.1 + 1)) (Ro : ∀ j, j ≠ k → σ'.2.2 (q + 2) j = σ.2.2 (q + 2) j) (J : ∀ i, i ≠ σ.1 + 1 → I' i = I i ∧ F' i = F i) : OrL q σ0 I0 F0 (k + 1) σ' I' F' := by
  obtain ⟨h1, a1, a2, a3, a4, a5, a6, a7, g4, g5⟩ := h
  have e : σ.1 + 1 = q + 3 + k := by omega
  refine ⟨by omega, ?_, ?_, ?_, ?_, ?_, fun i hi => ?_, fun i hi => ?_, fun i hi => ?_, fun t => ?_⟩
  · rw [K q (by omega)]; exact a1
  · rw [R q (by omega) (by omega)]; exact a2
  · rw [R q (by omega) (by omega)]; exact a3
  · rw [K _ (by omega)]; exact a4
  · rw [K _ (by omega)]; exact a5
  · by_cases hc : i = k
    · subst hc
      rw [Rn, e]
    · rw [Ro i hc]
      exact a6 i (by omega)
  · by_cases hc : i = k
    · subst hc
      rw [← e, Kn]
    · rw [K _ (by omega)]
      exact a7 i (by omega)
  · obtain ⟨c1, c2, c3, c4⟩ := g4 i hi
    exact ⟨(K i (by omega)).trans c1, (R i (by omega) (by omega)).trans c2, (J i (by omega)).1.trans c3, (J i (by omega)).2.trans c4⟩
  · rw [(J q (by omega)).1]; exact g5 t
theorem OrL_s {q k : Nat} {σ0 σ : pT} {I0 I I' : pI} {F0 F F' : pF} (h : OrL q σ0 I0 F0 k σ I F) (hk : k < 20) (hI : ∀ i, i ≠ σ.1 + 1 → I' i = Inew σ I i ∧ F' i = Fnew σ F i) : OrL q σ0 I0 F0 (k + 1) ((σnew σ (3 + 1) 3).1, (σnew σ (3 + 1) 3).2.1, up2 (σnew σ (3 + 1) 3).2.2 (q + 2) k (some (σ.1 + 1))) I' F' :=
  OrL_s_ h hk rfl (fun i hi => upr_n hi) upr_s (fun i hi h2 => (up2_row h2).trans (upr_n hi)) up2_s (fun j hj => (up2_nj hj).trans (congrFun (upr_n (by have := h.1; omega)) j)) (fun i hi => ⟨(hI i hi).1.trans (upr_n hi), (hI i hi).2.trans (upr_n hi)⟩)

set_option maxRecDepth 4000 in
theorem sp_i4 {σ0 : pT} {I0 : pI} {F0 : pF} {q : Nat} (hp : σ0.1 = q) (hk : (σ0.2.1 q).1 = 5) (hz : ∀ t, I0 q t = 0) : PM yX4_init cX4_init mX4_init (22, 140) [.ref q] σ0 I0 F0 (nwQ q 22 σ0 I0 F0 (fun σ I => isOr σ q ∧ ∀ t, I q t = 0)) := by
  refine PM.of oP_X4_init (catOK rfl) (Nat.le_of_ble_eq_true rfl) ?_
  show PW _ _ _ 0 [.ref q, pJ] [] _ _ _ _
  have L38 : ∀ k, k ≤ 20 → ∀ (σ : pT) (I : pI) (F : pF), OrL q σ0 I0 F0 k σ I F → PW cX4_init mX4_init (fM (nwQ q 22 σ0 I0 F0 (fun σ I => isOr σ q ∧ ∀ t, I q t = 0))) 38 [.ref q, .int (nI k)] [] σ I F (20 - k, (20 - k) * 3) := by
    refine dn (fun k => ∀ (σ : pT) (I : pI) (F : pF), OrL q σ0 I0 F0 k σ I F → PW cX4_init mX4_init (fM (nwQ q 22 σ0 I0 F0 (fun σ I => isOr σ q ∧ ∀ t, I q t = 0))) 38 [.ref q, .int (nI k)] [] σ I F (20 - k, (20 - k) * 3)) 20 ?_ ?_
    · intro σ I F h
      refine pw_iload_n dX4_init_38 rfl rfl ?_
      refine pw_aload_n dX4_init_39 rfl rfl ?_
      refine pw_getR (x := (q + 2)) dX4_init_40 fd_RX4_21 (by decide) h.2.1 rfl h.2.2.2.1 ?_
      refine pw_alenR dX4_init_43 h.2.2.2.2.2.1 (by decide) ?_
      refine pw_icmp_ge (tgt := 66) dX4_init_44 (by decide) (fun c_44 => ?_) (fun c_44 => absurd (Int32.le_refl _) c_44)
      exact pw_vret dX4_init_66 rfl (OrL_e h)
    · intro k hk ih σ I F h
      refine pw_iload_n dX4_init_38 rfl rfl ?_
      refine pw_aload_n dX4_init_39 rfl rfl ?_
      refine pw_getR (x := (q + 2)) dX4_init_40 fd_RX4_21 (by decide) h.2.1 rfl h.2.2.2.1 ?_
      refine pw_alenR dX4_init_43 h.2.2.2.2.2.1 (by decide) ?_
      refine pw_icmp_ge (tgt := 66) dX4_init_44 (by decide) (fun c_44 => absurd c_44 (nI_ge (b := 20) (by omega) (by decide))) (fun c_44 => ?_)
      refine pw_aload_n dX4_init_47 rfl rfl ?_
      refine pw_getR (x := (q + 2)) dX4_init_48 fd_RX4_21 (by decide) h.2.1 rfl h.2.2.2.1 ?_
      refine pw_iload_n dX4_init_51 rfl rfl ?_
      refine pw_new (ci := 3) dX4_init_52 (by decide) fd_RX3_7 cl_RX4_19 in_RX3 ii_RX3 (by constructor <;> (try simp only [fN_0, fN_1, fN_2, fN_3, fN_4, fN_5, fN_6]) <;> (try dsimp only) <;> omega) ?_
      refine pw_dup dX4_init_55 rfl ?_
      refine pr_callIN dX4_init_56 oX_X3_init nk_RX4_31 (sp_i3 (q := σ.1 + 1) (by show (upr σ.2.1 (σ.1 + 1) (3 + 1, 3) (σ.1 + 1)).1 = _; rw [upr_s])) rfl rfl (Nat.le_of_ble_eq_true rfl) (by decide) (fun v I1 F1 hq => ?_)
      obtain ⟨rfl, hI⟩ := hq
      refine pw_aastN (j := k) dX4_init_59 (by show upr σ.2.1 (σ.1 + 1) (3 + 1, 3) (q + 2) = _; rw [upr_n (by have := h.1; omega)]; exact h.2.2.2.2.2.1) (by omega) (by decide) (by decide) (by show (upr σ.2.1 (σ.1 + 1) (3 + 1, 3) (σ.1 + 1)).1 = _; rw [upr_s]) ?_
      refine pw_iinc (v := nI (k + 1)) dX4_init_60 rfl (nI_add _ _) rfl ?_
      refine pw_goto (tgt := 38) dX4_init_63 (by decide) ?_
      exact pw_mono (by constructor <;> (try simp only [fN_0, fN_1, fN_2, fN_3, fN_4, fN_5, fN_6]) <;> (try dsimp only) <;> omega) (ih _ _ _ (OrL_s h hk hI))
  have g0 := mk_0 (ks := ksOr) (F := F0) hp hk hz
  refine pw_aload_n dX4_init_0 rfl rfl ?_
  refine pw_objInit dX4_init_1 lk_RX4_3 oi_inst oi_code ⟨by decide, by decide⟩ ?_
  refine pw_aload_n dX4_init_4 rfl rfl ?_
  refine pw_bipush (v := 60) dX4_init_5 (by decide) ?_
  refine pw_newC (N := 60) dX4_init_7 ac_char (by decide) rfl (by decide) (by constructor <;> (try simp only [fN_0, fN_1, fN_2, fN_3, fN_4, fN_5, fN_6]) <;> (try dsimp only) <;> omega) ?_
  refine pw_putFR dX4_init_9 fd_RX4_9 (by decide) rfl rfl rfl rfl (mk_k g0) ?_
  have g1 := mk_arr (k := 0) g0 rfl rfl
  refine pw_aload_n dX4_init_12 rfl rfl ?_
  refine pw_iconst (v := 0) dX4_init_13 (by decide) ?_
  refine pw_putI dX4_init_14 fd_RX4_15 (by decide) rfl ⟨rfl, rfl, rfl⟩ g1.2.1 ?_
  have g2 := mk_put (k := 1) g1
  refine pw_aload_n dX4_init_17 rfl rfl ?_
  refine pw_bipush (v := 20) dX4_init_18 (by decide) ?_
  refine pw_newA (ci := 3) (N := 20) dX4_init_20 (by decide) cl_RX4_19 ao_RX3 (by decide) rfl (by decide) (by constructor <;> (try simp only [fN_0, fN_1, fN_2, fN_3, fN_4, fN_5, fN_6]) <;> (try dsimp only) <;> omega) ?_
  refine pw_putFR dX4_init_23 fd_RX4_21 (by decide) rfl rfl rfl rfl (mk_k g2) ?_
  have g3 := mk_arr (k := 2) g2 rfl rfl
  refine pw_aload_n dX4_init_26 rfl rfl ?_
  refine pw_iconst (v := 0) dX4_init_27 (by decide) ?_
  refine pw_putI dX4_init_28 fd_RX4_25 (by decide) rfl ⟨rfl, rfl, rfl⟩ g3.2.1 ?_
  have g4 := mk_put (k := 3) g3
  refine pw_aload_n dX4_init_31 rfl rfl ?_
  refine pw_iconst (v := 0) dX4_init_32 (by decide) ?_
  refine pw_putI dX4_init_33 fd_RX4_28 (by decide) rfl ⟨rfl, rfl, rfl⟩ g4.2.1 ?_
  have g5 := mk_put (k := 4) g4
  refine pw_iconst (v := 0) dX4_init_36 (by decide) ?_
  refine pw_istore_n dX4_init_37 rfl (by decide) rfl ?_
  exact pw_mono (by constructor <;> (try simp only [fN_0, fN_1, fN_2, fN_3, fN_4, fN_5, fN_6]) <;> (try dsimp only) <;> omega) (L38 0 (Nat.zero_le _) _ _ _ (OrL_0 g5))

