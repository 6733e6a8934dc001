/-! LONGS, and a method whose last parameter is one -/
section PL
variable {cc : ByteArray} {Y : mB} {Z : pZ} {pc : Nat} {ls st : List Value} {σ : pT} {I : pI} {F : pF} {β : Nat × Nat}
theorem pw_ldci {idx : Nat} {v : Int32} (hdg : decode cc pc = .ok (.ldc idx, 2)) (hw0 : Cond.constant Y.1 idx v ∈ wsA) (k : PW cc Y Z (pc + 2) ls (.int v :: st) σ I F β) : PW cc Y Z pc ls st σ I F β := by
  intro p l e R s m args below meth c D base b al0 l0 d0 H locs cells slots lsM stM hc hd hls hs hw hS hk1 hk2
  obtain ⟨hx, hb, hr0, hts, hown, hlk, hml, hrf, hrl, hbs, hsp, -⟩ := id hc
  exact lv_ldc hx hb hown (dr_words hts d0 _ hw0) hdg (k p l e R s m args below meth c D base b al0 l0 d0 H locs cells slots lsM _ hc hd hls ⟨_, _, rfl, rfl, hs⟩ hw hS hk1 hk2)
theorem pw_ldc2 {idx : Nat} {v : Int64} (hdg : decode cc pc = .ok (.ldc2_w idx, 3)) (hw0 : Cond.constantLong Y.1 idx v ∈ wsA) (k : PW cc Y Z (pc + 3) ls (.long v :: st) σ I F β) : PW cc Y Z pc ls st σ I F β := by
  intro p l e R s m args below meth c D base b al0 l0 d0 H locs cells slots lsM stM hc hd hls hs hw hS hk1 hk2
  obtain ⟨hx, hb, hr0, hts, hown, hlk, hml, hrf, hrl, hbs, hsp, -⟩ := id hc
  exact lv_ldc2 hx hb hown (dr_words hts d0 _ hw0) hdg (k p l e R s m args below meth c D base b al0 l0 d0 H locs cells slots lsM _ hc hd hls ⟨_, _, rfl, rfl, hs⟩ hw hS hk1 hk2)
theorem pw_lload_n {k0 : Fin 4} {i : Nat} {x : Int64} (hdg : decode cc pc = .ok (.lload_n k0, 1)) (hi : (k0 : Nat) = i) (hl : ls[i]? = some (.long x)) (k : PW cc Y Z (pc + 1) ls (.long x :: st) σ I F β) : PW cc Y Z pc ls st σ I F β := by
  intro p l e R s m args below meth c D base b al0 l0 d0 H locs cells slots lsM stM hc hd hls hs hw hS hk1 hk2
  obtain ⟨hx, hb, hr0, hts, hown, hlk, hml, hrf, hrl, hbs, hsp, -⟩ := id hc
  obtain ⟨_, rfl, h2⟩ := lr_get hls hl (by intro h; cases h)
  exact lv_lload_n hx hb hdg hi h2 (k p l e R s m args below meth c D base b al0 l0 d0 H locs cells slots lsM _ hc hd hls ⟨_, _, rfl, rfl, hs⟩ hw hS hk1 hk2)
theorem pw_lload {i : Nat} {x : Int64} (hdg : decode cc pc = .ok (.lload i, 2)) (hl : ls[i]? = some (.long x)) (k : PW cc Y Z (pc + 2) ls (.long x :: st) σ I F β) : PW cc Y Z pc ls st σ I F β := by
  intro p l e R s m args below meth c D base b al0 l0 d0 H locs cells slots lsM stM hc hd hls hs hw hS hk1 hk2
  obtain ⟨hx, hb, hr0, hts, hown, hlk, hml, hrf, hrl, hbs, hsp, -⟩ := id hc
  obtain ⟨_, rfl, h2⟩ := lr_get hls hl (by intro h; cases h)
  exact lv_lload hx hb hdg h2 (k p l e R s m args below meth c D base b al0 l0 d0 H locs cells slots lsM _ hc hd hls ⟨_, _, rfl, rfl, hs⟩ hw hS hk1 hk2)
theorem pw_lstore_n {k0 : Fin 4} {i : Nat} {x : Int64} (hdg : decode cc pc = .ok (.lstore_n k0, 1)) (hi : (k0 : Nat) = i) (hn : i + 1 < Y.2.1) (ho : lo2 ls i = true) (k : PW cc Y Z (pc + 1) ((ls.set i (.long x)).set (i + 1) pJ) st σ I F β) : PW cc Y Z pc ls (.long x :: st) σ I F β := by
  intro p l e R s m args below meth c D base b al0 l0 d0 H locs cells slots lsM stM hc hd hls hs hw hS hk1 hk2
  obtain ⟨hx, hb, hr0, hts, hown, hlk, hml, hrf, hrl, hbs, hsp, -⟩ := id hc
  obtain ⟨_, t0, rfl, rfl, hs⟩ := hs
  refine lv_lstore_n hx hb hdg hi (lr_has hls) hn rfl (fun ls1 hl1 => ?_)
  exact k p l e R s m args below meth c D base b al0 l0 d0 H locs cells slots ls1 _ hc hd (lr_set2 hls (rfl : vr _ (.long x) (.long x)) hl1 (lo2_ok ho)) hs hw hS hk1 hk2
theorem pw_lstore {i : Nat} {x : Int64} (hdg : decode cc pc = .ok (.lstore i, 2)) (hn : i + 1 < Y.2.1) (ho : lo2 ls i = true) (k : PW cc Y Z (pc + 2) ((ls.set i (.long x)).set (i + 1) pJ) st σ I F β) : PW cc Y Z pc ls (.long x :: st) σ I F β := by
  intro p l e R s m args below meth c D base b al0 l0 d0 H locs cells slots lsM stM hc hd hls hs hw hS hk1 hk2
  obtain ⟨hx, hb, hr0, hts, hown, hlk, hml, hrf, hrl, hbs, hsp, -⟩ := id hc
  obtain ⟨_, t0, rfl, rfl, hs⟩ := hs
  refine lv_lstore hx hb hdg (lr_has hls) hn rfl (fun ls1 hl1 => ?_)
  exact k p l e R s m args below meth c D base b al0 l0 d0 H locs cells slots ls1 _ hc hd (lr_set2 hls (rfl : vr _ (.long x) (.long x)) hl1 (lo2_ok ho)) hs hw hS hk1 hk2
theorem pw_ladd {x y : Int64} (hdg : decode cc pc = .ok (.ladd, 1)) (k : PW cc Y Z (pc + 1) ls (.long (x + y) :: st) σ I F β) : PW cc Y Z pc ls (.long y :: .long x :: st) σ I F β := by
  intro p l e R s m args below meth c D base b al0 l0 d0 H locs cells slots lsM stM hc hd hls hs hw hS hk1 hk2
  obtain ⟨hx, hb, hr0, hts, hown, hlk, hml, hrf, hrl, hbs, hsp, -⟩ := id hc
  obtain ⟨_, t0, rfl, rfl, hs⟩ := hs
  obtain ⟨_, t1, rfl, rfl, hs⟩ := hs
  exact lv_ladd hx hb hdg (k p l e R s m args below meth c D base b al0 l0 d0 H locs cells slots lsM _ hc hd hls ⟨_, _, rfl, rfl, hs⟩ hw hS hk1 hk2)
theorem pw_lmul {x y : Int64} (hdg : decode cc pc = .ok (.lmul, 1)) (k : PW cc Y Z (pc + 1) ls (.long (x * y) :: st) σ I F β) : PW cc Y Z pc ls (.long y :: .long x :: st) σ I F β := by
  intro p l e R s m args below meth c D base b al0 l0 d0 H locs cells slots lsM stM hc hd hls hs hw hS hk1 hk2
  obtain ⟨hx, hb, hr0, hts, hown, hlk, hml, hrf, hrl, hbs, hsp, -⟩ := id hc
  obtain ⟨_, t0, rfl, rfl, hs⟩ := hs
  obtain ⟨_, t1, rfl, rfl, hs⟩ := hs
  exact lv_lmul hx hb hdg (k p l e R s m args below meth c D base b al0 l0 d0 H locs cells slots lsM _ hc hd hls ⟨_, _, rfl, rfl, hs⟩ hw hS hk1 hk2)
theorem pw_i2l {x : Int32} (hdg : decode cc pc = .ok (.i2l, 1)) (k : PW cc Y Z (pc + 1) ls (.long x.toInt64 :: st) σ I F β) : PW cc Y Z pc ls (.int x :: st) σ I F β := by
  intro p l e R s m args below meth c D base b al0 l0 d0 H locs cells slots lsM stM hc hd hls hs hw hS hk1 hk2
  obtain ⟨hx, hb, hr0, hts, hown, hlk, hml, hrf, hrl, hbs, hsp, -⟩ := id hc
  obtain ⟨_, t0, rfl, rfl, hs⟩ := hs
  exact lv_i2l hx hb hdg rfl (k p l e R s m args below meth c D base b al0 l0 d0 H locs cells slots lsM _ hc hd hls ⟨_, _, rfl, rfl, hs⟩ hw hS hk1 hk2)
theorem pw_lcmp {x y : Int64} (hdg : decode cc pc = .ok (.lcmp, 1)) (k : PW cc Y Z (pc + 1) ls (.int (lg_cmp x y) :: st) σ I F β) : PW cc Y Z pc ls (.long y :: .long x :: st) σ I F β := by
  intro p l e R s m args below meth c D base b al0 l0 d0 H locs cells slots lsM stM hc hd hls hs hw hS hk1 hk2
  obtain ⟨hx, hb, hr0, hts, hown, hlk, hml, hrf, hrl, hbs, hsp, -⟩ := id hc
  obtain ⟨_, t0, rfl, rfl, hs⟩ := hs
  obtain ⟨_, t1, rfl, rfl, hs⟩ := hs
  exact W.lcmp hx hb hdg (k p l e R s m args below meth c D base b al0 l0 d0 H locs cells slots lsM _ hc hd hls ⟨_, _, rfl, rfl, hs⟩ hw hS hk1 hk2)
theorem pw_idiv {x y : Int32} (hdg : decode cc pc = .ok (.idiv, 1)) (hne : ¬ y = 0) (k : PW cc Y Z (pc + 1) ls (.int (x / y) :: st) σ I F β) : PW cc Y Z pc ls (.int y :: .int x :: st) σ I F β := by
  intro p l e R s m args below meth c D base b al0 l0 d0 H locs cells slots lsM stM hc hd hls hs hw hS hk1 hk2
  obtain ⟨hx, hb, hr0, hts, hown, hlk, hml, hrf, hrl, hbs, hsp, -⟩ := id hc
  obtain ⟨_, t0, rfl, rfl, hs⟩ := hs
  obtain ⟨_, t1, rfl, rfl, hs⟩ := hs
  exact lv_idiv hx hb hdg hne (k p l e R s m args below meth c D base b al0 l0 d0 H locs cells slots lsM _ hc hd hls ⟨_, _, rfl, rfl, hs⟩ hw hS hk1 hk2)
theorem pw_pop {x : Int32} (hdg : decode cc pc = .ok (.pop, 1)) (k : PW cc Y Z (pc + 1) ls st σ I F β) : PW cc Y Z pc ls (.int x :: st) σ I F β := by
  intro p l e R s m args below meth c D base b al0 l0 d0 H locs cells slots lsM stM hc hd hls hs hw hS hk1 hk2
  obtain ⟨hx, hb, hr0, hts, hown, hlk, hml, hrf, hrl, hbs, hsp, -⟩ := id hc
  obtain ⟨_, t0, rfl, rfl, hs⟩ := hs
  exact lv_pop hx hb hdg rfl (k p l e R s m args below meth c D base b al0 l0 d0 H locs cells slots lsM _ hc hd hls hs hw hS hk1 hk2)
theorem pw_lret {Post : pQ} {x : Int64} (hdg : decode cc pc = .ok (.lreturn, 1)) (hr : Y.2.2.1 = some .long) (h : Post (some (.long x)) σ I F) : PW cc Y (fM Post) pc ls [.long x] σ I F β := by
  intro p l e R s m args below meth c D base b al0 l0 d0 H locs cells slots lsM stM hc hd hls hs hw hS hk1 hk2
  obtain ⟨hx, hb, hr0, hts, hown, hlk, hml, hrf, hrl, hbs, hsp, -⟩ := id hc
  obtain ⟨v', tM, rfl, rfl, hst⟩ := hs
  rw [show tM = [] from hst]
  refine W.widen (k := R.cells) (n := R.slots) (by omega) (by omega) ?_
  refine W.endD hd ?_
  exact W.lret hx hb (hr0.trans hr) (fun t ht hW => ⟨⟨some (.long x), some (.long x), l0, σ, I, F, rfl, ⟨_, rfl, rfl⟩, h, by rw [ht]; exact wr_moved hW.alike hw⟩, hS.F ht⟩) hS.2.2 hdg hlk
theorem pe_callSl {y : MethodName} {cy : ByteArray} {Yy : mB} {n idx : Nat} {as : List Value} {r : Int64} {I' : pI} {F' : pF} {stk : List Value} (hdg : decode cc pc = .ok (.invokestatic idx, 3)) (hy : mOKS y cy Yy n) (hl : Cond.methodLink Y.1 idx y ∈ wsA) (hM : PE y cy Yy as σ I F (some (.long r)) I' F') (hn : as.length = n) (hst : stk = as.reverse ++ st) (hcat : (st.map fun v => v.category).sum ≤ 8) (hR : Yy.2.2.2.1 + 1 ≤ Y.2.2.2.1 ∧ 8 + (Yy.2.1 + 11) + Yy.2.2.2.2.1 ≤ Y.2.2.2.2.1) (k : PW cc Y Z (pc + 3) ls (.long r :: st) σ I' F' β) : PW cc Y Z pc ls stk σ I F β :=
  pw_callS hdg hy hl hM hn hst hcat hR ⟨Nat.zero_le _, Nat.zero_le _⟩ (by rintro _ _ _ _ ⟨rfl, rfl, rfl, rfl⟩; exact k)
theorem lv_args_mem2 {x : Value} : ∀ (vs : List Value) (i : Nat), (∀ v ∈ vs, v.category = 1) → ∀ (k : Nat) (v : Value), (vs ++ [x])[k]? = some v → (i + k, v) ∈ lv_args i (vs ++ [x])
  | [], i, _, 0, v, h => by
    have h1 : x = v := by simpa using h
    subst h1
    exact List.mem_cons_self
  | [], i, _, k + 1, v, h => by simp at h
  | u :: vs, i, hc, 0, v, h => by
    have h1 : u = v := by simpa using h
    subst h1
    exact List.mem_cons_self
  | u :: vs, i, hc, k + 1, v, h => by
    rw [List.cons_append, List.getElem?_cons_succ] at h
    have h1 : ¬ u.category = 2 := by rw [hc u List.mem_cons_self]; decide
    show (i + (k + 1), v) ∈ (i, u) :: lv_args (if u.category = 2 then i + 2 else i + 1) (vs ++ [x])
    rw [if_neg h1]
    have h2 := lv_args_mem2 (x := x) vs (i + 1) (fun w hw => hc w (List.mem_cons_of_mem _ hw)) k v h
    rw [show i + (k + 1) = i + 1 + k by omega]
    exact List.mem_cons_of_mem _ h2
theorem lg_sl_len2 {x : Value} (hx : x.category = 2) : ∀ (vs : List Value), (∀ v ∈ vs, v.category = 1) → (lg_sl (vs ++ [x])).length = vs.length + 2
  | [], _ => by
    unfold lg_sl
    rw [List.nil_append, List.flatMap_cons, if_pos hx]
    rfl
  | u :: vs, hc => by
    have h1 : ¬ u.category = 2 := by rw [hc u List.mem_cons_self]; decide
    have h2 := lg_sl_len2 hx vs (fun w hw => hc w (List.mem_cons_of_mem _ hw))
    unfold lg_sl at h2 ⊢
    rw [List.cons_append, List.flatMap_cons, if_neg h1, List.length_append, h2]
    simp only [List.length_cons, List.length_nil]
    omega
theorem lr_entry2 {al : List Nat} {as asM : List Value} {x : Value} {nL : Nat} (h : sr al (as ++ [x]) asM) (hc : ∀ v ∈ as, v.category = 1) (hx : x.category = 2) (hn : as.length + 2 ≤ nL) :
    lr al nL (as ++ x :: List.replicate (nL - as.length - 1) pJ) ((lg_sl asM ++ List.replicate (nL - (lg_sl asM).length) Slot.unset).toArray) := by
  obtain ⟨aM, tM, rfl, ha, v', t, rfl, hv, ht⟩ := sr_split h
  rw [show t = [] from ht] at h ⊢
  have hcM := sr_cats ha hc
  have hxM : v'.category = 2 := (vr_cat hv).trans hx
  have hlen : (lg_sl (aM ++ [v'])).length = as.length + 2 := by rw [lg_sl_len2 hxM aM hcM, sr_len ha]
  have hE := lv_entry (aM ++ [v']) (n := nL) (by rw [hlen]; exact hn)
  refine ⟨hE.1, hE.2.1, by simp; omega, fun k v hk => ?_⟩
  by_cases hl : k < as.length + 1
  · have hk2 : (as ++ [x])[k]? = some v := by
      rw [← hk]
      by_cases h2 : k < as.length
      · rw [List.getElem?_append_left h2, List.getElem?_append_left h2]
      · rw [List.getElem?_append_right (by omega), List.getElem?_append_right (by omega), show k - as.length = 0 by omega]
        rfl
    obtain ⟨w, h1, h2⟩ := sr_get h hk2
    refine Or.inr ⟨w, h2, ?_⟩
    have h3 := hE.2.2 _ (lv_args_mem2 aM 0 hcM k w h1)
    rwa [Nat.zero_add] at h3
  · rw [List.getElem?_append_right (by omega), show k - as.length = (k - as.length - 1) + 1 by omega, List.getElem?_cons_succ, List.getElem?_replicate] at hk
    split at hk
    · cases hk; exact Or.inl rfl
    · cases hk
theorem PM.of2 {y : MethodName} {as : List Value} {x : Value} {Post : pQ} (hy : plainName y.cls = true ∧ y.cls = Y.1 ∧ (Y.2.2.2.2.2 = true → y.name = "<init>")) (hcat : ∀ v ∈ as, v.category = 1) (hx : x.category = 2) (hn : as.length + 2 ≤ Y.2.1)
    (k : PW cc Y (fM Post) 0 (as ++ x :: List.replicate (Y.2.1 - as.length - 1) pJ) [] σ I F β) : PM y cc Y β (as ++ [x]) σ I F Post := by
  intro l D base b al asM hs
  refine MetD.ofW (cc := cc) (maxL := Y.2.1) (ret := Y.2.2.1) hy.1 rfl ?_
  intro p e s m args below meth c s₁ B hml hv hd0
  obtain ⟨rfl, hsz, hsp, hw⟩ := hv
  have hts0 := atoms_spec (ws := pWs y cc Y) B.pre
  have hts : ∀ w ∈ wsA, w.before asM.toArray s = true := fun w h => hts0 w (List.mem_cons_of_mem _ h)
  have hown : s.vm.findClass Y.1 = some m.cls := by rw [← hy.2.1]; exact findClass_of_methodNamed B.named
  rw [lg_entry_eq]
  refine k p l e _ s m _ below meth c D base b al [] s.drawn s.heap [] 0 0 _ [] ⟨B.exec, B.bytes, B.returns, hts, hown, B.notSynchronized, hml, rfl, rfl, hsz, hsp, fun h => ?_⟩ (Drawn.sameBut.refl _ _) (by rw [List.append_nil]; exact lr_entry2 hs hcat hx hn) rfl (by rw [List.append_nil]; exact hw) va_S.rf (by simp [headSpec]) (by simp [headSpec])
  exact (name_of_methodNamed B.named B.method).1.trans (hy.2.2 h)
end PL
theorem pn_RL : plainName RL = true := by decide +kernel
theorem oP_L_cell : plainName yL_cell.cls = true ∧ yL_cell.cls = mL_cell.1 ∧ (mL_cell.2.2.2.2.2 = true → yL_cell.name = "<init>") := ⟨pn_RL, rfl, (fun h => by cases h)⟩
theorem oP_L_up : plainName yL_up.cls = true ∧ yL_up.cls = mL_up.1 ∧ (mL_up.2.2.2.2.2 = true → yL_up.name = "<init>") := ⟨pn_RL, rfl, (fun h => by cases h)⟩
theorem oP_L_view : plainName yL_view.cls = true ∧ yL_view.cls = mL_view.1 ∧ (mL_view.2.2.2.2.2 = true → yL_view.name = "<init>") := ⟨pn_RL, rfl, (fun h => by cases h)⟩
theorem oP_L_any : plainName yL_any.cls = true ∧ yL_any.cls = mL_any.1 ∧ (mL_any.2.2.2.2.2 = true → yL_any.name = "<init>") := ⟨pn_RL, rfl, (fun h => by cases h)⟩
theorem oP_L_setsUp : plainName yL_setsUp.cls = true ∧ yL_setsUp.cls = mL_setsUp.1 ∧ (mL_setsUp.2.2.2.2.2 = true → yL_setsUp.name = "<init>") := ⟨pn_RL, rfl, (fun h => by cases h)⟩
theorem oP_L_turn : plainName yL_turn.cls = true ∧ yL_turn.cls = mL_turn.1 ∧ (mL_turn.2.2.2.2.2 = true → yL_turn.name = "<init>") := ⟨pn_RL, rfl, (fun h => by cases h)⟩
theorem oP_L_isTask : plainName yL_isTask.cls = true ∧ yL_isTask.cls = mL_isTask.1 ∧ (mL_isTask.2.2.2.2.2 = true → yL_isTask.name = "<init>") := ⟨pn_RL, rfl, (fun h => by cases h)⟩
theorem oP_L_isAsset : plainName yL_isAsset.cls = true ∧ yL_isAsset.cls = mL_isAsset.1 ∧ (mL_isAsset.2.2.2.2.2 = true → yL_isAsset.name = "<init>") := ⟨pn_RL, rfl, (fun h => by cases h)⟩
theorem oP_L_areRight : plainName yL_areRight.cls = true ∧ yL_areRight.cls = mL_areRight.1 ∧ (mL_areRight.2.2.2.2.2 = true → yL_areRight.name = "<init>") := ⟨pn_RL, rfl, (fun h => by cases h)⟩
theorem oP_L_isUndone : plainName yL_isUndone.cls = true ∧ yL_isUndone.cls = mL_isUndone.1 ∧ (mL_isUndone.2.2.2.2.2 = true → yL_isUndone.name = "<init>") := ⟨pn_RL, rfl, (fun h => by cases h)⟩
theorem oP_L_isKept : plainName yL_isKept.cls = true ∧ yL_isKept.cls = mL_isKept.1 ∧ (mL_isKept.2.2.2.2.2 = true → yL_isKept.name = "<init>") := ⟨pn_RL, rfl, (fun h => by cases h)⟩
theorem pw_weak {cc : ByteArray} {Y : mB} {Z : pZ} {pc : Nat} {ls ls' st : List Value} {σ : pT} {I : pI} {F : pF} {β : Nat × Nat} (hl : ls'.length = ls.length) (h : ∀ (k : Nat) (v : Value), ls'[k]? = some v → v = pJ ∨ ls[k]? = some v) (k : PW cc Y Z pc ls' st σ I F β) : PW cc Y Z pc ls st σ I F β := by
  intro p l e R s m args below meth c D base b al0 l0 d0 H locs cells slots lsM stM hc hd hls hs hw hS hk1 hk2
  refine k p l e R s m args below meth c D base b al0 l0 d0 H locs cells slots lsM stM hc hd ⟨hls.1, hls.2.1, hl.trans hls.2.2.1, fun j v hj => ?_⟩ hs hw hS hk1 hk2
  rcases h j v hj with h1 | h1
  · exact Or.inl h1
  · exact hls.2.2.2 j v h1
theorem wk_nil : ∀ (k : Nat) (v : Value), ([] : List Value)[k]? = some v → v = pJ ∨ ([] : List Value)[k]? = some v := fun k v h => by simp at h
theorem wk_same {ls ls' : List Value} {u : Value} (h : ∀ (k : Nat) (v : Value), ls'[k]? = some v → v = pJ ∨ ls[k]? = some v) : ∀ (k : Nat) (v : Value), (u :: ls')[k]? = some v → v = pJ ∨ (u :: ls)[k]? = some v
  | 0, v, hk => Or.inr hk
  | k + 1, v, hk => h k v hk
theorem wk_drop {ls ls' : List Value} {u : Value} (h : ∀ (k : Nat) (v : Value), ls'[k]? = some v → v = pJ ∨ ls[k]? = some v) : ∀ (k : Nat) (v : Value), (pJ :: ls')[k]? = some v → v = pJ ∨ (u :: ls)[k]? = some v
  | 0, v, hk => by
    have : pJ = v := by simpa using hk
    exact Or.inl this.symm
  | k + 1, v, hk => h k v hk
