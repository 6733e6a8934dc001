/-! call by call -/
theorem inv_now {x m nA nC n o z l : Nat} {I I1 : pI} {F F1 : pF} (hm : x + 320 ≤ m) (h : InvP x m nA nC n o z l I F) (h1 : mid x I F I1 F1) : I1 m 6 = nI z ∧ z ≤ 4 ∧ I1 m 9 = nI l ∧ l ≤ 60 ∧ I1 (m + 1) = I (m + 1) ∧ F1 (m + 2) = F (m + 2) ∧ F1 (m + 3) = F (m + 3) ∧ mFit (I1 (m + 1)) nA nC n := by
  have e : I1 m = I m := (h1 m (by omega)).1
  have e1 : I1 (m + 1) = I (m + 1) := (h1 _ (by omega)).1
  refine ⟨by rw [e]; exact h.2.1.2.2.2.2, h.2.1.2.2.2.1, by rw [e]; exact h.2.2.2.2.1.2.1, h.2.2.2.2.1.2.2.1, e1, (h1 _ (by omega)).2, (h1 _ (by omega)).2, by rw [e1]; exact Rep_fit h.1.1⟩

theorem lcs_addAsset {x nA nC n o z : Nat} {a b : Int32} {I : pI} {F : pF} (hk : cOK x I nA nC n o z) : ∀ Ia Fa, Cpy (x + 43) (x + 1) I F Ia Fa → lcl (x + 1) Ia (newAssetR Ia Fa (x + 1) nA a b).2.1 ∧ lcl (x + 1) Fa (newAssetR Ia Fa (x + 1) nA a b).2.2 := fun Ia Fa hcp => by
  obtain ⟨hA, hA8, hC, hC5, hn, hn4, hW, hKd, hb, ho, ho4, hz, hz4⟩ := cOK_fr hk (fun i hi => (Cpy_fr hcp (by omega)).1)
  exact lc_newAsset
theorem st_addAsset {x m nA nC n o z l : Nat} {a b : Int32} {I I1 I2 : pI} {F F1 F2 : pF} {v v' : Option Value} (hm : x + 320 ≤ m) (h : InvP x m nA nC n o z l I F) (hc : actQ x o z I F (fun I F => newAssetR I F (x + 1) nA a b) v I1 F1) (hq : mActQ m z (mAddE (I1 (m + 1)) a b) (fun I F => mAddR I F m nA a b) I1 F1 v' I2 F2) : v = v' ∧ Inv x m I2 F2 := by
  have hl := lcs_addAsset (a := a) (b := b) (F := F) (InvP_cOK h)
  rw [(act_mid hc hl (m + 1) (by omega)).1] at hq
  exact act_step (nA' := nA + 1) (nC' := nC) (n' := n) hm h hc hq hl (fun I F => mLcl_o (mLcl_h (mLcl_u (mLcl_u (mLcl_u (mLcl_u (mLcl_u (mLcl_u mLcl_0)))))))) (fun Ia Fa J G e hp => by
    rw [← e]
    exact assetAdd_sim hp)

theorem lcs_link {x nA nC n o z : Nat} {a b c : Int32} {I : pI} {F : pF} (hk : cOK x I nA nC n o z) : ∀ Ia Fa, Cpy (x + 43) (x + 1) I F Ia Fa → lcl (x + 1) Ia (setLinkR Ia Fa (x + 1) a b c).2.1 ∧ lcl (x + 1) Fa (setLinkR Ia Fa (x + 1) a b c).2.2 := fun Ia Fa hcp => by
  obtain ⟨hA, hA8, hC, hC5, hn, hn4, hW, hKd, hb, ho, ho4, hz, hz4⟩ := cOK_fr hk (fun i hi => (Cpy_fr hcp (by omega)).1)
  exact lc_setLink hA hA8
theorem st_link {x m nA nC n o z l : Nat} {a b c : Int32} {I I1 I2 : pI} {F F1 F2 : pF} {v v' : Option Value} (hm : x + 320 ≤ m) (h : InvP x m nA nC n o z l I F) (hz : c = 0 ∨ c = 1) (hc : actQ x o z I F (fun I F => setLinkR I F (x + 1) a b c) v I1 F1) (hq : mActQ m z (mLinkE (I1 (m + 1)) a b c) (fun I F => mLinkR I F m a b) I1 F1 v' I2 F2) : v = v' ∧ Inv x m I2 F2 := by
  have hl := lcs_link (a := a) (b := b) (c := c) (F := F) (InvP_cOK h)
  rw [(act_mid hc hl (m + 1) (by omega)).1] at hq
  exact act_step (nA' := nA) (nC' := nC) (n' := n) hm h hc hq hl (fun I F => mLcl_u (mLcl_u mLcl_0)) (fun Ia Fa J G e hp => by
    rw [← e]
    exact link_sim hp hz)

theorem lcs_bar {x nA nC n o z : Nat} {a b c : Int32} {I : pI} {F : pF} (hk : cOK x I nA nC n o z) : ∀ Ia Fa, Cpy (x + 43) (x + 1) I F Ia Fa → lcl (x + 1) Ia (setBarR Ia Fa (x + 1) a b c).2.1 ∧ lcl (x + 1) Fa (setBarR Ia Fa (x + 1) a b c).2.2 := fun Ia Fa hcp => by
  obtain ⟨hA, hA8, hC, hC5, hn, hn4, hW, hKd, hb, ho, ho4, hz, hz4⟩ := cOK_fr hk (fun i hi => (Cpy_fr hcp (by omega)).1)
  exact lc_setBar
theorem st_bar {x m nA nC n o z l : Nat} {a b c : Int32} {I I1 I2 : pI} {F F1 F2 : pF} {v v' : Option Value} (hm : x + 320 ≤ m) (h : InvP x m nA nC n o z l I F) (hc : actQ x o z I F (fun I F => setBarR I F (x + 1) a b c) v I1 F1) (hq : mActQ m z (mBarE (I1 (m + 1)) a b c) (fun I F => mBarR I F m a b) I1 F1 v' I2 F2) : v = v' ∧ Inv x m I2 F2 := by
  have hl := lcs_bar (a := a) (b := b) (c := c) (F := F) (InvP_cOK h)
  rw [(act_mid hc hl (m + 1) (by omega)).1] at hq
  exact act_step (nA' := nA) (nC' := nC) (n' := n) hm h hc hq hl (fun I F => by
      unfold mBarR
      dsimp only
      split
      · exact mLcl_u mLcl_0
      · exact mLcl_u (mLcl_u mLcl_0)) (fun Ia Fa J G e hp => by
    rw [← e]
    exact bar_sim hp)

theorem lcs_addCrew {x nA nC n o z : Nat} {a b : Int32} {I : pI} {F : pF} (hk : cOK x I nA nC n o z) : ∀ Ia Fa, Cpy (x + 43) (x + 1) I F Ia Fa → lcl (x + 1) Ia (newCrewR Ia Fa (x + 1) nC a b).2.1 ∧ lcl (x + 1) Fa (newCrewR Ia Fa (x + 1) nC a b).2.2 := fun Ia Fa hcp => by
  obtain ⟨hA, hA8, hC, hC5, hn, hn4, hW, hKd, hb, ho, ho4, hz, hz4⟩ := cOK_fr hk (fun i hi => (Cpy_fr hcp (by omega)).1)
  exact lc_newCrew
theorem st_addCrew {x m nA nC n o z l : Nat} {a b : Int32} {I I1 I2 : pI} {F F1 F2 : pF} {v v' : Option Value} (hm : x + 320 ≤ m) (h : InvP x m nA nC n o z l I F) (hc : actQ x o z I F (fun I F => newCrewR I F (x + 1) nC a b) v I1 F1) (hq : mActQ m z (mCrewE (I1 (m + 1)) a b) (fun I F => mCrewR I F m nC a b) I1 F1 v' I2 F2) : v = v' ∧ Inv x m I2 F2 := by
  have hl := lcs_addCrew (a := a) (b := b) (F := F) (InvP_cOK h)
  rw [(act_mid hc hl (m + 1) (by omega)).1] at hq
  exact act_step (nA' := nA) (nC' := nC + 1) (n' := n) hm h hc hq hl (fun I F => mLcl_u (mLcl_u (mLcl_u mLcl_0))) (fun Ia Fa J G e hp => by
    rw [← e]
    exact crewAdd_sim hp)

theorem lcs_addTask {x nA nC n o z : Nat} {a b c d e f : Int32} {I : pI} {F : pF} (hk : cOK x I nA nC n o z) : ∀ Ia Fa, Cpy (x + 43) (x + 1) I F Ia Fa → lcl (x + 1) Ia (newTaskR Ia Fa (x + 1) n a b c d e f).2.1 ∧ lcl (x + 1) Fa (newTaskR Ia Fa (x + 1) n a b c d e f).2.2 := fun Ia Fa hcp => by
  obtain ⟨hA, hA8, hC, hC5, hn, hn4, hW, hKd, hb, ho, ho4, hz, hz4⟩ := cOK_fr hk (fun i hi => (Cpy_fr hcp (by omega)).1)
  exact lc_newTask
theorem st_addTask {x m nA nC n o z l : Nat} {a b c d e f : Int32} {I I1 I2 : pI} {F F1 F2 : pF} {v v' : Option Value} (hm : x + 320 ≤ m) (h : InvP x m nA nC n o z l I F) (hc : actQ x o z I F (fun I F => newTaskR I F (x + 1) n a b c d e f) v I1 F1) (hq : mActQ m z (mTaskE (I1 (m + 1)) a b c d e f) (fun I F => mTaskR I F m n a b c d e f) I1 F1 v' I2 F2) : v = v' ∧ Inv x m I2 F2 := by
  have hl := lcs_addTask (a := a) (b := b) (c := c) (d := d) (e := e) (f := f) (F := F) (InvP_cOK h)
  rw [(act_mid hc hl (m + 1) (by omega)).1] at hq
  exact act_step (nA' := nA) (nC' := nC) (n' := n + 1) hm h hc hq hl (fun I F => mLcl_u (mLcl_u (mLcl_u (mLcl_u (mLcl_u (mLcl_u (mLcl_u (mLcl_u (mLcl_u (mLcl_u (mLcl_u mLcl_0))))))))))) (fun Ia Fa J G e hp => by
    rw [← e]
    exact taskAdd_sim hp)

theorem lcs_run {x nA nC n o z : Nat} {a : Int32} {I : pI} {F : pF} (hk : cOK x I nA nC n o z) : ∀ Ia Fa, Cpy (x + 43) (x + 1) I F Ia Fa → lcl (x + 1) Ia (startR Ia Fa (x + 1) nA n a).2.1 ∧ lcl (x + 1) Fa (startR Ia Fa (x + 1) nA n a).2.2 := fun Ia Fa hcp => by
  obtain ⟨hA, hA8, hC, hC5, hn, hn4, hW, hKd, hb, ho, ho4, hz, hz4⟩ := cOK_fr hk (fun i hi => (Cpy_fr hcp (by omega)).1)
  exact lc_start hA hA8
theorem st_run {x m nA nC n o z l : Nat} {a : Int32} {I I1 I2 : pI} {F F1 F2 : pF} {v v' : Option Value} (hm : x + 320 ≤ m) (h : InvP x m nA nC n o z l I F) (hc : actQ x o z I F (fun I F => startR I F (x + 1) nA n a) v I1 F1) (hq : mActQ m z (mRunE (I1 (m + 1)) a) (fun I F => mGoesR I F m nA a 1) I1 F1 v' I2 F2) : v = v' ∧ Inv x m I2 F2 := by
  have hl := lcs_run (a := a) (F := F) (InvP_cOK h)
  rw [(act_mid hc hl (m + 1) (by omega)).1] at hq
  exact act_step (nA' := nA) (nC' := nC) (n' := n) hm h hc hq hl (fun I F => mLcl_u mLcl_0) (fun Ia Fa J G e hp => by
    rw [← e]
    exact start_sim hp)

theorem lcs_stop {x nA nC n o z : Nat} {a : Int32} {I : pI} {F : pF} (hk : cOK x I nA nC n o z) : ∀ Ia Fa, Cpy (x + 43) (x + 1) I F Ia Fa → lcl (x + 1) Ia (stopR Ia Fa (x + 1) nA a).2.1 ∧ lcl (x + 1) Fa (stopR Ia Fa (x + 1) nA a).2.2 := fun Ia Fa hcp => by
  obtain ⟨hA, hA8, hC, hC5, hn, hn4, hW, hKd, hb, ho, ho4, hz, hz4⟩ := cOK_fr hk (fun i hi => (Cpy_fr hcp (by omega)).1)
  exact lc_stop hA hA8
theorem st_stop {x m nA nC n o z l : Nat} {a : Int32} {I I1 I2 : pI} {F F1 F2 : pF} {v v' : Option Value} (hm : x + 320 ≤ m) (h : InvP x m nA nC n o z l I F) (hc : actQ x o z I F (fun I F => stopR I F (x + 1) nA a) v I1 F1) (hq : mActQ m z (mStopE (I1 (m + 1)) a) (fun I F => mGoesR I F m nA a 0) I1 F1 v' I2 F2) : v = v' ∧ Inv x m I2 F2 := by
  have hl := lcs_stop (a := a) (F := F) (InvP_cOK h)
  rw [(act_mid hc hl (m + 1) (by omega)).1] at hq
  exact act_step (nA' := nA) (nC' := nC) (n' := n) hm h hc hq hl (fun I F => mLcl_u mLcl_0) (fun Ia Fa J G e hp => by
    rw [← e]
    exact stop_sim hp)

theorem lcs_hang {x nA nC n o z : Nat} {a b : Int32} {I : pI} {F : pF} (hk : cOK x I nA nC n o z) : ∀ Ia Fa, Cpy (x + 43) (x + 1) I F Ia Fa → lcl (x + 1) Ia (hangR Ia Fa (x + 1) n a b).2.1 ∧ lcl (x + 1) Fa (hangR Ia Fa (x + 1) n a b).2.2 := fun Ia Fa hcp => by
  obtain ⟨hA, hA8, hC, hC5, hn, hn4, hW, hKd, hb, ho, ho4, hz, hz4⟩ := cOK_fr hk (fun i hi => (Cpy_fr hcp (by omega)).1)
  exact lc_hang hn hn4
theorem st_hang {x m nA nC n o z l : Nat} {a b : Int32} {I I1 I2 : pI} {F F1 F2 : pF} {v v' : Option Value} (hm : x + 320 ≤ m) (h : InvP x m nA nC n o z l I F) (hc : actQ x o z I F (fun I F => hangR I F (x + 1) n a b) v I1 F1) (hq : mActQ m z (mHangE (I1 (m + 1)) n a b) (fun I F => mHangR I F m a b) I1 F1 v' I2 F2) : v = v' ∧ Inv x m I2 F2 := by
  have hl := lcs_hang (a := a) (b := b) (F := F) (InvP_cOK h)
  rw [(act_mid hc hl (m + 1) (by omega)).1] at hq
  exact act_step (nA' := nA) (nC' := nC) (n' := n) hm h hc hq hl (fun I F => mLcl_u (mLcl_u (mLcl_u (mLcl_u mLcl_0)))) (fun Ia Fa J G e hp => by
    rw [← e]
    exact hang_sim hp)

theorem lcs_begin {x nA nC n o z : Nat} {a : Int32} {I : pI} {F : pF} (hk : cOK x I nA nC n o z) : ∀ Ia Fa, Cpy (x + 43) (x + 1) I F Ia Fa → lcl (x + 1) Ia (beginR Ia Fa (x + 1) n a).2.1 ∧ lcl (x + 1) Fa (beginR Ia Fa (x + 1) n a).2.2 := fun Ia Fa hcp => by
  obtain ⟨hA, hA8, hC, hC5, hn, hn4, hW, hKd, hb, ho, ho4, hz, hz4⟩ := cOK_fr hk (fun i hi => (Cpy_fr hcp (by omega)).1)
  exact lc_begin hn hn4
theorem st_begin {x m nA nC n o z l : Nat} {a : Int32} {I I1 I2 : pI} {F F1 F2 : pF} {v v' : Option Value} (hm : x + 320 ≤ m) (h : InvP x m nA nC n o z l I F) (hc : actQ x o z I F (fun I F => beginR I F (x + 1) n a) v I1 F1) (hq : mActQ m z (mBeginE (I1 (m + 1)) n a) (fun I F => mBeginR I F m a) I1 F1 v' I2 F2) : v = v' ∧ Inv x m I2 F2 := by
  have hl := lcs_begin (a := a) (F := F) (InvP_cOK h)
  rw [(act_mid hc hl (m + 1) (by omega)).1] at hq
  exact act_step (nA' := nA) (nC' := nC) (n' := n) hm h hc hq hl (fun I F => mLcl_u (mLcl_u mLcl_0)) (fun Ia Fa J G e hp => by
    rw [← e]
    exact begin_sim hp)

theorem lcs_lift {x nA nC n o z : Nat} {a b : Int32} {I : pI} {F : pF} (hk : cOK x I nA nC n o z) : ∀ Ia Fa, Cpy (x + 43) (x + 1) I F Ia Fa → lcl (x + 1) Ia (liftR Ia Fa (x + 1) n a b).2.1 ∧ lcl (x + 1) Fa (liftR Ia Fa (x + 1) n a b).2.2 := fun Ia Fa hcp => by
  obtain ⟨hA, hA8, hC, hC5, hn, hn4, hW, hKd, hb, ho, ho4, hz, hz4⟩ := cOK_fr hk (fun i hi => (Cpy_fr hcp (by omega)).1)
  exact lc_lift hn hn4
theorem st_lift {x m nA nC n o z l : Nat} {a b : Int32} {I I1 I2 : pI} {F F1 F2 : pF} {v v' : Option Value} (hm : x + 320 ≤ m) (h : InvP x m nA nC n o z l I F) (hc : actQ x o z I F (fun I F => liftR I F (x + 1) n a b) v I1 F1) (hq : mActQ m z (mLiftE (I1 (m + 1)) a b) (fun I F => mLiftR I F m a) I1 F1 v' I2 F2) : v = v' ∧ Inv x m I2 F2 := by
  have hl := lcs_lift (a := a) (b := b) (F := F) (InvP_cOK h)
  rw [(act_mid hc hl (m + 1) (by omega)).1] at hq
  exact act_step (nA' := nA) (nC' := nC) (n' := n) hm h hc hq hl (fun I F => mLcl_lift) (fun Ia Fa J G e hp => by
    rw [← e]
    exact lift_sim hp)

theorem lcs_cancel {x nA nC n o z : Nat} {a : Int32} {I : pI} {F : pF} (hk : cOK x I nA nC n o z) : ∀ Ia Fa, Cpy (x + 43) (x + 1) I F Ia Fa → lcl (x + 1) Ia (cancelR Ia Fa (x + 1) a).2.1 ∧ lcl (x + 1) Fa (cancelR Ia Fa (x + 1) a).2.2 := fun Ia Fa hcp => by
  obtain ⟨hA, hA8, hC, hC5, hn, hn4, hW, hKd, hb, ho, ho4, hz, hz4⟩ := cOK_fr hk (fun i hi => (Cpy_fr hcp (by omega)).1)
  exact lc_cancel hn hn4
theorem st_cancel {x m nA nC n o z l : Nat} {a : Int32} {I I1 I2 : pI} {F F1 F2 : pF} {v v' : Option Value} (hm : x + 320 ≤ m) (h : InvP x m nA nC n o z l I F) (hc : actQ x o z I F (fun I F => cancelR I F (x + 1) a) v I1 F1) (hq : mActQ m z (mCanE (I1 (m + 1)) a) (fun I F => mCanR I F m a) I1 F1 v' I2 F2) : v = v' ∧ Inv x m I2 F2 := by
  have hl := lcs_cancel (a := a) (F := F) (InvP_cOK h)
  rw [(act_mid hc hl (m + 1) (by omega)).1] at hq
  exact act_step (nA' := nA) (nC' := nC) (n' := n) hm h hc hq hl (fun I F => mLcl_u mLcl_0) (fun Ia Fa J G e hp => by
    rw [← e]
    exact cancel_sim hp)

theorem lcs_pass {x nA nC n o z : Nat} {a : Int32} {I : pI} {F : pF} (hk : cOK x I nA nC n o z) : ∀ Ia Fa, Cpy (x + 43) (x + 1) I F Ia Fa → lcl (x + 1) Ia (passR Ia Fa (x + 1) nA n a).2.1 ∧ lcl (x + 1) Fa (passR Ia Fa (x + 1) nA n a).2.2 := fun Ia Fa hcp => by
  obtain ⟨hA, hA8, hC, hC5, hn, hn4, hW, hKd, hb, ho, ho4, hz, hz4⟩ := cOK_fr hk (fun i hi => (Cpy_fr hcp (by omega)).1)
  exact lc_pass hn4 hW hA8
theorem st_pass {x m nA nC n o z l : Nat} {a : Int32} {I I1 I2 : pI} {F F1 F2 : pF} {v v' : Option Value} (hm : x + 320 ≤ m) (h : InvP x m nA nC n o z l I F) (hc : actQ x o z I F (fun I F => passR I F (x + 1) nA n a) v I1 F1) (hq : mActQ m z (mPassE (I1 (m + 1)) a) (fun I F => mPassR I F m nA n a) I1 F1 v' I2 F2) : v = v' ∧ Inv x m I2 F2 := by
  have hl := lcs_pass (a := a) (F := F) (InvP_cOK h)
  rw [(act_mid hc hl (m + 1) (by omega)).1] at hq
  exact act_step (nA' := nA) (nC' := nC) (n' := n) hm h hc hq hl (fun I F => mLcl_ps mLcl_0 _) (fun Ia Fa J G e hp => by
    rw [← e]
    exact pass_sim hp)
