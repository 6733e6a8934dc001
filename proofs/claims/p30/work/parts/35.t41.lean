/-! ONE TURN: which act it is -/
abbrev pR : Type := pI → pF → Int32 × pI × pF
def anyR (x nA nC n : Nat) (a b : Int32) : pR := swV (b &&& 7) [(fun I F => newAssetR I F (x + 1) nA a b), (fun I F => newTaskR I F (x + 1) n a b a b a b), (fun I F => hangR I F (x + 1) n a b), (fun I F => liftR I F (x + 1) n a b), (fun I F => passR I F (x + 1) nA n a), (fun I F => setBarR I F (x + 1) a b 1), (fun I F => startR I F (x + 1) nA n a)] (fun I F => cancelR I F (x + 1) a)
def setsR (x nA nC n : Nat) (a b hr : Int32) : pR := swV (a &&& 7) [(fun I F => newAssetR I F (x + 1) nA (1 + upV b 100) (1 + upV (b >>> ((8 : Int32) &&& 31)) 200)), (fun I F => setLinkR I F (x + 1) (upV b 4) (upV (b >>> ((3 : Int32) &&& 31)) 4) (if b &&& 64 = 0 then 1 else 0)), (fun I F => setBarR I F (x + 1) (upV b 5) (upV (b >>> ((3 : Int32) &&& 31)) 5) (if b &&& 64 = 0 then 1 else 0)), (fun I F => newCrewR I F (x + 1) nC (1 + upV b 6) (upV (b >>> ((3 : Int32) &&& 31)) 16))] (fun I F => newTaskR I F (x + 1) n (upV b 4) (upV (b >>> ((2 : Int32) &&& 31)) 4) (1 + upV (b >>> ((4 : Int32) &&& 31)) 3) (upV (b >>> ((6 : Int32) &&& 31)) 5) (1 + upV (b >>> ((9 : Int32) &&& 31)) 9) (hr + upV (b >>> ((13 : Int32) &&& 31)) 12))
def turnR (x nA nC n : Nat) (w a b hr cf t8 : Int32) : pR := swV w [setsR x nA nC n a b hr, setsR x nA nC n a b hr, setsR x nA nC n a b hr, setsR x nA nC n a b hr, (fun I F => startR I F (x + 1) nA n (upV a 5)), (fun I F => stopR I F (x + 1) nA (upV a 5)), (fun I F => hangR I F (x + 1) n (upV a 10) (if a &&& 64 = 0 then upV b 4 else cf)), (fun I F => hangR I F (x + 1) n (upV a 10) (if a &&& 64 = 0 then upV b 4 else cf)), (fun I F => beginR I F (x + 1) n (upV a 10)), (fun I F => beginR I F (x + 1) n (upV a 10)), (fun I F => liftR I F (x + 1) n (upV a 10) (if a &&& 64 = 0 then upV b 4 else t8)), (fun I F => liftR I F (x + 1) n (upV a 10) (if a &&& 64 = 0 then upV b 4 else t8)), (fun I F => cancelR I F (x + 1) (upV a 10)), (fun I F => passR I F (x + 1) nA n (1 + upV b (if a &&& 3 = 0 then 40 else 5))), (fun I F => passR I F (x + 1) nA n (1 + upV b (if a &&& 3 = 0 then 40 else 5)))] (anyR x nA nC n a b)
def turnF (x nA nC n : Nat) (w a b : Int32) (I : pI) : pR := turnR x nA nC n w a b (I (x + 1) 7) (crewForV I (x + 1) nC n (upV a 10)) (taskV I (x + 1) n (upV a 10) 8)

theorem act_v {x o z : Nat} {I I1 : pI} {F F1 : pF} {R : pI → pF → Int32 × pI × pF} {v : Option Value} (h : actQ x o z I F R v I1 F1) : ∃ r, v = some (.int r) := by
  obtain ⟨Ia, Fa, hc, hv, hq⟩ := h
  exact ⟨_, hv⟩

set_option maxRecDepth 4000 in

theorem sp_any {σ : pT} {I : pI} {F : pF} {x nA nC n o z : Nat} {a b : Int32} (hT : isTW σ x) (hk : cOK x I nA nC n o z) : PR yL_any cL_any mL_any [.ref x, .int a, .int b] σ I F (actQ x o z I F (anyR x nA nC n a b)) := by
  obtain ⟨hA, hA8, hC, hC5, hn, hn4, hW, hKd, -⟩ := id hk
  rcases sw_cases (b &&& 7) 6 (by decide) with ⟨kw, hkw, e⟩ | hout
  · rcases (show kw = 0 ∨ kw = 1 ∨ kw = 2 ∨ kw = 3 ∨ kw = 4 ∨ kw = 5 ∨ kw = 6 by omega) with rfl | rfl | rfl | rfl | rfl | rfl | rfl
    · have hR : anyR x nA nC n a b = (fun I F => newAssetR I F (x + 1) nA a b) := by
        unfold anyR
        rw [e]
        exact swV_in (k := 0) (by show 0 < 7; decide) (by show 7 < 100; decide)
      rw [hR]
      refine PR.of oP_L_any (catOK rfl) (Nat.le_of_ble_eq_true rfl) ?_
      show PW _ _ _ 0 [.ref x, .int a, .int b] [] _ _ _ _
      refine pw_iload_n dL_any_0 rfl rfl ?_
      refine pw_bipush (v := 7) dL_any_1 (by decide) ?_
      refine pw_iand dL_any_3 ?_
      rw [e]
      refine pw_tableIn (x := nI 0) (off := 44) (tgt := 48) dL_any_4 (by decide) (by decide) (by decide) (by decide) ?_
      refine pw_aload_n dL_any_48 rfl rfl ?_
      refine pw_iload_n dL_any_49 rfl rfl ?_
      refine pw_iload_n dL_any_50 rfl rfl ?_
      refine pr_callV dL_any_51 oX_X7_addAsset lk_RL_35 (sp_x_addAsset hT hk) (tw_k hT) rfl rfl (Nat.le_of_ble_eq_true rfl) (by decide) (fun v I1 F1 hq => ?_)
      obtain ⟨r, rfl⟩ := act_v hq
      exact pw_iret dL_any_54 rfl ⟨rfl, hq⟩
    · have hR : anyR x nA nC n a b = (fun I F => newTaskR I F (x + 1) n a b a b a b) := by
        unfold anyR
        rw [e]
        exact swV_in (k := 1) (by show 1 < 7; decide) (by show 7 < 100; decide)
      rw [hR]
      refine PR.of oP_L_any (catOK rfl) (Nat.le_of_ble_eq_true rfl) ?_
      show PW _ _ _ 0 [.ref x, .int a, .int b] [] _ _ _ _
      refine pw_iload_n dL_any_0 rfl rfl ?_
      refine pw_bipush (v := 7) dL_any_1 (by decide) ?_
      refine pw_iand dL_any_3 ?_
      rw [e]
      refine pw_tableIn (x := nI 1) (off := 51) (tgt := 55) dL_any_4 (by decide) (by decide) (by decide) (by decide) ?_
      refine pw_aload_n dL_any_55 rfl rfl ?_
      refine pw_iload_n dL_any_56 rfl rfl ?_
      refine pw_iload_n dL_any_57 rfl rfl ?_
      refine pw_iload_n dL_any_58 rfl rfl ?_
      refine pw_iload_n dL_any_59 rfl rfl ?_
      refine pw_iload_n dL_any_60 rfl rfl ?_
      refine pw_iload_n dL_any_61 rfl rfl ?_
      refine pr_callV dL_any_62 oX_X7_addTask lk_RL_38 (sp_x_addTask hT hk) (tw_k hT) rfl rfl (Nat.le_of_ble_eq_true rfl) (by decide) (fun v I1 F1 hq => ?_)
      obtain ⟨r, rfl⟩ := act_v hq
      exact pw_iret dL_any_65 rfl ⟨rfl, hq⟩
    · have hR : anyR x nA nC n a b = (fun I F => hangR I F (x + 1) n a b) := by
        unfold anyR
        rw [e]
        exact swV_in (k := 2) (by show 2 < 7; decide) (by show 7 < 100; decide)
      rw [hR]
      refine PR.of oP_L_any (catOK rfl) (Nat.le_of_ble_eq_true rfl) ?_
      show PW _ _ _ 0 [.ref x, .int a, .int b] [] _ _ _ _
      refine pw_iload_n dL_any_0 rfl rfl ?_
      refine pw_bipush (v := 7) dL_any_1 (by decide) ?_
      refine pw_iand dL_any_3 ?_
      rw [e]
      refine pw_tableIn (x := nI 2) (off := 62) (tgt := 66) dL_any_4 (by decide) (by decide) (by decide) (by decide) ?_
      refine pw_aload_n dL_any_66 rfl rfl ?_
      refine pw_iload_n dL_any_67 rfl rfl ?_
      refine pw_iload_n dL_any_68 rfl rfl ?_
      refine pr_callV dL_any_69 oX_X7_hang lk_RL_42 (sp_x_hang hT hk) (tw_k hT) rfl rfl (Nat.le_of_ble_eq_true rfl) (by decide) (fun v I1 F1 hq => ?_)
      obtain ⟨r, rfl⟩ := act_v hq
      exact pw_iret dL_any_72 rfl ⟨rfl, hq⟩
    · have hR : anyR x nA nC n a b = (fun I F => liftR I F (x + 1) n a b) := by
        unfold anyR
        rw [e]
        exact swV_in (k := 3) (by show 3 < 7; decide) (by show 7 < 100; decide)
      rw [hR]
      refine PR.of oP_L_any (catOK rfl) (Nat.le_of_ble_eq_true rfl) ?_
      show PW _ _ _ 0 [.ref x, .int a, .int b] [] _ _ _ _
      refine pw_iload_n dL_any_0 rfl rfl ?_
      refine pw_bipush (v := 7) dL_any_1 (by decide) ?_
      refine pw_iand dL_any_3 ?_
      rw [e]
      refine pw_tableIn (x := nI 3) (off := 69) (tgt := 73) dL_any_4 (by decide) (by decide) (by decide) (by decide) ?_
      refine pw_aload_n dL_any_73 rfl rfl ?_
      refine pw_iload_n dL_any_74 rfl rfl ?_
      refine pw_iload_n dL_any_75 rfl rfl ?_
      refine pr_callV dL_any_76 oX_X7_lift lk_RL_45 (sp_x_lift hT hk) (tw_k hT) rfl rfl (Nat.le_of_ble_eq_true rfl) (by decide) (fun v I1 F1 hq => ?_)
      obtain ⟨r, rfl⟩ := act_v hq
      exact pw_iret dL_any_79 rfl ⟨rfl, hq⟩
    · have hR : anyR x nA nC n a b = (fun I F => passR I F (x + 1) nA n a) := by
        unfold anyR
        rw [e]
        exact swV_in (k := 4) (by show 4 < 7; decide) (by show 7 < 100; decide)
      rw [hR]
      refine PR.of oP_L_any (catOK rfl) (Nat.le_of_ble_eq_true rfl) ?_
      show PW _ _ _ 0 [.ref x, .int a, .int b] [] _ _ _ _
      refine pw_iload_n dL_any_0 rfl rfl ?_
      refine pw_bipush (v := 7) dL_any_1 (by decide) ?_
      refine pw_iand dL_any_3 ?_
      rw [e]
      refine pw_tableIn (x := nI 4) (off := 76) (tgt := 80) dL_any_4 (by decide) (by decide) (by decide) (by decide) ?_
      refine pw_aload_n dL_any_80 rfl rfl ?_
      refine pw_iload_n dL_any_81 rfl rfl ?_
      refine pr_callV dL_any_82 oX_X7_pass lk_RL_48 (sp_x_pass hT hk) (tw_k hT) rfl rfl (Nat.le_of_ble_eq_true rfl) (by decide) (fun v I1 F1 hq => ?_)
      obtain ⟨r, rfl⟩ := act_v hq
      exact pw_iret dL_any_85 rfl ⟨rfl, hq⟩
    · have hR : anyR x nA nC n a b = (fun I F => setBarR I F (x + 1) a b 1) := by
        unfold anyR
        rw [e]
        exact swV_in (k := 5) (by show 5 < 7; decide) (by show 7 < 100; decide)
      rw [hR]
      refine PR.of oP_L_any (catOK rfl) (Nat.le_of_ble_eq_true rfl) ?_
      show PW _ _ _ 0 [.ref x, .int a, .int b] [] _ _ _ _
      refine pw_iload_n dL_any_0 rfl rfl ?_
      refine pw_bipush (v := 7) dL_any_1 (by decide) ?_
      refine pw_iand dL_any_3 ?_
      rw [e]
      refine pw_tableIn (x := nI 5) (off := 82) (tgt := 86) dL_any_4 (by decide) (by decide) (by decide) (by decide) ?_
      refine pw_aload_n dL_any_86 rfl rfl ?_
      refine pw_iload_n dL_any_87 rfl rfl ?_
      refine pw_iload_n dL_any_88 rfl rfl ?_
      refine pw_iconst (v := 1) dL_any_89 (by decide) ?_
      refine pr_callV dL_any_90 oX_X7_bar lk_RL_51 (sp_x_bar hT hk) (tw_k hT) rfl rfl (Nat.le_of_ble_eq_true rfl) (by decide) (fun v I1 F1 hq => ?_)
      obtain ⟨r, rfl⟩ := act_v hq
      exact pw_iret dL_any_93 rfl ⟨rfl, hq⟩
    · have hR : anyR x nA nC n a b = (fun I F => startR I F (x + 1) nA n a) := by
        unfold anyR
        rw [e]
        exact swV_in (k := 6) (by show 6 < 7; decide) (by show 7 < 100; decide)
      rw [hR]
      refine PR.of oP_L_any (catOK rfl) (Nat.le_of_ble_eq_true rfl) ?_
      show PW _ _ _ 0 [.ref x, .int a, .int b] [] _ _ _ _
      refine pw_iload_n dL_any_0 rfl rfl ?_
      refine pw_bipush (v := 7) dL_any_1 (by decide) ?_
      refine pw_iand dL_any_3 ?_
      rw [e]
      refine pw_tableIn (x := nI 6) (off := 90) (tgt := 94) dL_any_4 (by decide) (by decide) (by decide) (by decide) ?_
      refine pw_aload_n dL_any_94 rfl rfl ?_
      refine pw_iload_n dL_any_95 rfl rfl ?_
      refine pr_callV dL_any_96 oX_X7_run lk_RL_55 (sp_x_run hT hk) (tw_k hT) rfl rfl (Nat.le_of_ble_eq_true rfl) (by decide) (fun v I1 F1 hq => ?_)
      obtain ⟨r, rfl⟩ := act_v hq
      exact pw_iret dL_any_99 rfl ⟨rfl, hq⟩
  · have hR : anyR x nA nC n a b = (fun I F => cancelR I F (x + 1) a) := by
      unfold anyR
      exact swV_out hout (by show 7 ≤ 6 + 1; decide)
    rw [hR]
    refine PR.of oP_L_any (catOK rfl) (Nat.le_of_ble_eq_true rfl) ?_
    show PW _ _ _ 0 [.ref x, .int a, .int b] [] _ _ _ _
    refine pw_iload_n dL_any_0 rfl rfl ?_
    refine pw_bipush (v := 7) dL_any_1 (by decide) ?_
    refine pw_iand dL_any_3 ?_
    refine pw_tableOut (tgt := 100) dL_any_4 hout (by decide) ?_
    refine pw_aload_n dL_any_100 rfl rfl ?_
    refine pw_iload_n dL_any_101 rfl rfl ?_
    refine pr_callV dL_any_102 oX_X7_cancel lk_RL_58 (sp_x_cancel hT hk) (tw_k hT) rfl rfl (Nat.le_of_ble_eq_true rfl) (by decide) (fun v I1 F1 hq => ?_)
    obtain ⟨r, rfl⟩ := act_v hq
    exact pw_iret dL_any_105 rfl ⟨rfl, hq⟩

set_option maxRecDepth 4000 in

theorem sp_sets {σ : pT} {I : pI} {F : pF} {x nA nC n o z : Nat} {a b : Int32} (hT : isTW σ x) (hk : cOK x I nA nC n o z) : PR yL_setsUp cL_setsUp mL_setsUp [.ref x, .int a, .int b] σ I F (actQ x o z I F (setsR x nA nC n a b (I (x + 1) 7))) := by
  obtain ⟨hA, hA8, hC, hC5, hn, hn4, hW, hKd, -⟩ := id hk
  rcases sw_cases (a &&& 7) 3 (by decide) with ⟨kw, hkw, e⟩ | hout
  · rcases (show kw = 0 ∨ kw = 1 ∨ kw = 2 ∨ kw = 3 by omega) with rfl | rfl | rfl | rfl
    · have hR : setsR x nA nC n a b (I (x + 1) 7) = (fun I F => newAssetR I F (x + 1) nA (1 + upV b 100) (1 + upV (b >>> ((8 : Int32) &&& 31)) 200)) := by
        unfold setsR
        rw [e]
        exact swV_in (k := 0) (by show 0 < 4; decide) (by show 4 < 100; decide)
      rw [hR]
      refine PR.of oP_L_setsUp (catOK rfl) (Nat.le_of_ble_eq_true rfl) ?_
      show PW _ _ _ 0 [.ref x, .int a, .int b] [] _ _ _ _
      refine pw_iload_n dL_setsUp_0 rfl rfl ?_
      refine pw_bipush (v := 7) dL_setsUp_1 (by decide) ?_
      refine pw_iand dL_setsUp_3 ?_
      rw [e]
      refine pw_tableIn (x := nI 0) (off := 32) (tgt := 36) dL_setsUp_4 (by decide) (by decide) (by decide) (by decide) ?_
      refine pw_aload_n dL_setsUp_36 rfl rfl ?_
      refine pw_iconst (v := 1) dL_setsUp_37 (by decide) ?_
      refine pw_iload_n dL_setsUp_38 rfl rfl ?_
      refine pw_bipush (v := 100) dL_setsUp_39 (by decide) ?_
      refine pe_callSi dL_setsUp_41 oX_L_up lk_RL_61 (sp_up (by decide)) rfl rfl (Nat.le_of_ble_eq_true rfl) (by decide) ?_
      refine pw_iadd dL_setsUp_44 ?_
      refine pw_iconst (v := 1) dL_setsUp_45 (by decide) ?_
      refine pw_iload_n dL_setsUp_46 rfl rfl ?_
      refine pw_bipush (v := 8) dL_setsUp_47 (by decide) ?_
      refine pw_ishr dL_setsUp_49 ?_
      refine pw_sipush (v := 200) dL_setsUp_50 (by decide) ?_
      refine pe_callSi dL_setsUp_53 oX_L_up lk_RL_61 (sp_up (by decide)) rfl rfl (Nat.le_of_ble_eq_true rfl) (by decide) ?_
      refine pw_iadd dL_setsUp_56 ?_
      refine pr_callV dL_setsUp_57 oX_X7_addAsset lk_RL_35 (sp_x_addAsset hT hk) (tw_k hT) rfl rfl (Nat.le_of_ble_eq_true rfl) (by decide) (fun v I1 F1 hq => ?_)
      obtain ⟨r, rfl⟩ := act_v hq
      exact pw_iret dL_setsUp_60 rfl ⟨rfl, hq⟩
    · have hR : setsR x nA nC n a b (I (x + 1) 7) = (fun I F => setLinkR I F (x + 1) (upV b 4) (upV (b >>> ((3 : Int32) &&& 31)) 4) (if b &&& 64 = 0 then 1 else 0)) := by
        unfold setsR
        rw [e]
        exact swV_in (k := 1) (by show 1 < 4; decide) (by show 4 < 100; decide)
      rw [hR]
      refine PR.of oP_L_setsUp (catOK rfl) (Nat.le_of_ble_eq_true rfl) ?_
      show PW _ _ _ 0 [.ref x, .int a, .int b] [] _ _ _ _
      refine pw_iload_n dL_setsUp_0 rfl rfl ?_
      refine pw_bipush (v := 7) dL_setsUp_1 (by decide) ?_
      refine pw_iand dL_setsUp_3 ?_
      rw [e]
      refine pw_tableIn (x := nI 1) (off := 57) (tgt := 61) dL_setsUp_4 (by decide) (by decide) (by decide) (by decide) ?_
      refine pw_aload_n dL_setsUp_61 rfl rfl ?_
      refine pw_iload_n dL_setsUp_62 rfl rfl ?_
      refine pw_iconst (v := 4) dL_setsUp_63 (by decide) ?_
      refine pe_callSi dL_setsUp_64 oX_L_up lk_RL_61 (sp_up (by decide)) rfl rfl (Nat.le_of_ble_eq_true rfl) (by decide) ?_
      refine pw_iload_n dL_setsUp_67 rfl rfl ?_
      refine pw_iconst (v := 3) dL_setsUp_68 (by decide) ?_
      refine pw_ishr dL_setsUp_69 ?_
      refine pw_iconst (v := 4) dL_setsUp_70 (by decide) ?_
      refine pe_callSi dL_setsUp_71 oX_L_up lk_RL_61 (sp_up (by decide)) rfl rfl (Nat.le_of_ble_eq_true rfl) (by decide) ?_
      refine pw_iload_n dL_setsUp_74 rfl rfl ?_
      refine pw_bipush (v := 64) dL_setsUp_75 (by decide) ?_
      refine pw_iand dL_setsUp_77 ?_
      refine pw_if_ne (tgt := 85) dL_setsUp_78 (by decide) (fun c_78 => ?_) (fun c_78 => ?_)
      · rw [if_neg c_78]
        refine pw_iconst (v := 0) dL_setsUp_85 (by decide) ?_
        refine pr_callV dL_setsUp_86 oX_X7_link lk_RL_66 (sp_x_link hT hk) (tw_k hT) rfl rfl (Nat.le_of_ble_eq_true rfl) (by decide) (fun v I1 F1 hq => ?_)
        obtain ⟨r, rfl⟩ := act_v hq
        exact pw_iret dL_setsUp_89 rfl ⟨rfl, hq⟩
      · rw [if_pos c_78]
        refine pw_iconst (v := 1) dL_setsUp_81 (by decide) ?_
        refine pw_goto (tgt := 86) dL_setsUp_82 (by decide) ?_
        refine pr_callV dL_setsUp_86 oX_X7_link lk_RL_66 (sp_x_link hT hk) (tw_k hT) rfl rfl (Nat.le_of_ble_eq_true rfl) (by decide) (fun v I1 F1 hq => ?_)
        obtain ⟨r, rfl⟩ := act_v hq
        exact pw_iret dL_setsUp_89 rfl ⟨rfl, hq⟩
    · have hR : setsR x nA nC n a b (I (x + 1) 7) = (fun I F => setBarR I F (x + 1) (upV b 5) (upV (b >>> ((3 : Int32) &&& 31)) 5) (if b &&& 64 = 0 then 1 else 0)) := by
        unfold setsR
        rw [e]
        exact swV_in (k := 2) (by show 2 < 4; decide) (by show 4 < 100; decide)
      rw [hR]
      refine PR.of oP_L_setsUp (catOK rfl) (Nat.le_of_ble_eq_true rfl) ?_
      show PW _ _ _ 0 [.ref x, .int a, .int b] [] _ _ _ _
      refine pw_iload_n dL_setsUp_0 rfl rfl ?_
      refine pw_bipush (v := 7) dL_setsUp_1 (by decide) ?_
      refine pw_iand dL_setsUp_3 ?_
      rw [e]
      refine pw_tableIn (x := nI 2) (off := 86) (tgt := 90) dL_setsUp_4 (by decide) (by decide) (by decide) (by decide) ?_
      refine pw_aload_n dL_setsUp_90 rfl rfl ?_
      refine pw_iload_n dL_setsUp_91 rfl rfl ?_
      refine pw_iconst (v := 5) dL_setsUp_92 (by decide) ?_
      refine pe_callSi dL_setsUp_93 oX_L_up lk_RL_61 (sp_up (by decide)) rfl rfl (Nat.le_of_ble_eq_true rfl) (by decide) ?_
      refine pw_iload_n dL_setsUp_96 rfl rfl ?_
      refine pw_iconst (v := 3) dL_setsUp_97 (by decide) ?_
      refine pw_ishr dL_setsUp_98 ?_
      refine pw_iconst (v := 5) dL_setsUp_99 (by decide) ?_
      refine pe_callSi dL_setsUp_100 oX_L_up lk_RL_61 (sp_up (by decide)) rfl rfl (Nat.le_of_ble_eq_true rfl) (by decide) ?_
      refine pw_iload_n dL_setsUp_103 rfl rfl ?_
      refine pw_bipush (v := 64) dL_setsUp_104 (by decide) ?_
      refine pw_iand dL_setsUp_106 ?_
      refine pw_if_ne (tgt := 114) dL_setsUp_107 (by decide) (fun c_107 => ?_) (fun c_107 => ?_)
      · rw [if_neg c_107]
        refine pw_iconst (v := 0) dL_setsUp_114 (by decide) ?_
        refine pr_callV dL_setsUp_115 oX_X7_bar lk_RL_51 (sp_x_bar hT hk) (tw_k hT) rfl rfl (Nat.le_of_ble_eq_true rfl) (by decide) (fun v I1 F1 hq => ?_)
        obtain ⟨r, rfl⟩ := act_v hq
        exact pw_iret dL_setsUp_118 rfl ⟨rfl, hq⟩
      · rw [if_pos c_107]
        refine pw_iconst (v := 1) dL_setsUp_110 (by decide) ?_
        refine pw_goto (tgt := 115) dL_setsUp_111 (by decide) ?_
        refine pr_callV dL_setsUp_115 oX_X7_bar lk_RL_51 (sp_x_bar hT hk) (tw_k hT) rfl rfl (Nat.le_of_ble_eq_true rfl) (by decide) (fun v I1 F1 hq => ?_)
        obtain ⟨r, rfl⟩ := act_v hq
        exact pw_iret dL_setsUp_118 rfl ⟨rfl, hq⟩
    · have hR : setsR x nA nC n a b (I (x + 1) 7) = (fun I F => newCrewR I F (x + 1) nC (1 + upV b 6) (upV (b >>> ((3 : Int32) &&& 31)) 16)) := by
        unfold setsR
        rw [e]
        exact swV_in (k := 3) (by show 3 < 4; decide) (by show 4 < 100; decide)
      rw [hR]
      refine PR.of oP_L_setsUp (catOK rfl) (Nat.le_of_ble_eq_true rfl) ?_
      show PW _ _ _ 0 [.ref x, .int a, .int b] [] _ _ _ _
      refine pw_iload_n dL_setsUp_0 rfl rfl ?_
      refine pw_bipush (v := 7) dL_setsUp_1 (by decide) ?_
      refine pw_iand dL_setsUp_3 ?_
      rw [e]
      refine pw_tableIn (x := nI 3) (off := 115) (tgt := 119) dL_setsUp_4 (by decide) (by decide) (by decide) (by decide) ?_
      refine pw_aload_n dL_setsUp_119 rfl rfl ?_
      refine pw_iconst (v := 1) dL_setsUp_120 (by decide) ?_
      refine pw_iload_n dL_setsUp_121 rfl rfl ?_
      refine pw_bipush (v := 6) dL_setsUp_122 (by decide) ?_
      refine pe_callSi dL_setsUp_124 oX_L_up lk_RL_61 (sp_up (by decide)) rfl rfl (Nat.le_of_ble_eq_true rfl) (by decide) ?_
      refine pw_iadd dL_setsUp_127 ?_
      refine pw_iload_n dL_setsUp_128 rfl rfl ?_
      refine pw_iconst (v := 3) dL_setsUp_129 (by decide) ?_
      refine pw_ishr dL_setsUp_130 ?_
      refine pw_bipush (v := 16) dL_setsUp_131 (by decide) ?_
      refine pe_callSi dL_setsUp_133 oX_L_up lk_RL_61 (sp_up (by decide)) rfl rfl (Nat.le_of_ble_eq_true rfl) (by decide) ?_
      refine pr_callV dL_setsUp_136 oX_X7_addCrew lk_RL_69 (sp_x_addCrew hT hk) (tw_k hT) rfl rfl (Nat.le_of_ble_eq_true rfl) (by decide) (fun v I1 F1 hq => ?_)
      obtain ⟨r, rfl⟩ := act_v hq
      exact pw_iret dL_setsUp_139 rfl ⟨rfl, hq⟩
  · have hR : setsR x nA nC n a b (I (x + 1) 7) = (fun J F => newTaskR J F (x + 1) n (upV b 4) (upV (b >>> ((2 : Int32) &&& 31)) 4) (1 + upV (b >>> ((4 : Int32) &&& 31)) 3) (upV (b >>> ((6 : Int32) &&& 31)) 5) (1 + upV (b >>> ((9 : Int32) &&& 31)) 9) (I (x + 1) 7 + upV (b >>> ((13 : Int32) &&& 31)) 12)) := by
      unfold setsR
      exact swV_out hout (by show 4 ≤ 3 + 1; decide)
    rw [hR]
    refine PR.of oP_L_setsUp (catOK rfl) (Nat.le_of_ble_eq_true rfl) ?_
    show PW _ _ _ 0 [.ref x, .int a, .int b] [] _ _ _ _
    refine pw_iload_n dL_setsUp_0 rfl rfl ?_
    refine pw_bipush (v := 7) dL_setsUp_1 (by decide) ?_
    refine pw_iand dL_setsUp_3 ?_
    refine pw_tableOut (tgt := 140) dL_setsUp_4 hout (by decide) ?_
    refine pw_aload_n dL_setsUp_140 rfl rfl ?_
    refine pw_iload_n dL_setsUp_141 rfl rfl ?_
    refine pw_iconst (v := 4) dL_setsUp_142 (by decide) ?_
    refine pe_callSi dL_setsUp_143 oX_L_up lk_RL_61 (sp_up (by decide)) rfl rfl (Nat.le_of_ble_eq_true rfl) (by decide) ?_
    refine pw_iload_n dL_setsUp_146 rfl rfl ?_
    refine pw_iconst (v := 2) dL_setsUp_147 (by decide) ?_
    refine pw_ishr dL_setsUp_148 ?_
    refine pw_iconst (v := 4) dL_setsUp_149 (by decide) ?_
    refine pe_callSi dL_setsUp_150 oX_L_up lk_RL_61 (sp_up (by decide)) rfl rfl (Nat.le_of_ble_eq_true rfl) (by decide) ?_
    refine pw_iconst (v := 1) dL_setsUp_153 (by decide) ?_
    refine pw_iload_n dL_setsUp_154 rfl rfl ?_
    refine pw_iconst (v := 4) dL_setsUp_155 (by decide) ?_
    refine pw_ishr dL_setsUp_156 ?_
    refine pw_iconst (v := 3) dL_setsUp_157 (by decide) ?_
    refine pe_callSi dL_setsUp_158 oX_L_up lk_RL_61 (sp_up (by decide)) rfl rfl (Nat.le_of_ble_eq_true rfl) (by decide) ?_
    refine pw_iadd dL_setsUp_161 ?_
    refine pw_iload_n dL_setsUp_162 rfl rfl ?_
    refine pw_bipush (v := 6) dL_setsUp_163 (by decide) ?_
    refine pw_ishr dL_setsUp_165 ?_
    refine pw_iconst (v := 5) dL_setsUp_166 (by decide) ?_
    refine pe_callSi dL_setsUp_167 oX_L_up lk_RL_61 (sp_up (by decide)) rfl rfl (Nat.le_of_ble_eq_true rfl) (by decide) ?_
    refine pw_iconst (v := 1) dL_setsUp_170 (by decide) ?_
    refine pw_iload_n dL_setsUp_171 rfl rfl ?_
    refine pw_bipush (v := 9) dL_setsUp_172 (by decide) ?_
    refine pw_ishr dL_setsUp_174 ?_
    refine pw_bipush (v := 9) dL_setsUp_175 (by decide) ?_
    refine pe_callSi dL_setsUp_177 oX_L_up lk_RL_61 (sp_up (by decide)) rfl rfl (Nat.le_of_ble_eq_true rfl) (by decide) ?_
    refine pw_iadd dL_setsUp_180 ?_
    refine pw_aload_n dL_setsUp_181 rfl rfl ?_
    refine pw_iconst (v := 0) dL_setsUp_182 (by decide) ?_
    refine pe_callVi dL_setsUp_183 oX_X7_count lk_RL_13 (sp_x_count hT hA hA8 hn hn4) (tw_k hT) rfl rfl (Nat.le_of_ble_eq_true rfl) (by decide) ?_
    rw [count_0]
    refine pw_iload_n dL_setsUp_186 rfl rfl ?_
    refine pw_bipush (v := 13) dL_setsUp_187 (by decide) ?_
    refine pw_ishr dL_setsUp_189 ?_
    refine pw_bipush (v := 12) dL_setsUp_190 (by decide) ?_
    refine pe_callSi dL_setsUp_192 oX_L_up lk_RL_61 (sp_up (by decide)) rfl rfl (Nat.le_of_ble_eq_true rfl) (by decide) ?_
    refine pw_iadd dL_setsUp_195 ?_
    refine pr_callV dL_setsUp_196 oX_X7_addTask lk_RL_38 (sp_x_addTask hT hk) (tw_k hT) rfl rfl (Nat.le_of_ble_eq_true rfl) (by decide) (fun v I1 F1 hq => ?_)
    obtain ⟨r, rfl⟩ := act_v hq
    exact pw_iret dL_setsUp_199 rfl ⟨rfl, hq⟩

set_option maxRecDepth 4000 in

theorem sp_turn {σ : pT} {I : pI} {F : pF} {x nA nC n o z : Nat} {w a b : Int32} (hT : isTW σ x) (hk : cOK x I nA nC n o z) : PR yL_turn cL_turn mL_turn [.ref x, .int w, .int a, .int b] σ I F (actQ x o z I F (turnF x nA nC n w a b I)) := by
  obtain ⟨hA, hA8, hC, hC5, hn, hn4, hW, hKd, -⟩ := id hk
  rcases sw_cases (w) 14 (by decide) with ⟨kw, hkw, e⟩ | hout
  · rcases (show kw = 0 ∨ kw = 1 ∨ kw = 2 ∨ kw = 3 ∨ kw = 4 ∨ kw = 5 ∨ kw = 6 ∨ kw = 7 ∨ kw = 8 ∨ kw = 9 ∨ kw = 10 ∨ kw = 11 ∨ kw = 12 ∨ kw = 13 ∨ kw = 14 by omega) with rfl | rfl | rfl | rfl | rfl | rfl | rfl | rfl | rfl | rfl | rfl | rfl | rfl | rfl | rfl
    · have hR : turnF x nA nC n w a b I = setsR x nA nC n a b (I (x + 1) 7) := by
        unfold turnF turnR
        rw [e]
        exact swV_in (k := 0) (by show 0 < 15; decide) (by show 15 < 100; decide)
      rw [hR]
      refine PR.of oP_L_turn (catOK rfl) (Nat.le_of_ble_eq_true rfl) ?_
      show PW _ _ _ 0 [.ref x, .int w, .int a, .int b, pJ] [] _ _ _ _
      refine pw_iload_n dL_turn_0 rfl rfl ?_
      refine pw_bipush (v := 10) dL_turn_1 (by decide) ?_
      refine pe_callSi dL_turn_3 oX_L_up lk_RL_61 (sp_up (by decide)) rfl rfl (Nat.le_of_ble_eq_true rfl) (by decide) ?_
      refine pw_istore dL_turn_6 (by decide) rfl ?_
      refine pw_iload_n dL_turn_8 rfl rfl ?_
      rw [e]
      refine pw_tableIn (x := nI 0) (off := 75) (tgt := 84) dL_turn_9 (by decide) (by decide) (by decide) (by decide) ?_
      refine pw_aload_n dL_turn_84 rfl rfl ?_
      refine pw_iload_n dL_turn_85 rfl rfl ?_
      refine pw_iload_n dL_turn_86 rfl rfl ?_
      refine pr_callS dL_turn_87 oX_L_setsUp lk_RL_72 (sp_sets hT hk) rfl rfl (Nat.le_of_ble_eq_true rfl) (by decide) (fun v I1 F1 hq => ?_)
      obtain ⟨r, rfl⟩ := act_v hq
      exact pw_iret dL_turn_90 rfl ⟨rfl, hq⟩
    · have hR : turnF x nA nC n w a b I = setsR x nA nC n a b (I (x + 1) 7) := by
        unfold turnF turnR
        rw [e]
        exact swV_in (k := 1) (by show 1 < 15; decide) (by show 15 < 100; decide)
      rw [hR]
      refine PR.of oP_L_turn (catOK rfl) (Nat.le_of_ble_eq_true rfl) ?_
      show PW _ _ _ 0 [.ref x, .int w, .int a, .int b, pJ] [] _ _ _ _
      refine pw_iload_n dL_turn_0 rfl rfl ?_
      refine pw_bipush (v := 10) dL_turn_1 (by decide) ?_
      refine pe_callSi dL_turn_3 oX_L_up lk_RL_61 (sp_up (by decide)) rfl rfl (Nat.le_of_ble_eq_true rfl) (by decide) ?_
      refine pw_istore dL_turn_6 (by decide) rfl ?_
      refine pw_iload_n dL_turn_8 rfl rfl ?_
      rw [e]
      refine pw_tableIn (x := nI 1) (off := 75) (tgt := 84) dL_turn_9 (by decide) (by decide) (by decide) (by decide) ?_
      refine pw_aload_n dL_turn_84 rfl rfl ?_
      refine pw_iload_n dL_turn_85 rfl rfl ?_
      refine pw_iload_n dL_turn_86 rfl rfl ?_
      refine pr_callS dL_turn_87 oX_L_setsUp lk_RL_72 (sp_sets hT hk) rfl rfl (Nat.le_of_ble_eq_true rfl) (by decide) (fun v I1 F1 hq => ?_)
      obtain ⟨r, rfl⟩ := act_v hq
      exact pw_iret dL_turn_90 rfl ⟨rfl, hq⟩
    · have hR : turnF x nA nC n w a b I = setsR x nA nC n a b (I (x + 1) 7) := by
        unfold turnF turnR
        rw [e]
        exact swV_in (k := 2) (by show 2 < 15; decide) (by show 15 < 100; decide)
      rw [hR]
      refine PR.of oP_L_turn (catOK rfl) (Nat.le_of_ble_eq_true rfl) ?_
      show PW _ _ _ 0 [.ref x, .int w, .int a, .int b, pJ] [] _ _ _ _
      refine pw_iload_n dL_turn_0 rfl rfl ?_
      refine pw_bipush (v := 10) dL_turn_1 (by decide) ?_
      refine pe_callSi dL_turn_3 oX_L_up lk_RL_61 (sp_up (by decide)) rfl rfl (Nat.le_of_ble_eq_true rfl) (by decide) ?_
      refine pw_istore dL_turn_6 (by decide) rfl ?_
      refine pw_iload_n dL_turn_8 rfl rfl ?_
      rw [e]
      refine pw_tableIn (x := nI 2) (off := 75) (tgt := 84) dL_turn_9 (by decide) (by decide) (by decide) (by decide) ?_
      refine pw_aload_n dL_turn_84 rfl rfl ?_
      refine pw_iload_n dL_turn_85 rfl rfl ?_
      refine pw_iload_n dL_turn_86 rfl rfl ?_
      refine pr_callS dL_turn_87 oX_L_setsUp lk_RL_72 (sp_sets hT hk) rfl rfl (Nat.le_of_ble_eq_true rfl) (by decide) (fun v I1 F1 hq => ?_)
      obtain ⟨r, rfl⟩ := act_v hq
      exact pw_iret dL_turn_90 rfl ⟨rfl, hq⟩
    · have hR : turnF x nA nC n w a b I = setsR x nA nC n a b (I (x + 1) 7) := by
        unfold turnF turnR
        rw [e]
        exact swV_in (k := 3) (by show 3 < 15; decide) (by show 15 < 100; decide)
      rw [hR]
      refine PR.of oP_L_turn (catOK rfl) (Nat.le_of_ble_eq_true rfl) ?_
      show PW _ _ _ 0 [.ref x, .int w, .int a, .int b, pJ] [] _ _ _ _
      refine pw_iload_n dL_turn_0 rfl rfl ?_
      refine pw_bipush (v := 10) dL_turn_1 (by decide) ?_
      refine pe_callSi dL_turn_3 oX_L_up lk_RL_61 (sp_up (by decide)) rfl rfl (Nat.le_of_ble_eq_true rfl) (by decide) ?_
      refine pw_istore dL_turn_6 (by decide) rfl ?_
      refine pw_iload_n dL_turn_8 rfl rfl ?_
      rw [e]
      refine pw_tableIn (x := nI 3) (off := 75) (tgt := 84) dL_turn_9 (by decide) (by decide) (by decide) (by decide) ?_
      refine pw_aload_n dL_turn_84 rfl rfl ?_
      refine pw_iload_n dL_turn_85 rfl rfl ?_
      refine pw_iload_n dL_turn_86 rfl rfl ?_
      refine pr_callS dL_turn_87 oX_L_setsUp lk_RL_72 (sp_sets hT hk) rfl rfl (Nat.le_of_ble_eq_true rfl) (by decide) (fun v I1 F1 hq => ?_)
      obtain ⟨r, rfl⟩ := act_v hq
      exact pw_iret dL_turn_90 rfl ⟨rfl, hq⟩
    · have hR : turnF x nA nC n w a b I = (fun J F => startR J F (x + 1) nA n (upV a 5)) := by
        unfold turnF turnR
        rw [e]
        exact swV_in (k := 4) (by show 4 < 15; decide) (by show 15 < 100; decide)
      rw [hR]
      refine PR.of oP_L_turn (catOK rfl) (Nat.le_of_ble_eq_true rfl) ?_
      show PW _ _ _ 0 [.ref x, .int w, .int a, .int b, pJ] [] _ _ _ _
      refine pw_iload_n dL_turn_0 rfl rfl ?_
      refine pw_bipush (v := 10) dL_turn_1 (by decide) ?_
      refine pe_callSi dL_turn_3 oX_L_up lk_RL_61 (sp_up (by decide)) rfl rfl (Nat.le_of_ble_eq_true rfl) (by decide) ?_
      refine pw_istore dL_turn_6 (by decide) rfl ?_
      refine pw_iload_n dL_turn_8 rfl rfl ?_
      rw [e]
      refine pw_tableIn (x := nI 4) (off := 82) (tgt := 91) dL_turn_9 (by decide) (by decide) (by decide) (by decide) ?_
      refine pw_aload_n dL_turn_91 rfl rfl ?_
      refine pw_iload_n dL_turn_92 rfl rfl ?_
      refine pw_iconst (v := 5) dL_turn_93 (by decide) ?_
      refine pe_callSi dL_turn_94 oX_L_up lk_RL_61 (sp_up (by decide)) rfl rfl (Nat.le_of_ble_eq_true rfl) (by decide) ?_
      refine pr_callV dL_turn_97 oX_X7_run lk_RL_55 (sp_x_run hT hk) (tw_k hT) rfl rfl (Nat.le_of_ble_eq_true rfl) (by decide) (fun v I1 F1 hq => ?_)
      obtain ⟨r, rfl⟩ := act_v hq
      exact pw_iret dL_turn_100 rfl ⟨rfl, hq⟩
    · have hR : turnF x nA nC n w a b I = (fun J F => stopR J F (x + 1) nA (upV a 5)) := by
        unfold turnF turnR
        rw [e]
        exact swV_in (k := 5) (by show 5 < 15; decide) (by show 15 < 100; decide)
      rw [hR]
      refine PR.of oP_L_turn (catOK rfl) (Nat.le_of_ble_eq_true rfl) ?_
      show PW _ _ _ 0 [.ref x, .int w, .int a, .int b, pJ] [] _ _ _ _
      refine pw_iload_n dL_turn_0 rfl rfl ?_
      refine pw_bipush (v := 10) dL_turn_1 (by decide) ?_
      refine pe_callSi dL_turn_3 oX_L_up lk_RL_61 (sp_up (by decide)) rfl rfl (Nat.le_of_ble_eq_true rfl) (by decide) ?_
      refine pw_istore dL_turn_6 (by decide) rfl ?_
      refine pw_iload_n dL_turn_8 rfl rfl ?_
      rw [e]
      refine pw_tableIn (x := nI 5) (off := 92) (tgt := 101) dL_turn_9 (by decide) (by decide) (by decide) (by decide) ?_
      refine pw_aload_n dL_turn_101 rfl rfl ?_
      refine pw_iload_n dL_turn_102 rfl rfl ?_
      refine pw_iconst (v := 5) dL_turn_103 (by decide) ?_
      refine pe_callSi dL_turn_104 oX_L_up lk_RL_61 (sp_up (by decide)) rfl rfl (Nat.le_of_ble_eq_true rfl) (by decide) ?_
      refine pr_callV dL_turn_107 oX_X7_stop lk_RL_76 (sp_x_stop hT hk) (tw_k hT) rfl rfl (Nat.le_of_ble_eq_true rfl) (by decide) (fun v I1 F1 hq => ?_)
      obtain ⟨r, rfl⟩ := act_v hq
      exact pw_iret dL_turn_110 rfl ⟨rfl, hq⟩
    · have hR : turnF x nA nC n w a b I = (fun J F => hangR J F (x + 1) n (upV a 10) (if a &&& 64 = 0 then upV b 4 else (crewForV I (x + 1) nC n (upV a 10)))) := by
        unfold turnF turnR
        rw [e]
        exact swV_in (k := 6) (by show 6 < 15; decide) (by show 15 < 100; decide)
      rw [hR]
      refine PR.of oP_L_turn (catOK rfl) (Nat.le_of_ble_eq_true rfl) ?_
      show PW _ _ _ 0 [.ref x, .int w, .int a, .int b, pJ] [] _ _ _ _
      refine pw_iload_n dL_turn_0 rfl rfl ?_
      refine pw_bipush (v := 10) dL_turn_1 (by decide) ?_
      refine pe_callSi dL_turn_3 oX_L_up lk_RL_61 (sp_up (by decide)) rfl rfl (Nat.le_of_ble_eq_true rfl) (by decide) ?_
      refine pw_istore dL_turn_6 (by decide) rfl ?_
      refine pw_iload_n dL_turn_8 rfl rfl ?_
      rw [e]
      refine pw_tableIn (x := nI 6) (off := 102) (tgt := 111) dL_turn_9 (by decide) (by decide) (by decide) (by decide) ?_
      refine pw_aload_n dL_turn_111 rfl rfl ?_
      refine pw_iload dL_turn_112 rfl ?_
      refine pw_iload_n dL_turn_114 rfl rfl ?_
      refine pw_bipush (v := 64) dL_turn_115 (by decide) ?_
      refine pw_iand dL_turn_117 ?_
      refine pw_if_ne (tgt := 129) dL_turn_118 (by decide) (fun c_118 => ?_) (fun c_118 => ?_)
      · rw [if_neg c_118]
        refine pw_aload_n dL_turn_129 rfl rfl ?_
        refine pw_iload dL_turn_130 rfl ?_
        refine pe_callVi dL_turn_132 oX_X7_crewFor lk_RL_79 (sp_x_crewFor hT hC hC5 hn hn4) (tw_k hT) rfl rfl (Nat.le_of_ble_eq_true rfl) (by decide) ?_
        refine pr_callV dL_turn_135 oX_X7_hang lk_RL_42 (sp_x_hang hT hk) (tw_k hT) rfl rfl (Nat.le_of_ble_eq_true rfl) (by decide) (fun v I1 F1 hq => ?_)
        obtain ⟨r, rfl⟩ := act_v hq
        exact pw_iret dL_turn_138 rfl ⟨rfl, hq⟩
      · rw [if_pos c_118]
        refine pw_iload_n dL_turn_121 rfl rfl ?_
        refine pw_iconst (v := 4) dL_turn_122 (by decide) ?_
        refine pe_callSi dL_turn_123 oX_L_up lk_RL_61 (sp_up (by decide)) rfl rfl (Nat.le_of_ble_eq_true rfl) (by decide) ?_
        refine pw_goto (tgt := 135) dL_turn_126 (by decide) ?_
        refine pr_callV dL_turn_135 oX_X7_hang lk_RL_42 (sp_x_hang hT hk) (tw_k hT) rfl rfl (Nat.le_of_ble_eq_true rfl) (by decide) (fun v I1 F1 hq => ?_)
        obtain ⟨r, rfl⟩ := act_v hq
        exact pw_iret dL_turn_138 rfl ⟨rfl, hq⟩
    · have hR : turnF x nA nC n w a b I = (fun J F => hangR J F (x + 1) n (upV a 10) (if a &&& 64 = 0 then upV b 4 else (crewForV I (x + 1) nC n (upV a 10)))) := by
        unfold turnF turnR
        rw [e]
        exact swV_in (k := 7) (by show 7 < 15; decide) (by show 15 < 100; decide)
      rw [hR]
      refine PR.of oP_L_turn (catOK rfl) (Nat.le_of_ble_eq_true rfl) ?_
      show PW _ _ _ 0 [.ref x, .int w, .int a, .int b, pJ] [] _ _ _ _
      refine pw_iload_n dL_turn_0 rfl rfl ?_
      refine pw_bipush (v := 10) dL_turn_1 (by decide) ?_
      refine pe_callSi dL_turn_3 oX_L_up lk_RL_61 (sp_up (by decide)) rfl rfl (Nat.le_of_ble_eq_true rfl) (by decide) ?_
      refine pw_istore dL_turn_6 (by decide) rfl ?_
      refine pw_iload_n dL_turn_8 rfl rfl ?_
      rw [e]
      refine pw_tableIn (x := nI 7) (off := 102) (tgt := 111) dL_turn_9 (by decide) (by decide) (by decide) (by decide) ?_
      refine pw_aload_n dL_turn_111 rfl rfl ?_
      refine pw_iload dL_turn_112 rfl ?_
      refine pw_iload_n dL_turn_114 rfl rfl ?_
      refine pw_bipush (v := 64) dL_turn_115 (by decide) ?_
      refine pw_iand dL_turn_117 ?_
      refine pw_if_ne (tgt := 129) dL_turn_118 (by decide) (fun c_118 => ?_) (fun c_118 => ?_)
      · rw [if_neg c_118]
        refine pw_aload_n dL_turn_129 rfl rfl ?_
        refine pw_iload dL_turn_130 rfl ?_
        refine pe_callVi dL_turn_132 oX_X7_crewFor lk_RL_79 (sp_x_crewFor hT hC hC5 hn hn4) (tw_k hT) rfl rfl (Nat.le_of_ble_eq_true rfl) (by decide) ?_
        refine pr_callV dL_turn_135 oX_X7_hang lk_RL_42 (sp_x_hang hT hk) (tw_k hT) rfl rfl (Nat.le_of_ble_eq_true rfl) (by decide) (fun v I1 F1 hq => ?_)
        obtain ⟨r, rfl⟩ := act_v hq
        exact pw_iret dL_turn_138 rfl ⟨rfl, hq⟩
      · rw [if_pos c_118]
        refine pw_iload_n dL_turn_121 rfl rfl ?_
        refine pw_iconst (v := 4) dL_turn_122 (by decide) ?_
        refine pe_callSi dL_turn_123 oX_L_up lk_RL_61 (sp_up (by decide)) rfl rfl (Nat.le_of_ble_eq_true rfl) (by decide) ?_
        refine pw_goto (tgt := 135) dL_turn_126 (by decide) ?_
        refine pr_callV dL_turn_135 oX_X7_hang lk_RL_42 (sp_x_hang hT hk) (tw_k hT) rfl rfl (Nat.le_of_ble_eq_true rfl) (by decide) (fun v I1 F1 hq => ?_)
        obtain ⟨r, rfl⟩ := act_v hq
        exact pw_iret dL_turn_138 rfl ⟨rfl, hq⟩
    · have hR : turnF x nA nC n w a b I = (fun J F => beginR J F (x + 1) n (upV a 10)) := by
        unfold turnF turnR
        rw [e]
        exact swV_in (k := 8) (by show 8 < 15; decide) (by show 15 < 100; decide)
      rw [hR]
      refine PR.of oP_L_turn (catOK rfl) (Nat.le_of_ble_eq_true rfl) ?_
      show PW _ _ _ 0 [.ref x, .int w, .int a, .int b, pJ] [] _ _ _ _
      refine pw_iload_n dL_turn_0 rfl rfl ?_
      refine pw_bipush (v := 10) dL_turn_1 (by decide) ?_
      refine pe_callSi dL_turn_3 oX_L_up lk_RL_61 (sp_up (by decide)) rfl rfl (Nat.le_of_ble_eq_true rfl) (by decide) ?_
      refine pw_istore dL_turn_6 (by decide) rfl ?_
      refine pw_iload_n dL_turn_8 rfl rfl ?_
      rw [e]
      refine pw_tableIn (x := nI 8) (off := 130) (tgt := 139) dL_turn_9 (by decide) (by decide) (by decide) (by decide) ?_
      refine pw_aload_n dL_turn_139 rfl rfl ?_
      refine pw_iload dL_turn_140 rfl ?_
      refine pr_callV dL_turn_142 oX_X7_begin lk_RL_82 (sp_x_begin hT hk) (tw_k hT) rfl rfl (Nat.le_of_ble_eq_true rfl) (by decide) (fun v I1 F1 hq => ?_)
      obtain ⟨r, rfl⟩ := act_v hq
      exact pw_iret dL_turn_145 rfl ⟨rfl, hq⟩
    · have hR : turnF x nA nC n w a b I = (fun J F => beginR J F (x + 1) n (upV a 10)) := by
        unfold turnF turnR
        rw [e]
        exact swV_in (k := 9) (by show 9 < 15; decide) (by show 15 < 100; decide)
      rw [hR]
      refine PR.of oP_L_turn (catOK rfl) (Nat.le_of_ble_eq_true rfl) ?_
      show PW _ _ _ 0 [.ref x, .int w, .int a, .int b, pJ] [] _ _ _ _
      refine pw_iload_n dL_turn_0 rfl rfl ?_
      refine pw_bipush (v := 10) dL_turn_1 (by decide) ?_
      refine pe_callSi dL_turn_3 oX_L_up lk_RL_61 (sp_up (by decide)) rfl rfl (Nat.le_of_ble_eq_true rfl) (by decide) ?_
      refine pw_istore dL_turn_6 (by decide) rfl ?_
      refine pw_iload_n dL_turn_8 rfl rfl ?_
      rw [e]
      refine pw_tableIn (x := nI 9) (off := 130) (tgt := 139) dL_turn_9 (by decide) (by decide) (by decide) (by decide) ?_
      refine pw_aload_n dL_turn_139 rfl rfl ?_
      refine pw_iload dL_turn_140 rfl ?_
      refine pr_callV dL_turn_142 oX_X7_begin lk_RL_82 (sp_x_begin hT hk) (tw_k hT) rfl rfl (Nat.le_of_ble_eq_true rfl) (by decide) (fun v I1 F1 hq => ?_)
      obtain ⟨r, rfl⟩ := act_v hq
      exact pw_iret dL_turn_145 rfl ⟨rfl, hq⟩
    · have hR : turnF x nA nC n w a b I = (fun J F => liftR J F (x + 1) n (upV a 10) (if a &&& 64 = 0 then upV b 4 else (taskV I (x + 1) n (upV a 10) 8))) := by
        unfold turnF turnR
        rw [e]
        exact swV_in (k := 10) (by show 10 < 15; decide) (by show 15 < 100; decide)
      rw [hR]
      refine PR.of oP_L_turn (catOK rfl) (Nat.le_of_ble_eq_true rfl) ?_
      show PW _ _ _ 0 [.ref x, .int w, .int a, .int b, pJ] [] _ _ _ _
      refine pw_iload_n dL_turn_0 rfl rfl ?_
      refine pw_bipush (v := 10) dL_turn_1 (by decide) ?_
      refine pe_callSi dL_turn_3 oX_L_up lk_RL_61 (sp_up (by decide)) rfl rfl (Nat.le_of_ble_eq_true rfl) (by decide) ?_
      refine pw_istore dL_turn_6 (by decide) rfl ?_
      refine pw_iload_n dL_turn_8 rfl rfl ?_
      rw [e]
      refine pw_tableIn (x := nI 10) (off := 137) (tgt := 146) dL_turn_9 (by decide) (by decide) (by decide) (by decide) ?_
      refine pw_aload_n dL_turn_146 rfl rfl ?_
      refine pw_iload dL_turn_147 rfl ?_
      refine pw_iload_n dL_turn_149 rfl rfl ?_
      refine pw_bipush (v := 64) dL_turn_150 (by decide) ?_
      refine pw_iand dL_turn_152 ?_
      refine pw_if_ne (tgt := 164) dL_turn_153 (by decide) (fun c_153 => ?_) (fun c_153 => ?_)
      · rw [if_neg c_153]
        refine pw_aload_n dL_turn_164 rfl rfl ?_
        refine pw_iload dL_turn_165 rfl ?_
        refine pw_bipush (v := 8) dL_turn_167 (by decide) ?_
        refine pe_callVi dL_turn_169 oX_X7_task lk_RL_32 (sp_x_task hT hA hA8 hn hn4 hW hKd) (tw_k hT) rfl rfl (Nat.le_of_ble_eq_true rfl) (by decide) ?_
        refine pr_callV dL_turn_172 oX_X7_lift lk_RL_45 (sp_x_lift hT hk) (tw_k hT) rfl rfl (Nat.le_of_ble_eq_true rfl) (by decide) (fun v I1 F1 hq => ?_)
        obtain ⟨r, rfl⟩ := act_v hq
        exact pw_iret dL_turn_175 rfl ⟨rfl, hq⟩
      · rw [if_pos c_153]
        refine pw_iload_n dL_turn_156 rfl rfl ?_
        refine pw_iconst (v := 4) dL_turn_157 (by decide) ?_
        refine pe_callSi dL_turn_158 oX_L_up lk_RL_61 (sp_up (by decide)) rfl rfl (Nat.le_of_ble_eq_true rfl) (by decide) ?_
        refine pw_goto (tgt := 172) dL_turn_161 (by decide) ?_
        refine pr_callV dL_turn_172 oX_X7_lift lk_RL_45 (sp_x_lift hT hk) (tw_k hT) rfl rfl (Nat.le_of_ble_eq_true rfl) (by decide) (fun v I1 F1 hq => ?_)
        obtain ⟨r, rfl⟩ := act_v hq
        exact pw_iret dL_turn_175 rfl ⟨rfl, hq⟩
    · have hR : turnF x nA nC n w a b I = (fun J F => liftR J F (x + 1) n (upV a 10) (if a &&& 64 = 0 then upV b 4 else (taskV I (x + 1) n (upV a 10) 8))) := by
        unfold turnF turnR
        rw [e]
        exact swV_in (k := 11) (by show 11 < 15; decide) (by show 15 < 100; decide)
      rw [hR]
      refine PR.of oP_L_turn (catOK rfl) (Nat.le_of_ble_eq_true rfl) ?_
      show PW _ _ _ 0 [.ref x, .int w, .int a, .int b, pJ] [] _ _ _ _
      refine pw_iload_n dL_turn_0 rfl rfl ?_
      refine pw_bipush (v := 10) dL_turn_1 (by decide) ?_
      refine pe_callSi dL_turn_3 oX_L_up lk_RL_61 (sp_up (by decide)) rfl rfl (Nat.le_of_ble_eq_true rfl) (by decide) ?_
      refine pw_istore dL_turn_6 (by decide) rfl ?_
      refine pw_iload_n dL_turn_8 rfl rfl ?_
      rw [e]
      refine pw_tableIn (x := nI 11) (off := 137) (tgt := 146) dL_turn_9 (by decide) (by decide) (by decide) (by decide) ?_
      refine pw_aload_n dL_turn_146 rfl rfl ?_
      refine pw_iload dL_turn_147 rfl ?_
      refine pw_iload_n dL_turn_149 rfl rfl ?_
      refine pw_bipush (v := 64) dL_turn_150 (by decide) ?_
      refine pw_iand dL_turn_152 ?_
      refine pw_if_ne (tgt := 164) dL_turn_153 (by decide) (fun c_153 => ?_) (fun c_153 => ?_)
      · rw [if_neg c_153]
        refine pw_aload_n dL_turn_164 rfl rfl ?_
        refine pw_iload dL_turn_165 rfl ?_
        refine pw_bipush (v := 8) dL_turn_167 (by decide) ?_
        refine pe_callVi dL_turn_169 oX_X7_task lk_RL_32 (sp_x_task hT hA hA8 hn hn4 hW hKd) (tw_k hT) rfl rfl (Nat.le_of_ble_eq_true rfl) (by decide) ?_
        refine pr_callV dL_turn_172 oX_X7_lift lk_RL_45 (sp_x_lift hT hk) (tw_k hT) rfl rfl (Nat.le_of_ble_eq_true rfl) (by decide) (fun v I1 F1 hq => ?_)
        obtain ⟨r, rfl⟩ := act_v hq
        exact pw_iret dL_turn_175 rfl ⟨rfl, hq⟩
      · rw [if_pos c_153]
        refine pw_iload_n dL_turn_156 rfl rfl ?_
        refine pw_iconst (v := 4) dL_turn_157 (by decide) ?_
        refine pe_callSi dL_turn_158 oX_L_up lk_RL_61 (sp_up (by decide)) rfl rfl (Nat.le_of_ble_eq_true rfl) (by decide) ?_
        refine pw_goto (tgt := 172) dL_turn_161 (by decide) ?_
        refine pr_callV dL_turn_172 oX_X7_lift lk_RL_45 (sp_x_lift hT hk) (tw_k hT) rfl rfl (Nat.le_of_ble_eq_true rfl) (by decide) (fun v I1 F1 hq => ?_)
        obtain ⟨r, rfl⟩ := act_v hq
        exact pw_iret dL_turn_175 rfl ⟨rfl, hq⟩
    · have hR : turnF x nA nC n w a b I = (fun J F => cancelR J F (x + 1) (upV a 10)) := by
        unfold turnF turnR
        rw [e]
        exact swV_in (k := 12) (by show 12 < 15; decide) (by show 15 < 100; decide)
      rw [hR]
      refine PR.of oP_L_turn (catOK rfl) (Nat.le_of_ble_eq_true rfl) ?_
      show PW _ _ _ 0 [.ref x, .int w, .int a, .int b, pJ] [] _ _ _ _
      refine pw_iload_n dL_turn_0 rfl rfl ?_
      refine pw_bipush (v := 10) dL_turn_1 (by decide) ?_
      refine pe_callSi dL_turn_3 oX_L_up lk_RL_61 (sp_up (by decide)) rfl rfl (Nat.le_of_ble_eq_true rfl) (by decide) ?_
      refine pw_istore dL_turn_6 (by decide) rfl ?_
      refine pw_iload_n dL_turn_8 rfl rfl ?_
      rw [e]
      refine pw_tableIn (x := nI 12) (off := 167) (tgt := 176) dL_turn_9 (by decide) (by decide) (by decide) (by decide) ?_
      refine pw_aload_n dL_turn_176 rfl rfl ?_
      refine pw_iload dL_turn_177 rfl ?_
      refine pr_callV dL_turn_179 oX_X7_cancel lk_RL_58 (sp_x_cancel hT hk) (tw_k hT) rfl rfl (Nat.le_of_ble_eq_true rfl) (by decide) (fun v I1 F1 hq => ?_)
      obtain ⟨r, rfl⟩ := act_v hq
      exact pw_iret dL_turn_182 rfl ⟨rfl, hq⟩
    · have hR : turnF x nA nC n w a b I = (fun J F => passR J F (x + 1) nA n (1 + upV b (if a &&& 3 = 0 then 40 else 5))) := by
        unfold turnF turnR
        rw [e]
        exact swV_in (k := 13) (by show 13 < 15; decide) (by show 15 < 100; decide)
      rw [hR]
      refine PR.of oP_L_turn (catOK rfl) (Nat.le_of_ble_eq_true rfl) ?_
      show PW _ _ _ 0 [.ref x, .int w, .int a, .int b, pJ] [] _ _ _ _
      refine pw_iload_n dL_turn_0 rfl rfl ?_
      refine pw_bipush (v := 10) dL_turn_1 (by decide) ?_
      refine pe_callSi dL_turn_3 oX_L_up lk_RL_61 (sp_up (by decide)) rfl rfl (Nat.le_of_ble_eq_true rfl) (by decide) ?_
      refine pw_istore dL_turn_6 (by decide) rfl ?_
      refine pw_iload_n dL_turn_8 rfl rfl ?_
      rw [e]
      refine pw_tableIn (x := nI 13) (off := 174) (tgt := 183) dL_turn_9 (by decide) (by decide) (by decide) (by decide) ?_
      refine pw_aload_n dL_turn_183 rfl rfl ?_
      refine pw_iconst (v := 1) dL_turn_184 (by decide) ?_
      refine pw_iload_n dL_turn_185 rfl rfl ?_
      refine pw_iload_n dL_turn_186 rfl rfl ?_
      refine pw_iconst (v := 3) dL_turn_187 (by decide) ?_
      refine pw_iand dL_turn_188 ?_
      refine pw_if_ne (tgt := 197) dL_turn_189 (by decide) (fun c_189 => ?_) (fun c_189 => ?_)
      · rw [if_neg c_189]
        refine pw_iconst (v := 5) dL_turn_197 (by decide) ?_
        refine pe_callSi dL_turn_198 oX_L_up lk_RL_61 (sp_up (by decide)) rfl rfl (Nat.le_of_ble_eq_true rfl) (by decide) ?_
        refine pw_iadd dL_turn_201 ?_
        refine pr_callV dL_turn_202 oX_X7_pass lk_RL_48 (sp_x_pass hT hk) (tw_k hT) rfl rfl (Nat.le_of_ble_eq_true rfl) (by decide) (fun v I1 F1 hq => ?_)
        obtain ⟨r, rfl⟩ := act_v hq
        exact pw_iret dL_turn_205 rfl ⟨rfl, hq⟩
      · rw [if_pos c_189]
        refine pw_bipush (v := 40) dL_turn_192 (by decide) ?_
        refine pw_goto (tgt := 198) dL_turn_194 (by decide) ?_
        refine pe_callSi dL_turn_198 oX_L_up lk_RL_61 (sp_up (by decide)) rfl rfl (Nat.le_of_ble_eq_true rfl) (by decide) ?_
        refine pw_iadd dL_turn_201 ?_
        refine pr_callV dL_turn_202 oX_X7_pass lk_RL_48 (sp_x_pass hT hk) (tw_k hT) rfl rfl (Nat.le_of_ble_eq_true rfl) (by decide) (fun v I1 F1 hq => ?_)
        obtain ⟨r, rfl⟩ := act_v hq
        exact pw_iret dL_turn_205 rfl ⟨rfl, hq⟩
    · have hR : turnF x nA nC n w a b I = (fun J F => passR J F (x + 1) nA n (1 + upV b (if a &&& 3 = 0 then 40 else 5))) := by
        unfold turnF turnR
        rw [e]
        exact swV_in (k := 14) (by show 14 < 15; decide) (by show 15 < 100; decide)
      rw [hR]
      refine PR.of oP_L_turn (catOK rfl) (Nat.le_of_ble_eq_true rfl) ?_
      show PW _ _ _ 0 [.ref x, .int w, .int a, .int b, pJ] [] _ _ _ _
      refine pw_iload_n dL_turn_0 rfl rfl ?_
      refine pw_bipush (v := 10) dL_turn_1 (by decide) ?_
      refine pe_callSi dL_turn_3 oX_L_up lk_RL_61 (sp_up (by decide)) rfl rfl (Nat.le_of_ble_eq_true rfl) (by decide) ?_
      refine pw_istore dL_turn_6 (by decide) rfl ?_
      refine pw_iload_n dL_turn_8 rfl rfl ?_
      rw [e]
      refine pw_tableIn (x := nI 14) (off := 174) (tgt := 183) dL_turn_9 (by decide) (by decide) (by decide) (by decide) ?_
      refine pw_aload_n dL_turn_183 rfl rfl ?_
      refine pw_iconst (v := 1) dL_turn_184 (by decide) ?_
      refine pw_iload_n dL_turn_185 rfl rfl ?_
      refine pw_iload_n dL_turn_186 rfl rfl ?_
      refine pw_iconst (v := 3) dL_turn_187 (by decide) ?_
      refine pw_iand dL_turn_188 ?_
      refine pw_if_ne (tgt := 197) dL_turn_189 (by decide) (fun c_189 => ?_) (fun c_189 => ?_)
      · rw [if_neg c_189]
        refine pw_iconst (v := 5) dL_turn_197 (by decide) ?_
        refine pe_callSi dL_turn_198 oX_L_up lk_RL_61 (sp_up (by decide)) rfl rfl (Nat.le_of_ble_eq_true rfl) (by decide) ?_
        refine pw_iadd dL_turn_201 ?_
        refine pr_callV dL_turn_202 oX_X7_pass lk_RL_48 (sp_x_pass hT hk) (tw_k hT) rfl rfl (Nat.le_of_ble_eq_true rfl) (by decide) (fun v I1 F1 hq => ?_)
        obtain ⟨r, rfl⟩ := act_v hq
        exact pw_iret dL_turn_205 rfl ⟨rfl, hq⟩
      · rw [if_pos c_189]
        refine pw_bipush (v := 40) dL_turn_192 (by decide) ?_
        refine pw_goto (tgt := 198) dL_turn_194 (by decide) ?_
        refine pe_callSi dL_turn_198 oX_L_up lk_RL_61 (sp_up (by decide)) rfl rfl (Nat.le_of_ble_eq_true rfl) (by decide) ?_
        refine pw_iadd dL_turn_201 ?_
        refine pr_callV dL_turn_202 oX_X7_pass lk_RL_48 (sp_x_pass hT hk) (tw_k hT) rfl rfl (Nat.le_of_ble_eq_true rfl) (by decide) (fun v I1 F1 hq => ?_)
        obtain ⟨r, rfl⟩ := act_v hq
        exact pw_iret dL_turn_205 rfl ⟨rfl, hq⟩
  · have hR : turnF x nA nC n w a b I = anyR x nA nC n a b := by
      unfold turnF turnR
      exact swV_out hout (by show 15 ≤ 14 + 1; decide)
    rw [hR]
    refine PR.of oP_L_turn (catOK rfl) (Nat.le_of_ble_eq_true rfl) ?_
    show PW _ _ _ 0 [.ref x, .int w, .int a, .int b, pJ] [] _ _ _ _
    refine pw_iload_n dL_turn_0 rfl rfl ?_
    refine pw_bipush (v := 10) dL_turn_1 (by decide) ?_
    refine pe_callSi dL_turn_3 oX_L_up lk_RL_61 (sp_up (by decide)) rfl rfl (Nat.le_of_ble_eq_true rfl) (by decide) ?_
    refine pw_istore dL_turn_6 (by decide) rfl ?_
    refine pw_iload_n dL_turn_8 rfl rfl ?_
    refine pw_tableOut (tgt := 206) dL_turn_9 hout (by decide) ?_
    refine pw_aload_n dL_turn_206 rfl rfl ?_
    refine pw_iload_n dL_turn_207 rfl rfl ?_
    refine pw_iload_n dL_turn_208 rfl rfl ?_
    refine pr_callS dL_turn_209 oX_L_any lk_RL_85 (sp_any hT hk) rfl rfl (Nat.le_of_ble_eq_true rfl) (by decide) (fun v I1 F1 hq => ?_)
    obtain ⟨r, rfl⟩ := act_v hq
    exact pw_iret dL_turn_212 rfl ⟨rfl, hq⟩
