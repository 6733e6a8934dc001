/-! THE LAW -/
abbrev mW : mB := (RL, 13, (some .boolean), 11, 426, false)
/-- the law's own end: where it began with the script at b, in its own room -/
def lwZ : pZ := fun _ base b _ below args s R t => args = #[Value.ref b] → R = room_1 → s.heap.size ≤ base → lw_Z below #[Value.ref b] s t
theorem pw_lawret {pc : Nat} {ls : List Value} {σ : pT} {I : pI} {F : pF} {β : Nat × Nat} (hdg : decode code pc = .ok (.ireturn, 1)) : PW cL_law mW lwZ pc ls [.int 1] σ I F β := by
  intro p l e R s m args below meth c D base b al0 l0 d0 H locs cells slots lsM stM hc hd hls hs hw hS hk1 hk2
  obtain ⟨hx, hb, hr0, hts, hown, hlk, hml, hrf, hrl, hbs, hsp, -⟩ := id hc
  obtain ⟨v', tM, rfl, rfl, hst⟩ := hs
  rw [show tM = [] from hst]
  by_cases hh : (args = #[Value.ref b] ∧ R = room_1) ∧ s.heap.size ≤ base
  · obtain ⟨⟨rfl, rfl⟩, hsz⟩ := hh
    have e1 : room_1.cells = 600000 := rfl
    have e2 : room_1.slots = 7302250 := rfl
    refine va_forget (fun q hq => Nat.le_trans hsz (hS.2.2 q hq)) ?_
    refine W.widen (k := 600000) (n := 7302250) (by omega) (by omega) ?_
    intro T hT X
    obtain ⟨t, a1, b1⟩ := lw_ret (b := b) hd hx hb hr0 hlk hdg T hT X
    exact ⟨t, a1, fun _ _ _ => b1⟩
  · intro T hT X
    exact ⟨_, Steps.refl _, fun h1 h2 h3 => absurd ⟨⟨h1, h2⟩, h3⟩ hh⟩

theorem G_sl {I : pI} {F : pF} {p nA nC n h : Nat} (g : Gd p I F nA nC n h) : slipsC I p n = nI (slS I p n) ∧ slS I p n ≤ 24 * 2000 := by
  have h8 := g.1.2.2.2.2.2.2.2
  have hn4 := g.1.2.2.2.2.2.1
  refine ⟨slipsC_N (fun t ht => ?_), ?_⟩
  · obtain ⟨q, hq, e⟩ := G2_S g.2.1 t ht
    exact ⟨q, by omega, e⟩
  · have h1 : slS I p n ≤ n * 2000 := sumN_b fun t ht => by
      obtain ⟨q, hq, e⟩ := G2_S g.2.1 t ht
      rw [e, nI_clamp (by omega)]
      omega
    exact Nat.le_trans h1 (Nat.mul_le_mul_right _ hn4)

set_option maxRecDepth 4000 in
theorem law_body {σ : pT} {I : pI} {F : pF} {x N L k nA nC n h o z : Nat} (hT : isTW σ x) (hL : (σ.2.1 0).2 = L) (hL4 : L ≤ 260) (hN : 3 * N ≤ L) (hN4 : N ≤ 40) (hk : k < N) (s : St x I F nA nC n h o z) (K : ∀ (I' : pI) (F' : pF) (nA nC n h o z : Nat), St x I' F' nA nC n h o z → PW cL_law mW lwZ 46 [.ref 0, .ref x, .int (nI N), .int (nI (k + 1)), pJ, pJ, pJ, pJ, pJ, pJ, pJ, pJ, pJ] [] σ I' F' (0, 0)) : PW cL_law mW lwZ 51 [.ref 0, .ref x, .int (nI N), .int (nI k), pJ, pJ, pJ, pJ, pJ, pJ, pJ, pJ, pJ] [] σ I F (0, 0) := by
  have hz4 := s.2.2.2.2.1
  obtain ⟨sl1, sl2⟩ := G_sl s.1
  have K231 : ∀ (X0 A0 B0 : Int32) (I' : pI) (F' : pF) (nA' nC' n' h' o' z' : Nat), St x I' F' nA' nC' n' h' o' z' → PW cL_law mW lwZ 231 [.ref 0, .ref x, .int (nI N), .int (nI k), .int X0, .int A0, .int B0, pJ, pJ, pJ, pJ, .int (nI (slS I (x + 1) n)), pJ] [] σ I' F' (0, 0) := by
    intro X0 A0 B0 I' F' nA' nC' n' h' o' z' s9
    refine pw_aload_n dL_law_231 rfl rfl ?_
    refine pe_callSi dL_law_232 oX_L_areRight lk_RL_131 (sp_areRight hT s9.1) rfl rfl (Nat.le_of_ble_eq_true rfl) (by decide) ?_
    refine pw_if_ne (tgt := 240) dL_law_235 (by decide) (fun c_235 => ?_) (fun c_235 => absurd c_235 (by decide))
    refine pw_iinc (v := nI (k + 1)) dL_law_240 rfl (nI_add _ _) rfl ?_
    refine pw_goto (tgt := 46) dL_law_243 (by decide) ?_
    exact pw_weak (ls' := [.ref 0, .ref x, .int (nI N), .int (nI (k + 1)), pJ, pJ, pJ, pJ, pJ, pJ, pJ, pJ, pJ]) rfl (wk_same (wk_same (wk_same (wk_same (wk_drop (wk_drop (wk_drop (wk_drop (wk_drop (wk_drop (wk_drop (wk_drop (wk_drop wk_nil))))))))))))) (K _ _ _ _ _ _ _ _ s9)
  have K201 : ∀ (X0 A0 B0 : Int32) (I' : pI) (F' : pF) (nA' nC' n' h' o' z' : Nat), St x I' F' nA' nC' n' h' o' z' → slS I (x + 1) n ≤ slS I' (x + 1) n' → PW cL_law mW lwZ 201 [.ref 0, .ref x, .int (nI N), .int (nI k), .int X0, .int A0, .int B0, pJ, pJ, pJ, pJ, .int (nI (slS I (x + 1) n)), pJ] [] σ I' F' (0, 0) := by
    intro X0 A0 B0 I' F' nA' nC' n' h' o' z' s8 hsl
    obtain ⟨sl3, sl4⟩ := G_sl s8.1
    refine pw_aload_n dL_law_201 rfl rfl ?_
    refine pw_bipush (v := 13) dL_law_202 (by decide) ?_
    refine pe_callVi dL_law_204 oX_X7_count lk_RL_13 (sp_x_count (nA := _) (n := _) hT (St_cOK s8).1 (St_cOK s8).2.1 (St_cOK s8).2.2.2.2.1 (St_cOK s8).2.2.2.2.2.1) (tw_k hT) rfl rfl (Nat.le_of_ble_eq_true rfl) (by decide) ?_
    rw [count_13, sl3]
    refine pw_iload dL_law_207 rfl ?_
    refine pw_icmp_lt (tgt := 238) dL_law_209 (by decide) (fun c_209 => absurd c_209 (nI_nlt hsl (by omega))) (fun c_209 => ?_)
    refine pw_iload dL_law_212 rfl ?_
    refine pw_bipush (v := 96) dL_law_214 (by decide) ?_
    refine pw_iand dL_law_216 ?_
    refine pw_if_ne (tgt := 231) dL_law_217 (by decide) (fun c_217 => ?_) (fun c_217 => ?_)
    · exact K231 _ _ _ _ _ _ _ _ _ _ _ s8
    · refine pw_aload_n dL_law_220 rfl rfl ?_
      refine pw_iload dL_law_221 rfl ?_
      refine pw_iload dL_law_223 rfl ?_
      refine pr_callS dL_law_225 oX_L_isKept lk_RL_127 (sp_isKept hT s8) rfl rfl (Nat.le_of_ble_eq_true rfl) (by decide) (fun v I9 F9 hq => ?_)
      obtain ⟨rfl, o9, z9, s9, -⟩ := hq
      refine pw_if_eq (tgt := 238) dL_law_228 (by decide) (fun c_228 => absurd c_228 (by decide)) (fun c_228 => ?_)
      exact K231 _ _ _ _ _ _ _ _ _ _ _ s9
  refine pw_aload_n dL_law_51 rfl rfl ?_
  refine pw_iconst (v := 3) dL_law_52 (by decide) ?_
  refine pw_iload_n dL_law_53 rfl rfl ?_
  refine pw_imul dL_law_54 ?_
  rw [show (3 * nI k : Int32) = nI (3 * k) from pk_mul _ _]
  refine pe_callSi dL_law_55 oX_L_cell lk_RL_119 (sp_cell (k := 3 * k) hL (by omega) (by omega)) rfl rfl (Nat.le_of_ble_eq_true rfl) (by decide) ?_
  refine pw_istore dL_law_58 (by decide) rfl ?_
  refine pw_aload_n dL_law_60 rfl rfl ?_
  refine pw_iconst (v := 3) dL_law_61 (by decide) ?_
  refine pw_iload_n dL_law_62 rfl rfl ?_
  refine pw_imul dL_law_63 ?_
  rw [show (3 * nI k : Int32) = nI (3 * k) from pk_mul _ _]
  refine pw_iconst (v := 1) dL_law_64 (by decide) ?_
  refine pw_iadd dL_law_65 ?_
  rw [show (nI (3 * k) + 1 : Int32) = nI ((3 * k) + 1) from nI_add _ _]
  refine pe_callSi dL_law_66 oX_L_cell lk_RL_119 (sp_cell (k := 3 * k + 1) hL (by omega) (by omega)) rfl rfl (Nat.le_of_ble_eq_true rfl) (by decide) ?_
  refine pw_istore dL_law_69 (by decide) rfl ?_
  refine pw_aload_n dL_law_71 rfl rfl ?_
  refine pw_iconst (v := 3) dL_law_72 (by decide) ?_
  refine pw_iload_n dL_law_73 rfl rfl ?_
  refine pw_imul dL_law_74 ?_
  rw [show (3 * nI k : Int32) = nI (3 * k) from pk_mul _ _]
  refine pw_iconst (v := 2) dL_law_75 (by decide) ?_
  refine pw_iadd dL_law_76 ?_
  rw [show (nI (3 * k) + 2 : Int32) = nI ((3 * k) + 2) from nI_add _ _]
  refine pe_callSi dL_law_77 oX_L_cell lk_RL_119 (sp_cell (k := 3 * k + 2) hL (by omega) (by omega)) rfl rfl (Nat.le_of_ble_eq_true rfl) (by decide) ?_
  refine pw_istore dL_law_80 (by decide) rfl ?_
  refine pw_iload dL_law_82 rfl ?_
  refine pw_bipush (v := 15) dL_law_84 (by decide) ?_
  refine pw_iand dL_law_86 ?_
  refine pw_istore dL_law_87 (by decide) rfl ?_
  refine pw_aload_n dL_law_89 rfl rfl ?_
  refine pe_callSl dL_law_90 oX_L_view lk_RL_100 (sp_view hT s.1.1.1 s.1.1.2.1 s.1.1.2.2.1 s.1.1.2.2.2.1 s.1.1.2.2.2.2.1 s.1.1.2.2.2.2.2.1 (G2_W s.1.2.1) (G2_K s.1.2.1)) rfl rfl (Nat.le_of_ble_eq_true rfl) (by decide) ?_
  refine pw_lstore dL_law_93 (by decide) rfl ?_
  refine pw_aload_n dL_law_95 rfl rfl ?_
  refine pw_bipush (v := 15) dL_law_96 (by decide) ?_
  refine pe_callVi dL_law_98 oX_X7_count lk_RL_13 (sp_x_count (nA := _) (n := _) hT (St_cOK s).1 (St_cOK s).2.1 (St_cOK s).2.2.2.2.1 (St_cOK s).2.2.2.2.2.1) (tw_k hT) rfl rfl (Nat.le_of_ble_eq_true rfl) (by decide) ?_
  rw [count_15, s.2.2.2.1]
  refine pw_istore dL_law_101 (by decide) rfl ?_
  refine pw_aload_n dL_law_103 rfl rfl ?_
  refine pw_bipush (v := 13) dL_law_104 (by decide) ?_
  refine pe_callVi dL_law_106 oX_X7_count lk_RL_13 (sp_x_count (nA := _) (n := _) hT (St_cOK s).1 (St_cOK s).2.1 (St_cOK s).2.2.2.2.1 (St_cOK s).2.2.2.2.2.1) (tw_k hT) rfl rfl (Nat.le_of_ble_eq_true rfl) (by decide) ?_
  rw [count_13, sl1]
  refine pw_istore dL_law_109 (by decide) rfl ?_
  refine pw_aload_n dL_law_111 rfl rfl ?_
  refine pw_iload dL_law_112 rfl ?_
  refine pw_iload dL_law_114 rfl ?_
  refine pw_iload dL_law_116 rfl ?_
  refine pr_callS dL_law_118 oX_L_turn lk_RL_108 (sp_turn hT (St_cOK s)) rfl rfl (Nat.le_of_ble_eq_true rfl) (by decide) (fun v I1 F1 hq => ?_)
  obtain ⟨hv, k2, -, -, k5⟩ := act_st s ac_turn hq
  subst hv
  rcases k5 with ⟨hr, s1, e1⟩ | ⟨hr, nA1, nC1, n1, h1, o1, z1, s1, l1, l2, l3, l4⟩
  · refine pw_istore dL_law_121 (by decide) rfl ?_
    refine pw_iload dL_law_123 rfl ?_
    refine pw_if_ge (tgt := 151) dL_law_125 (by decide) (fun c_125 => absurd hr (i_nle c_125)) (fun c_125 => ?_)
    refine pw_aload_n dL_law_128 rfl rfl ?_
    refine pe_callSl dL_law_129 oX_L_view lk_RL_100 (sp_view hT s1.1.1.1 s1.1.1.2.1 s1.1.1.2.2.1 s1.1.1.2.2.2.1 s1.1.1.2.2.2.2.1 s1.1.1.2.2.2.2.2.1 (G2_W s1.1.2.1) (G2_K s1.1.2.1)) rfl rfl (Nat.le_of_ble_eq_true rfl) (by decide) ?_
    rw [cg_view e1 s.1]
    refine pw_lload dL_law_132 rfl ?_
    refine pw_lcmp dL_law_134 ?_
    rw [lcmp_0]
    refine pw_if_ne (tgt := 149) dL_law_135 (by decide) (fun c_135 => absurd rfl c_135) (fun c_135 => ?_)
    refine pw_aload_n dL_law_138 rfl rfl ?_
    refine pw_bipush (v := 15) dL_law_139 (by decide) ?_
    refine pe_callVi dL_law_141 oX_X7_count lk_RL_13 (sp_x_count (nA := _) (n := _) hT (St_cOK s1).1 (St_cOK s1).2.1 (St_cOK s1).2.2.2.2.1 (St_cOK s1).2.2.2.2.2.1) (tw_k hT) rfl rfl (Nat.le_of_ble_eq_true rfl) (by decide) ?_
    rw [count_15, s1.2.2.2.1]
    refine pw_iload dL_law_144 rfl ?_
    refine pw_icmp_eq (tgt := 201) dL_law_146 (by decide) (fun c_146 => ?_) (fun c_146 => absurd rfl c_146)
    exact pw_weak (ls' := [.ref 0, .ref x, .int (nI N), .int (nI k), .int _, .int _, .int _, pJ, pJ, pJ, pJ, .int _, pJ]) rfl (wk_same (wk_same (wk_same (wk_same (wk_same (wk_same (wk_same (wk_drop (wk_drop (wk_drop (wk_drop (wk_same (wk_drop wk_nil))))))))))))) (K201 _ _ _ _ _ _ _ _ _ _ _ s1 (Nat.le_of_eq (slS_cg e1.1 s.1.1.2.2.2.2.2.1).symm))
  · refine pw_istore dL_law_121 (by decide) rfl ?_
    refine pw_iload dL_law_123 rfl ?_
    refine pw_if_ge (tgt := 151) dL_law_125 (by decide) (fun c_125 => ?_) (fun c_125 => absurd (i_le hr) c_125)
    refine pw_aload_n dL_law_151 rfl rfl ?_
    refine pw_bipush (v := 15) dL_law_152 (by decide) ?_
    refine pe_callVi dL_law_154 oX_X7_count lk_RL_13 (sp_x_count (nA := _) (n := _) hT (St_cOK s1).1 (St_cOK s1).2.1 (St_cOK s1).2.2.2.2.1 (St_cOK s1).2.2.2.2.2.1) (tw_k hT) rfl rfl (Nat.le_of_ble_eq_true rfl) (by decide) ?_
    rw [count_15, s1.2.2.2.1]
    refine pw_iload dL_law_157 rfl ?_
    refine pw_iconst (v := 4) dL_law_159 (by decide) ?_
    refine pw_icmp_ge (tgt := 170) dL_law_160 (by decide) (fun c_160 => ?_) (fun c_160 => ?_)
    · have hz : ¬ z < 4 := fun q => nI_ge (a := z) (b := 4) q (by decide) c_160
      refine pw_iconst (v := 4) dL_law_170 (by decide) ?_
      refine pw_icmp_ne (tgt := 199) dL_law_171 (by decide) (fun c_171 => absurd (by rw [l2, if_neg hz]; rfl) c_171) (fun c_171 => ?_)
      refine pw_iload dL_law_174 rfl ?_
      refine pw_bipush (v := 16) dL_law_176 (by decide) ?_
      refine pw_iand dL_law_178 ?_
      refine pw_if_ne (tgt := 201) dL_law_179 (by decide) (fun c_179 => ?_) (fun c_179 => ?_)
      · exact pw_weak (ls' := [.ref 0, .ref x, .int (nI N), .int (nI k), .int _, .int _, .int _, pJ, pJ, pJ, pJ, .int _, pJ]) rfl (wk_same (wk_same (wk_same (wk_same (wk_same (wk_same (wk_same (wk_drop (wk_drop (wk_drop (wk_drop (wk_same (wk_drop wk_nil))))))))))))) (K201 _ _ _ _ _ _ _ _ _ _ _ s1 l1)
      · refine pw_aload_n dL_law_182 rfl rfl ?_
        refine pw_iload dL_law_183 rfl ?_
        refine pw_iload dL_law_185 rfl ?_
        refine pw_iload dL_law_187 rfl ?_
        refine pw_iload dL_law_189 rfl ?_
        refine pw_lload dL_law_191 rfl ?_
        refine pr_callS dL_law_193 oX_L_isUndone lk_RL_123 (sp_isUndone hT s s1 l3 l4 k2 hr) rfl rfl (Nat.le_of_ble_eq_true rfl) (by decide) (fun v I2 F2 hq => ?_)
        obtain ⟨rfl, nA2, nC2, n2, h2, o2, z2, s2, l5⟩ := hq
        refine pw_if_ne (tgt := 201) dL_law_196 (by decide) (fun c_196 => ?_) (fun c_196 => absurd c_196 (by decide))
        exact pw_weak (ls' := [.ref 0, .ref x, .int (nI N), .int (nI k), .int _, .int _, .int _, pJ, pJ, pJ, pJ, .int _, pJ]) rfl (wk_same (wk_same (wk_same (wk_same (wk_same (wk_same (wk_same (wk_drop (wk_drop (wk_drop (wk_drop (wk_same (wk_drop wk_nil))))))))))))) (K201 _ _ _ _ _ _ _ _ _ _ _ s2 l5)
    · have hz : z < 4 := by
        rcases Nat.lt_or_ge z 4 with q | q
        · exact q
        · exact absurd (nI_le (a := 4) q (by omega)) c_160
      refine pw_iload dL_law_163 rfl ?_
      refine pw_iconst (v := 1) dL_law_165 (by decide) ?_
      refine pw_iadd dL_law_166 ?_
      refine pw_goto (tgt := 171) dL_law_167 (by decide) ?_
      refine pw_icmp_ne (tgt := 199) dL_law_171 (by decide) (fun c_171 => absurd (by rw [l2, if_pos hz]; exact (nI_add z 1).symm) c_171) (fun c_171 => ?_)
      refine pw_iload dL_law_174 rfl ?_
      refine pw_bipush (v := 16) dL_law_176 (by decide) ?_
      refine pw_iand dL_law_178 ?_
      refine pw_if_ne (tgt := 201) dL_law_179 (by decide) (fun c_179 => ?_) (fun c_179 => ?_)
      · exact pw_weak (ls' := [.ref 0, .ref x, .int (nI N), .int (nI k), .int _, .int _, .int _, pJ, pJ, pJ, pJ, .int _, pJ]) rfl (wk_same (wk_same (wk_same (wk_same (wk_same (wk_same (wk_same (wk_drop (wk_drop (wk_drop (wk_drop (wk_same (wk_drop wk_nil))))))))))))) (K201 _ _ _ _ _ _ _ _ _ _ _ s1 l1)
      · refine pw_aload_n dL_law_182 rfl rfl ?_
        refine pw_iload dL_law_183 rfl ?_
        refine pw_iload dL_law_185 rfl ?_
        refine pw_iload dL_law_187 rfl ?_
        refine pw_iload dL_law_189 rfl ?_
        refine pw_lload dL_law_191 rfl ?_
        refine pr_callS dL_law_193 oX_L_isUndone lk_RL_123 (sp_isUndone hT s s1 l3 l4 k2 hr) rfl rfl (Nat.le_of_ble_eq_true rfl) (by decide) (fun v I2 F2 hq => ?_)
        obtain ⟨rfl, nA2, nC2, n2, h2, o2, z2, s2, l5⟩ := hq
        refine pw_if_ne (tgt := 201) dL_law_196 (by decide) (fun c_196 => ?_) (fun c_196 => absurd c_196 (by decide))
        exact pw_weak (ls' := [.ref 0, .ref x, .int (nI N), .int (nI k), .int _, .int _, .int _, pJ, pJ, pJ, pJ, .int _, pJ]) rfl (wk_same (wk_same (wk_same (wk_same (wk_same (wk_same (wk_same (wk_drop (wk_drop (wk_drop (wk_drop (wk_same (wk_drop wk_nil))))))))))))) (K201 _ _ _ _ _ _ _ _ _ _ _ s2 l5)

theorem law_loop {σ : pT} {x N L : Nat} (hT : isTW σ x) (hL : (σ.2.1 0).2 = L) (hL4 : L ≤ 260) (hN : 3 * N ≤ L) (hN4 : N ≤ 40) : ∀ (d k : Nat), N ≤ k + d → k ≤ N → ∀ (I : pI) (F : pF) (nA nC n h o z : Nat), St x I F nA nC n h o z → PW cL_law mW lwZ 46 [.ref 0, .ref x, .int (nI N), .int (nI k), pJ, pJ, pJ, pJ, pJ, pJ, pJ, pJ, pJ] [] σ I F (0, 0) := by
  intro d
  induction d with
  | zero =>
    intro k hd hk I F nA nC n h o z s
    refine pw_iload_n dL_law_46 rfl rfl ?_
    refine pw_iload_n dL_law_47 rfl rfl ?_
    refine pw_icmp_ge (tgt := 246) dL_law_48 (by decide) (fun c_48 => ?_) (fun c_48 => absurd (nI_le (a := N) (b := k) (by omega) (by omega)) c_48)
    refine pw_iconst (v := 1) dL_law_246 (by decide) ?_
    exact pw_lawret dL_law_247
  | succ d ih =>
    intro k hd hk I F nA nC n h o z s
    refine pw_iload_n dL_law_46 rfl rfl ?_
    refine pw_iload_n dL_law_47 rfl rfl ?_
    refine pw_icmp_ge (tgt := 246) dL_law_48 (by decide) (fun c_48 => ?_) (fun c_48 => ?_)
    · refine pw_iconst (v := 1) dL_law_246 (by decide) ?_
      exact pw_lawret dL_law_247
    · have hk2 : k < N := by
        rcases Nat.lt_or_ge k N with q | q
        · exact q
        · exact absurd (nI_le q (by omega)) c_48
      exact law_body hT hL hL4 hN hN4 hk2 s (fun I' F' nA nC n h o z s' => ih (k + 1) (by omega) hk2 I' F' nA nC n h o z s')

theorem isTW_fr {σ σ' : pT} {x : Nat} (h : isTW σ x) (hf : ∀ i, x ≤ i → i < x + 320 → σ'.2.1 i = σ.2.1 i ∧ σ'.2.2 i = σ.2.2 i) : isTW σ' x := by
  obtain ⟨a1, a2, a3, a4, a5, a6, b1, b2, b3, b4, b5⟩ := h
  have ex := hf x (by omega) (by omega)
  exact ⟨by rw [ex.1]; exact a1, by rw [ex.2]; exact a2, by rw [ex.2]; exact a3, by rw [ex.2]; exact a4, by rw [ex.2]; exact a5, by rw [ex.2]; exact a6, isPl_fr b1 (fun i h1 h2 => hf i (by omega) (by omega)), isPl_fr b2 (fun i h1 h2 => hf i (by omega) (by omega)), isPl_fr b3 (fun i h1 h2 => hf i (by omega) (by omega)), isHi_fr b4 (fun i h1 h2 => hf i (by omega) (by omega)), isOr_fr b5 (fun i h1 h2 => hf i (by omega) (by omega))⟩
/-- a new object -/
theorem St_0 {x : Nat} {I : pI} {F : pF} (h : twZ x I) : St x I F 0 0 0 0 0 0 := by
  obtain ⟨h1, ⟨p1, p2, p3⟩, ⟨-, -, q3⟩, ⟨-, -, r3⟩, ⟨s1, s2⟩, h6⟩ := h
  exact ⟨⟨⟨p1 4, by decide, p1 5, by decide, p1 6, by decide, p1 7, by decide⟩, fun t ht => absurd ht (Nat.not_lt_zero _), p3, fun a ha => absurd ha (Nat.not_lt_zero _), fun a ha => absurd ha (Nat.not_lt_zero _), fun a v ha => absurd ha (Nat.not_lt_zero _), fun c hc => absurd hc (Nat.not_lt_zero _)⟩, s1 1, by decide, s1 2, by decide, s2, r3⟩
/-- the pure world at the start: the script alone -/
abbrev σL (L : Nat) : pT := (0, fun q => if q = 0 then (99, L) else (0, 0), fun _ _ => none)
theorem fN_7 : fN 7 = 6 := rfl

set_option maxRecDepth 4000 in
theorem law_start {σ : pT} {I : pI} {F : pF} {x L : Nat} (hT : isTW σ x) (hL : (σ.2.1 0).2 = L) (hL4 : L ≤ 260) (s : St x I F 0 0 0 0 0 0) : PW cL_law mW lwZ 8 [.ref 0, .ref x, pJ, pJ, pJ, pJ, pJ, pJ, pJ, pJ, pJ, pJ, pJ] [] σ I F (0, 0) := by
  refine pw_aload_n dL_law_8 rfl rfl ?_
  refine pw_bipush (v := 10) dL_law_9 (by decide) ?_
  refine pw_bipush (v := 20) dL_law_11 (by decide) ?_
  refine pr_callV dL_law_13 oX_X7_addAsset lk_RL_35 (sp_x_addAsset hT (St_cOK s)) (tw_k hT) rfl rfl (Nat.le_of_ble_eq_true rfl) (by decide) (fun v I2 F2 hq => ?_)
  obtain ⟨hv, -, -, -, k5⟩ := act_st s ac_newAsset hq
  subst hv
  have t1 : ∃ nA nC n h o z, St x I2 F2 nA nC n h o z := by
    rcases k5 with ⟨-, s2, -⟩ | ⟨-, nA2, nC2, n2, h2, o2, z2, s2, -⟩
    · exact ⟨_, _, _, _, _, _, s2⟩
    · exact ⟨_, _, _, _, _, _, s2⟩
  obtain ⟨nA1, nC1, n1, h1, o1, z1, t1⟩ := t1
  refine pw_pop dL_law_16 ?_
  refine pw_aload_n dL_law_17 rfl rfl ?_
  refine pw_iconst (v := 3) dL_law_18 (by decide) ?_
  refine pw_bipush (v := 15) dL_law_19 (by decide) ?_
  refine pr_callV dL_law_21 oX_X7_addCrew lk_RL_69 (sp_x_addCrew hT (St_cOK t1)) (tw_k hT) rfl rfl (Nat.le_of_ble_eq_true rfl) (by decide) (fun v I3 F3 hq => ?_)
  obtain ⟨hv, -, -, -, k5⟩ := act_st t1 ac_newCrew hq
  subst hv
  have t2 : ∃ nA nC n h o z, St x I3 F3 nA nC n h o z := by
    rcases k5 with ⟨-, s2, -⟩ | ⟨-, nA2, nC2, n2, h2, o2, z2, s2, -⟩
    · exact ⟨_, _, _, _, _, _, s2⟩
    · exact ⟨_, _, _, _, _, _, s2⟩
  obtain ⟨nA2, nC2, n2, h2, o2, z2, t2⟩ := t2
  refine pw_pop dL_law_24 ?_
  refine pw_aload_n dL_law_25 rfl rfl ?_
  refine pw_slen dL_law_26 hL ?_
  refine pw_iconst (v := 3) dL_law_27 (by decide) ?_
  refine pw_idiv dL_law_28 (by decide) ?_
  rw [show (Int32.ofNat L / 3 : Int32) = nI (L / 3) from pk_div (d := 3) (by omega) (by decide) (by decide)]
  refine pw_bipush (v := 40) dL_law_29 (by decide) ?_
  refine pw_icmp_ge (tgt := 41) dL_law_31 (by decide) (fun c_31 => ?_) (fun c_31 => ?_)
  · have h40 : 40 ≤ L / 3 := by
      rcases Nat.lt_or_ge (L / 3) 40 with q | q
      · exact absurd c_31 (nI_ge (a := L / 3) (b := 40) q (by decide))
      · exact q
    refine pw_bipush (v := 40) dL_law_41 (by decide) ?_
    refine pw_istore_n dL_law_43 rfl (by decide) rfl ?_
    refine pw_iconst (v := 0) dL_law_44 (by decide) ?_
    refine pw_istore_n dL_law_45 rfl (by decide) rfl ?_
    exact law_loop hT hL hL4 (N := 40) (by omega) (by omega) 40 0 (by omega) (Nat.zero_le _) _ _ _ _ _ _ _ _ t2
  · have h40 : L / 3 < 40 := by
      rcases Nat.lt_or_ge (L / 3) 40 with q | q
      · exact q
      · exact absurd (nI_le (a := 40) q (by omega)) c_31
    refine pw_aload_n dL_law_34 rfl rfl ?_
    refine pw_slen dL_law_35 hL ?_
    refine pw_iconst (v := 3) dL_law_36 (by decide) ?_
    refine pw_idiv dL_law_37 (by decide) ?_
    rw [show (Int32.ofNat L / 3 : Int32) = nI (L / 3) from pk_div (d := 3) (by omega) (by decide) (by decide)]
    refine pw_goto (tgt := 43) dL_law_38 (by decide) ?_
    refine pw_istore_n dL_law_43 rfl (by decide) rfl ?_
    refine pw_iconst (v := 0) dL_law_44 (by decide) ?_
    refine pw_istore_n dL_law_45 rfl (by decide) rfl ?_
    exact law_loop hT hL hL4 (N := (L / 3)) (by omega) (by omega) (L / 3) 0 (by omega) (Nat.zero_le _) _ _ _ _ _ _ _ _ t2

set_option maxRecDepth 4000 in
theorem law_all {L : Nat} {I0 : pI} {F0 : pF} (hL4 : L ≤ 260) : PW cL_law mW lwZ 0 [.ref 0, pJ, pJ, pJ, pJ, pJ, pJ, pJ, pJ, pJ, pJ, pJ, pJ] [] (σL L) I0 F0 (600000, 7302250) := by
  have k0 : (σL L).2.1 0 = (99, L) := rfl
  have s0 : (σL L).1 = 0 := rfl
  generalize σL L = σ at k0 s0 ⊢
  refine pw_new (ci := 7) dL_law_0 (by decide) fd_RX7_10 cl_RL_14 in_RX7 ii_RX7 (by constructor <;> (try simp only [fN_7]) <;> (try dsimp only) <;> omega) ?_
  refine pw_dup dL_law_3 rfl ?_
  refine pw_callI dL_law_4 oX_X7_init lk_RL_118 (sp_i7 (x := σ.1 + 1) rfl (by show (upr σ.2.1 (σ.1 + 1) (7 + 1, 6) (σ.1 + 1)).1 = _; rw [upr_s]) (fun t => by show upr I0 (σ.1 + 1) (fun _ => 0) (σ.1 + 1) t = 0; rw [upr_s])) rfl rfl (Nat.le_of_ble_eq_true rfl) (by decide) (by constructor <;> (try simp only [fN_7]) <;> (try dsimp only) <;> omega) (fun v σ1 I1 F1 hq => ?_)
  obtain ⟨rfl, h1, he1, hT, hZ⟩ := hq
  refine pw_astore_n dL_law_7 rfl (by decide) rfl ?_
  have e1 : σ.1 + 1 = 1 := by omega
  have hL : (σ1.2.1 0).2 = L := by
    rw [(he1 0 (by omega)).1]
    show (upr σ.2.1 (σ.1 + 1) (7 + 1, fN 7) 0).2 = L
    rw [upr_n (by omega), k0]
  rw [e1] at hT hZ
  rw [e1]
  exact pw_mono (β' := (0, 0)) ⟨Nat.zero_le _, Nat.zero_le _⟩ (law_start hT hL hL4 (St_0 (F := F1) hZ))

theorem whole_start {p : Program} {e : Env} {s : State} {m : MethodId} {below : List Frame} {meth : Method} {c : Code} (l : Launch) (hflags : l.flags = flags0) {b L : Nat} {xs : Nat → Int32} (hL : L ≤ 260) (C0 : lw_At p s m meth c b L xs) : W p l e room_1 s m #[Value.ref b] below meth c s.heap [] 0 0 (lw_Z below #[Value.ref b] s) (entryFrame m ([Value.ref b] : List Value).toArray 13) := by
  obtain ⟨hx, hb, hr, hml, hown, hts, hX, hbl, hlocks, hgv⟩ := id C0
  obtain ⟨c0, i0, hKn0⟩ := u_known (C := RX0) (T := TX0) (N := 6) (n := 6) hts (fun w h => wsA_in w (iAX0 w h)) (hts _ (wsA_in _ in_RX0))
  obtain ⟨c1, i1, hKn1⟩ := u_known (C := RX1) (T := TX1) (N := 2) (n := 2) hts (fun w h => wsA_in w (iAX1 w h)) (hts _ (wsA_in _ in_RX1))
  obtain ⟨c2, i2, hKn2⟩ := u_known (C := RX2) (T := TX2) (N := 3) (n := 3) hts (fun w h => wsA_in w (iAX2 w h)) (hts _ (wsA_in _ in_RX2))
  obtain ⟨c3, i3, hKn3⟩ := u_known (C := RX3) (T := TX3) (N := 3) (n := 3) hts (fun w h => wsA_in w (iAX3 w h)) (hts _ (wsA_in _ in_RX3))
  obtain ⟨c4, i4, hKn4⟩ := u_known (C := RX4) (T := TX4) (N := 5) (n := 5) hts (fun w h => wsA_in w (iAX4 w h)) (hts _ (wsA_in _ in_RX4))
  obtain ⟨c5, i5, hKn5⟩ := u_known (C := RX5) (T := TX5) (N := 8) (n := 8) hts (fun w h => wsA_in w (iAX5 w h)) (hts _ (wsA_in _ in_RX5))
  obtain ⟨c6, i6, hKn6⟩ := u_known (C := RX6) (T := TX6) (N := 12) (n := 12) hts (fun w h => wsA_in w (iAX6 w h)) (hts _ (wsA_in _ in_RX6))
  obtain ⟨c7, i7, hKn7⟩ := u_known (C := RX7) (T := TX7) (N := 6) (n := 6) hts (fun w h => wsA_in w (iAX7 w h)) (hts _ (wsA_in _ in_RX7))
  obtain ⟨dC, dI, hKc⟩ : ∃ (dC : Nat → ClassId) (dI : Nat → Nat → Nat), ∀ (k : Nat) (q : vw_C), vwCl[k]? = some q → u_Kn s q.1 q.2.1 q.2.2 (dC k) (dI k) := by
    refine ⟨fun k => if k = 0 then c0 else if k = 1 then c1 else if k = 2 then c2 else if k = 3 then c3 else if k = 4 then c4 else if k = 5 then c5 else if k = 6 then c6 else c7, fun k => if k = 0 then i0 else if k = 1 then i1 else if k = 2 then i2 else if k = 3 then i3 else if k = 4 then i4 else if k = 5 then i5 else if k = 6 then i6 else i7, ?_⟩
    intro k q hq
    match k, hq with
    | 0, hq => cases hq; exact hKn0
    | 1, hq => cases hq; exact hKn1
    | 2, hq => cases hq; exact hKn2
    | 3, hq => cases hq; exact hKn3
    | 4, hq => cases hq; exact hKn4
    | 5, hq => cases hq; exact hKn5
    | 6, hq => cases hq; exact hKn6
    | 7, hq => cases hq; exact hKn7
    | k + 8, hq => simp [vwCl] at hq
  have hS : va_S (fun q : Nat => s.heap.size ≤ q) s.heap s.heap [] := va_S.rf
  have hK : va_K (dC, dI) vwCl [] s := ⟨hKc, fun k q h => by simp at h⟩
  have hP : va_P (dC, dI) vwCl [] s.heap := fun k q h => by simp at h
  have hD : va_D (fun q : Nat => s.heap.size ≤ q) [] := ⟨fun i j p q h => by simp at h, fun k q h => by simp at h⟩
  have hspW : spW s := ⟨fun q hq => va_Nw.of rfl (hts _ (spN_in q hq)), fun C hC => va_AO.of (hts _ (spA_in C hC))⟩
  refine W.base ?_
  rw [lg_entry_eq]
  have hsr : sr [b] [Value.ref 0] [Value.ref b] := ⟨_, _, rfl, ⟨b, rfl, rfl⟩, rfl⟩
  have hwr : wr (dC, dI) s.heap.size b ([b] ++ []) (σL L) (fun _ => xs) (fun _ _ => 0) s s.heap := ⟨[], [], rfl, rfl, hP, hK, hD, fun j a e h => by simp at h, fun j h => absurd rfl h, rfl, hbl, Nat.le_refl _, hX⟩
  have hlr := lr_entry (al := [b] ++ []) (as := [Value.ref 0]) (asM := [Value.ref b]) (nL := 13) (by rw [List.append_nil]; exact hsr) (fun v hv => by rw [List.mem_singleton.mp hv]; rfl) (by decide)
  intro T hT X
  obtain ⟨t, a1, b1⟩ := law_all (I0 := fun _ => xs) (F0 := fun _ _ => 0) hL p l e room_1 s m #[Value.ref b] below meth c (dC, dI) s.heap.size b [b] [] s.drawn s.heap [] 0 0 _ [] ⟨hx, hb, hr, fun w h => hts w (wsA_in w h), hown, hlocks, hml, rfl, rfl, Nat.le_refl _, hspW, fun h => by cases h⟩ (Drawn.sameBut.refl s.drawn lw_cs) hlr rfl hwr hS (Nat.le_of_ble_eq_true rfl) (Nat.le_of_ble_eq_true rfl) T hT X
  exact ⟨t, a1, b1 rfl rfl (Nat.le_refl _)⟩
