/-! THE LAW -/
abbrev mW : mB := (RL, 8, (some .boolean), 10, 362, false)
/-- the law's own end: where it began with the script at b, in its own room -/
def lwZ : pZ := fun _ base b _ below args s R t => args = #[Value.ref b] → R = room_1 → s.heap.size ≤ base → lw_Z below #[Value.ref b] s t
theorem pw_lret {pc : Nat} {ls : List Value} {σ : pT} {I : pI} {F : pF} {β : Nat × Nat} (hdg : decode code pc = .ok (.ireturn, 1)) : PW cL_law mW lwZ pc ls [.int 1] σ I F β := by
  intro p l e R s m args below meth c D base b al0 l0 d0 H locs cells slots lsM stM hc hd hls hs hw hS hk1 hk2
  obtain ⟨hx, hb, hr0, hts, hown, hlk, hml, hrf, hrl, hbs, hsp, -⟩ := id hc
  obtain ⟨v', tM, rfl, rfl, hst⟩ := hs
  rw [show tM = [] from hst]
  by_cases hh : (args = #[Value.ref b] ∧ R = room_1) ∧ s.heap.size ≤ base
  · obtain ⟨⟨rfl, rfl⟩, hsz⟩ := hh
    have e1 : room_1.cells = 600000 := rfl
    have e2 : room_1.slots = 7302250 := rfl
    refine va_forget (fun q hq => Nat.le_trans hsz (hS.2.2 q hq)) ?_
    refine W.widen (k := 600000) (n := 7302250) (by omega) (by omega) ?_
    intro T hT X
    obtain ⟨t, a1, b1⟩ := lw_ret (b := b) hd hx hb hr0 hlk hdg T hT X
    exact ⟨t, a1, fun _ _ _ => b1⟩
  · intro T hT X
    exact ⟨_, Steps.refl _, fun h1 h2 h3 => absurd ⟨⟨h1, h2⟩, h3⟩ hh⟩
theorem pw_weak {cc : ByteArray} {Y : mB} {Z : pZ} {pc : Nat} {ls ls' st : List Value} {σ : pT} {I : pI} {F : pF} {β : Nat × Nat} (hl : ls'.length = ls.length) (h : ∀ (k : Nat) (v : Value), ls'[k]? = some v → v = pJ ∨ ls[k]? = some v) (k : PW cc Y Z pc ls' st σ I F β) : PW cc Y Z pc ls st σ I F β := by
  intro p l e R s m args below meth c D base b al0 l0 d0 H locs cells slots lsM stM hc hd hls hs hw hS hk1 hk2
  refine k p l e R s m args below meth c D base b al0 l0 d0 H locs cells slots lsM stM hc hd ⟨hls.1, hls.2.1, hl.trans hls.2.2.1, fun j v hj => ?_⟩ hs hw hS hk1 hk2
  rcases h j v hj with h1 | h1
  · exact Or.inl h1
  · exact hls.2.2.2 j v h1
theorem weak8 {a b c d v4 v5 v6 v7 : Value} : ∀ (k : Nat) (v : Value), [a, b, c, d, pJ, pJ, pJ, pJ][k]? = some v → v = pJ ∨ [a, b, c, d, v4, v5, v6, v7][k]? = some v := by
  intro k v hk
  match k, hk with
  | 0, hk => exact Or.inr hk
  | 1, hk => exact Or.inr hk
  | 2, hk => exact Or.inr hk
  | 3, hk => exact Or.inr hk
  | 4, hk => cases hk; exact Or.inl rfl
  | 5, hk => cases hk; exact Or.inl rfl
  | 6, hk => cases hk; exact Or.inl rfl
  | 7, hk => cases hk; exact Or.inl rfl
  | k + 8, hk => simp at hk
theorem act_v {x o z : Nat} {I I1 : pI} {F F1 : pF} {R : pI → pF → Int32 × pI × pF} {v : Option Value} (h : actQ x o z I F R v I1 F1) : ∃ r, v = some (.int r) := by
  obtain ⟨Ia, Fa, hc, hv, hq⟩ := h
  exact ⟨_, hv⟩
theorem per_v {x l nA n o z : Nat} {I I1 : pI} {F F1 : pF} {v : Option Value} (h : perQ x l nA n o z I F v I1 F1) : ∃ r, v = some (.int r) := by
  rcases h with ⟨y, -, hv, -⟩ | ⟨-, I0, Ia, Fa, -, -, ⟨e, -, hv, -⟩ | ⟨-, hv, -⟩⟩
  · exact ⟨_, hv⟩
  · exact ⟨_, hv⟩
  · exact ⟨_, hv⟩
theorem app_far {I : pI} {F : pF} {q l i : Nat} {c : Int32} (h1 : i ≠ q) (h2 : i ≠ q + 1) : (appR I F q l c).2.1 i = I i := by
  unfold appR
  split
  · exact (up2_row h1).trans (up2_row h2)
  · rfl
theorem u16_id (u : UInt32) (h : u.toNat < 65536) : u.toUInt16.toUInt32 = u := by
  apply UInt32.toNat_inj.mp
  rw [UInt16.toNat_toUInt32, UInt32.toNat_toUInt16]
  exact Nat.mod_eq_of_lt h
theorem chr_lt (x : Int32) : (x.toUInt32 % 65536).toNat < 65536 := by
  rw [UInt32.toNat_mod]
  exact Nat.mod_lt _ (by decide)
theorem chr_nar (x : Int32) : narrow .char (.int (x.toUInt32 % 65536).toInt32) = .int (x.toUInt32 % 65536).toInt32 := by
  show Value.int ((x.toUInt32 % 65536).toUInt16.toUInt32).toInt32 = _
  rw [u16_id _ (chr_lt x)]
theorem chr_fits (x : Int32) : fits .char (.int (x.toUInt32 % 65536).toInt32) = true := by
  have h := chr_lt x
  generalize x.toUInt32 % 65536 = u at h
  have e : u.toInt32.toInt = (u.toNat : Int) := by
    show u.toBitVec.toInt = (u.toBitVec.toNat : Int)
    exact BitVec.toInt_eq_toNat_of_lt (by show 2 * u.toNat < 2 ^ 32; omega)
  show (decide (0 ≤ u.toInt32) && decide (u.toInt32 ≤ 65535)) = true
  rw [decide_eq_true (Int32.le_iff_toInt_le.mpr (by rw [e]; show (0 : Int) ≤ _; omega)), decide_eq_true (Int32.le_iff_toInt_le.mpr (by rw [e]; show _ ≤ (65535 : Int); omega))]
  rfl
theorem chr_all (x : Int32) : chr ((x.toUInt32 % 65536).toInt32) := ⟨chr_nar x, chr_fits x⟩
theorem chr_vp (x : Int32) : vp_nar .char ((x.toUInt32 % 65536).toInt32) = (x.toUInt32 % 65536).toInt32 := by
  unfold vp_nar
  rw [chr_nar x]

theorem law_addAsset {σ : pT} {x m L i nA nC n o z l : Nat} {I : pI} {F : pF} (hT : isTW σ x) (hMo : isMo σ m) (hL : (σ.2.1 0).2 = L) (hL4 : L ≤ 3584) (hx : 1 ≤ x) (hm : x + 320 ≤ m) (hi : i + 7 ≤ L) (h : InvP x m nA nC n o z l I F) (K : ∀ (I' : pI) (F' : pF), Inv x m I' F' → PW cL_law mW lwZ 1023 [.ref 0, .ref x, .ref m, .int (nI i), pJ, pJ, pJ, pJ] [] σ I' F' (0, 0)) : PW cL_law mW lwZ 156 [.ref 0, .ref x, .ref m, .int (nI i), pJ, pJ, pJ, pJ] [] σ I F (0, 0) := by
  have hk := InvP_cOK h
  have hpk := Rep_pOK h.1.1
  obtain ⟨pA, pA8, pC, pC5, pn, pn4, pW, pKd, pb⟩ := id hpk
  obtain ⟨-, -, -, -, -, -, -, -, -, ho, ho4, hz, hz4⟩ := id hk
  have hl1 := h.2.2.2.2.1.1
  have hl6 := h.2.2.2.2.1.2.2.1
  refine pw_aload_n dL_law_156 rfl rfl ?_
  refine pw_aload_n dL_law_157 rfl rfl ?_
  refine pw_iload_n dL_law_158 rfl rfl ?_
  refine pw_iconst (v := 1) dL_law_159 (by decide) ?_
  refine pw_iadd dL_law_160 ?_
  rw [show (nI i + 1 : Int32) = nI (i + 1) from nI_add _ _]
  refine pw_saldN (j := (i + 1)) dL_law_161 hL (by omega) (by omega) ?_
  refine pw_aload_n dL_law_162 rfl rfl ?_
  refine pw_iload_n dL_law_163 rfl rfl ?_
  refine pw_iconst (v := 2) dL_law_164 (by decide) ?_
  refine pw_iadd dL_law_165 ?_
  rw [show (nI i + 2 : Int32) = nI (i + 2) from nI_add _ _]
  refine pw_saldN (j := (i + 2)) dL_law_166 hL (by omega) (by omega) ?_
  refine pr_callV dL_law_167 oX_X7_addAsset lk_RL_13 (sp_x_addAsset (nA := nA) (nC := nC) (n := n) hT hk) (tw_k hT) rfl rfl (Nat.le_of_ble_eq_true rfl) (by decide) (fun v I1 F1 hc => ?_)
  obtain ⟨r, rfl⟩ := act_v hc
  have hm1 := act_mid hc (lcs_addAsset hk)
  have e0 : I1 0 = I 0 := (hm1 0 (by omega)).1
  obtain ⟨n6, z4, n9, l6, em1, eh, eo, fA, fA8, fC, fC5, fn, fn4, fW, fKd, fG⟩ := inv_now hm h hm1
  refine pw_aload_n dL_law_170 rfl rfl ?_
  refine pw_aload_n dL_law_171 rfl rfl ?_
  refine pw_iload_n dL_law_172 rfl rfl ?_
  refine pw_iconst (v := 1) dL_law_173 (by decide) ?_
  refine pw_iadd dL_law_174 ?_
  rw [show (nI i + 1 : Int32) = nI (i + 1) from nI_add _ _]
  refine pw_saldN (j := (i + 1)) dL_law_175 hL (by omega) (by omega) ?_
  rw [e0]
  refine pw_aload_n dL_law_176 rfl rfl ?_
  refine pw_iload_n dL_law_177 rfl rfl ?_
  refine pw_iconst (v := 2) dL_law_178 (by decide) ?_
  refine pw_iadd dL_law_179 ?_
  rw [show (nI i + 2 : Int32) = nI (i + 2) from nI_add _ _]
  refine pw_saldN (j := (i + 2)) dL_law_180 hL (by omega) (by omega) ?_
  rw [e0]
  refine pr_callV dL_law_181 oX_X8_addAsset lk_RL_17 (sp_m_addAsset (nA := nA) (nC := nC) (n := n) hMo n6 z4 fA fA8) (mo_k hMo) rfl rfl (Nat.le_of_ble_eq_true rfl) (by decide) (fun v' I2 F2 hq => ?_)
  obtain ⟨hv, hinv⟩ := st_addAsset hm h hc hq
  subst hv
  refine pw_icmp_eq (tgt := 1023) dL_law_184 (by decide) (fun c_184 => ?_) (fun c_184 => absurd rfl c_184)
  exact K _ _ hinv

theorem law_link {σ : pT} {x m L i nA nC n o z l : Nat} {I : pI} {F : pF} (hT : isTW σ x) (hMo : isMo σ m) (hL : (σ.2.1 0).2 = L) (hL4 : L ≤ 3584) (hx : 1 ≤ x) (hm : x + 320 ≤ m) (hi : i + 7 ≤ L) (h : InvP x m nA nC n o z l I F) (K : ∀ (I' : pI) (F' : pF), Inv x m I' F' → PW cL_law mW lwZ 1023 [.ref 0, .ref x, .ref m, .int (nI i), pJ, pJ, pJ, pJ] [] σ I' F' (0, 0)) : PW cL_law mW lwZ 189 [.ref 0, .ref x, .ref m, .int (nI i), pJ, pJ, pJ, pJ] [] σ I F (0, 0) := by
  have hk := InvP_cOK h
  have hpk := Rep_pOK h.1.1
  obtain ⟨pA, pA8, pC, pC5, pn, pn4, pW, pKd, pb⟩ := id hpk
  obtain ⟨-, -, -, -, -, -, -, -, -, ho, ho4, hz, hz4⟩ := id hk
  have hl1 := h.2.2.2.2.1.1
  have hl6 := h.2.2.2.2.1.2.2.1
  refine pw_aload_n dL_law_189 rfl rfl ?_
  refine pw_aload_n dL_law_190 rfl rfl ?_
  refine pw_iload_n dL_law_191 rfl rfl ?_
  refine pw_iconst (v := 1) dL_law_192 (by decide) ?_
  refine pw_iadd dL_law_193 ?_
  rw [show (nI i + 1 : Int32) = nI (i + 1) from nI_add _ _]
  refine pw_saldN (j := (i + 1)) dL_law_194 hL (by omega) (by omega) ?_
  refine pw_aload_n dL_law_195 rfl rfl ?_
  refine pw_iload_n dL_law_196 rfl rfl ?_
  refine pw_iconst (v := 2) dL_law_197 (by decide) ?_
  refine pw_iadd dL_law_198 ?_
  rw [show (nI i + 2 : Int32) = nI (i + 2) from nI_add _ _]
  refine pw_saldN (j := (i + 2)) dL_law_199 hL (by omega) (by omega) ?_
  refine pw_aload_n dL_law_200 rfl rfl ?_
  refine pw_iload_n dL_law_201 rfl rfl ?_
  refine pw_iconst (v := 3) dL_law_202 (by decide) ?_
  refine pw_iadd dL_law_203 ?_
  rw [show (nI i + 3 : Int32) = nI (i + 3) from nI_add _ _]
  refine pw_saldN (j := (i + 3)) dL_law_204 hL (by omega) (by omega) ?_
  refine pw_if_eq (tgt := 212) dL_law_205 (by decide) (fun c_205 => ?_) (fun c_205 => ?_)
  · refine pw_iconst (v := 0) dL_law_212 (by decide) ?_
    refine pr_callV dL_law_213 oX_X7_link lk_RL_18 (sp_x_link (nA := nA) (nC := nC) (n := n) hT hk) (tw_k hT) rfl rfl (Nat.le_of_ble_eq_true rfl) (by decide) (fun v I1 F1 hc => ?_)
    obtain ⟨r, rfl⟩ := act_v hc
    have hm1 := act_mid hc (lcs_link hk)
    have e0 : I1 0 = I 0 := (hm1 0 (by omega)).1
    obtain ⟨n6, z4, n9, l6, em1, eh, eo, fA, fA8, fC, fC5, fn, fn4, fW, fKd, fG⟩ := inv_now hm h hm1
    refine pw_aload_n dL_law_216 rfl rfl ?_
    refine pw_aload_n dL_law_217 rfl rfl ?_
    refine pw_iload_n dL_law_218 rfl rfl ?_
    refine pw_iconst (v := 1) dL_law_219 (by decide) ?_
    refine pw_iadd dL_law_220 ?_
    rw [show (nI i + 1 : Int32) = nI (i + 1) from nI_add _ _]
    refine pw_saldN (j := (i + 1)) dL_law_221 hL (by omega) (by omega) ?_
    rw [e0]
    refine pw_aload_n dL_law_222 rfl rfl ?_
    refine pw_iload_n dL_law_223 rfl rfl ?_
    refine pw_iconst (v := 2) dL_law_224 (by decide) ?_
    refine pw_iadd dL_law_225 ?_
    rw [show (nI i + 2 : Int32) = nI (i + 2) from nI_add _ _]
    refine pw_saldN (j := (i + 2)) dL_law_226 hL (by omega) (by omega) ?_
    rw [e0]
    refine pw_aload_n dL_law_227 rfl rfl ?_
    refine pw_iload_n dL_law_228 rfl rfl ?_
    refine pw_iconst (v := 3) dL_law_229 (by decide) ?_
    refine pw_iadd dL_law_230 ?_
    rw [show (nI i + 3 : Int32) = nI (i + 3) from nI_add _ _]
    refine pw_saldN (j := (i + 3)) dL_law_231 hL (by omega) (by omega) ?_
    rw [e0]
    refine pw_if_eq (tgt := 239) dL_law_232 (by decide) (fun c_232 => ?_) (fun c_232 => absurd c_205 c_232)
    refine pw_iconst (v := 0) dL_law_239 (by decide) ?_
    refine pr_callV dL_law_240 oX_X8_link lk_RL_22 (sp_m_link (nA := nA) (nC := nC) (n := n) hMo n6 z4 fA fA8) (mo_k hMo) rfl rfl (Nat.le_of_ble_eq_true rfl) (by decide) (fun v' I2 F2 hq => ?_)
    obtain ⟨hv, hinv⟩ := st_link hm h (by decide) hc hq
    subst hv
    refine pw_icmp_eq (tgt := 1023) dL_law_243 (by decide) (fun c_243 => ?_) (fun c_243 => absurd rfl c_243)
    exact K _ _ hinv
  · refine pw_iconst (v := 1) dL_law_208 (by decide) ?_
    refine pw_goto (tgt := 213) dL_law_209 (by decide) ?_
    refine pr_callV dL_law_213 oX_X7_link lk_RL_18 (sp_x_link (nA := nA) (nC := nC) (n := n) hT hk) (tw_k hT) rfl rfl (Nat.le_of_ble_eq_true rfl) (by decide) (fun v I1 F1 hc => ?_)
    obtain ⟨r, rfl⟩ := act_v hc
    have hm1 := act_mid hc (lcs_link hk)
    have e0 : I1 0 = I 0 := (hm1 0 (by omega)).1
    obtain ⟨n6, z4, n9, l6, em1, eh, eo, fA, fA8, fC, fC5, fn, fn4, fW, fKd, fG⟩ := inv_now hm h hm1
    refine pw_aload_n dL_law_216 rfl rfl ?_
    refine pw_aload_n dL_law_217 rfl rfl ?_
    refine pw_iload_n dL_law_218 rfl rfl ?_
    refine pw_iconst (v := 1) dL_law_219 (by decide) ?_
    refine pw_iadd dL_law_220 ?_
    rw [show (nI i + 1 : Int32) = nI (i + 1) from nI_add _ _]
    refine pw_saldN (j := (i + 1)) dL_law_221 hL (by omega) (by omega) ?_
    rw [e0]
    refine pw_aload_n dL_law_222 rfl rfl ?_
    refine pw_iload_n dL_law_223 rfl rfl ?_
    refine pw_iconst (v := 2) dL_law_224 (by decide) ?_
    refine pw_iadd dL_law_225 ?_
    rw [show (nI i + 2 : Int32) = nI (i + 2) from nI_add _ _]
    refine pw_saldN (j := (i + 2)) dL_law_226 hL (by omega) (by omega) ?_
    rw [e0]
    refine pw_aload_n dL_law_227 rfl rfl ?_
    refine pw_iload_n dL_law_228 rfl rfl ?_
    refine pw_iconst (v := 3) dL_law_229 (by decide) ?_
    refine pw_iadd dL_law_230 ?_
    rw [show (nI i + 3 : Int32) = nI (i + 3) from nI_add _ _]
    refine pw_saldN (j := (i + 3)) dL_law_231 hL (by omega) (by omega) ?_
    rw [e0]
    refine pw_if_eq (tgt := 239) dL_law_232 (by decide) (fun c_232 => absurd c_232 c_205) (fun c_232 => ?_)
    refine pw_iconst (v := 1) dL_law_235 (by decide) ?_
    refine pw_goto (tgt := 240) dL_law_236 (by decide) ?_
    refine pr_callV dL_law_240 oX_X8_link lk_RL_22 (sp_m_link (nA := nA) (nC := nC) (n := n) hMo n6 z4 fA fA8) (mo_k hMo) rfl rfl (Nat.le_of_ble_eq_true rfl) (by decide) (fun v' I2 F2 hq => ?_)
    obtain ⟨hv, hinv⟩ := st_link hm h (by decide) hc hq
    subst hv
    refine pw_icmp_eq (tgt := 1023) dL_law_243 (by decide) (fun c_243 => ?_) (fun c_243 => absurd rfl c_243)
    exact K _ _ hinv

theorem law_bar {σ : pT} {x m L i nA nC n o z l : Nat} {I : pI} {F : pF} (hT : isTW σ x) (hMo : isMo σ m) (hL : (σ.2.1 0).2 = L) (hL4 : L ≤ 3584) (hx : 1 ≤ x) (hm : x + 320 ≤ m) (hi : i + 7 ≤ L) (h : InvP x m nA nC n o z l I F) (K : ∀ (I' : pI) (F' : pF), Inv x m I' F' → PW cL_law mW lwZ 1023 [.ref 0, .ref x, .ref m, .int (nI i), pJ, pJ, pJ, pJ] [] σ I' F' (0, 0)) : PW cL_law mW lwZ 248 [.ref 0, .ref x, .ref m, .int (nI i), pJ, pJ, pJ, pJ] [] σ I F (0, 0) := by
  have hk := InvP_cOK h
  have hpk := Rep_pOK h.1.1
  obtain ⟨pA, pA8, pC, pC5, pn, pn4, pW, pKd, pb⟩ := id hpk
  obtain ⟨-, -, -, -, -, -, -, -, -, ho, ho4, hz, hz4⟩ := id hk
  have hl1 := h.2.2.2.2.1.1
  have hl6 := h.2.2.2.2.1.2.2.1
  refine pw_aload_n dL_law_248 rfl rfl ?_
  refine pw_aload_n dL_law_249 rfl rfl ?_
  refine pw_iload_n dL_law_250 rfl rfl ?_
  refine pw_iconst (v := 1) dL_law_251 (by decide) ?_
  refine pw_iadd dL_law_252 ?_
  rw [show (nI i + 1 : Int32) = nI (i + 1) from nI_add _ _]
  refine pw_saldN (j := (i + 1)) dL_law_253 hL (by omega) (by omega) ?_
  refine pw_aload_n dL_law_254 rfl rfl ?_
  refine pw_iload_n dL_law_255 rfl rfl ?_
  refine pw_iconst (v := 2) dL_law_256 (by decide) ?_
  refine pw_iadd dL_law_257 ?_
  rw [show (nI i + 2 : Int32) = nI (i + 2) from nI_add _ _]
  refine pw_saldN (j := (i + 2)) dL_law_258 hL (by omega) (by omega) ?_
  refine pw_aload_n dL_law_259 rfl rfl ?_
  refine pw_iload_n dL_law_260 rfl rfl ?_
  refine pw_iconst (v := 3) dL_law_261 (by decide) ?_
  refine pw_iadd dL_law_262 ?_
  rw [show (nI i + 3 : Int32) = nI (i + 3) from nI_add _ _]
  refine pw_saldN (j := (i + 3)) dL_law_263 hL (by omega) (by omega) ?_
  refine pw_if_eq (tgt := 271) dL_law_264 (by decide) (fun c_264 => ?_) (fun c_264 => ?_)
  · refine pw_iconst (v := 0) dL_law_271 (by decide) ?_
    refine pr_callV dL_law_272 oX_X7_bar lk_RL_23 (sp_x_bar (nA := nA) (nC := nC) (n := n) hT hk) (tw_k hT) rfl rfl (Nat.le_of_ble_eq_true rfl) (by decide) (fun v I1 F1 hc => ?_)
    obtain ⟨r, rfl⟩ := act_v hc
    have hm1 := act_mid hc (lcs_bar hk)
    have e0 : I1 0 = I 0 := (hm1 0 (by omega)).1
    obtain ⟨n6, z4, n9, l6, em1, eh, eo, fA, fA8, fC, fC5, fn, fn4, fW, fKd, fG⟩ := inv_now hm h hm1
    refine pw_aload_n dL_law_275 rfl rfl ?_
    refine pw_aload_n dL_law_276 rfl rfl ?_
    refine pw_iload_n dL_law_277 rfl rfl ?_
    refine pw_iconst (v := 1) dL_law_278 (by decide) ?_
    refine pw_iadd dL_law_279 ?_
    rw [show (nI i + 1 : Int32) = nI (i + 1) from nI_add _ _]
    refine pw_saldN (j := (i + 1)) dL_law_280 hL (by omega) (by omega) ?_
    rw [e0]
    refine pw_aload_n dL_law_281 rfl rfl ?_
    refine pw_iload_n dL_law_282 rfl rfl ?_
    refine pw_iconst (v := 2) dL_law_283 (by decide) ?_
    refine pw_iadd dL_law_284 ?_
    rw [show (nI i + 2 : Int32) = nI (i + 2) from nI_add _ _]
    refine pw_saldN (j := (i + 2)) dL_law_285 hL (by omega) (by omega) ?_
    rw [e0]
    refine pw_aload_n dL_law_286 rfl rfl ?_
    refine pw_iload_n dL_law_287 rfl rfl ?_
    refine pw_iconst (v := 3) dL_law_288 (by decide) ?_
    refine pw_iadd dL_law_289 ?_
    rw [show (nI i + 3 : Int32) = nI (i + 3) from nI_add _ _]
    refine pw_saldN (j := (i + 3)) dL_law_290 hL (by omega) (by omega) ?_
    rw [e0]
    refine pw_if_eq (tgt := 298) dL_law_291 (by decide) (fun c_291 => ?_) (fun c_291 => absurd c_264 c_291)
    refine pw_iconst (v := 0) dL_law_298 (by decide) ?_
    refine pr_callV dL_law_299 oX_X8_bar lk_RL_26 (sp_m_bar (nA := nA) (nC := nC) (n := n) hMo n6 z4) (mo_k hMo) rfl rfl (Nat.le_of_ble_eq_true rfl) (by decide) (fun v' I2 F2 hq => ?_)
    obtain ⟨hv, hinv⟩ := st_bar hm h hc hq
    subst hv
    refine pw_icmp_eq (tgt := 1023) dL_law_302 (by decide) (fun c_302 => ?_) (fun c_302 => absurd rfl c_302)
    exact K _ _ hinv
  · refine pw_iconst (v := 1) dL_law_267 (by decide) ?_
    refine pw_goto (tgt := 272) dL_law_268 (by decide) ?_
    refine pr_callV dL_law_272 oX_X7_bar lk_RL_23 (sp_x_bar (nA := nA) (nC := nC) (n := n) hT hk) (tw_k hT) rfl rfl (Nat.le_of_ble_eq_true rfl) (by decide) (fun v I1 F1 hc => ?_)
    obtain ⟨r, rfl⟩ := act_v hc
    have hm1 := act_mid hc (lcs_bar hk)
    have e0 : I1 0 = I 0 := (hm1 0 (by omega)).1
    obtain ⟨n6, z4, n9, l6, em1, eh, eo, fA, fA8, fC, fC5, fn, fn4, fW, fKd, fG⟩ := inv_now hm h hm1
    refine pw_aload_n dL_law_275 rfl rfl ?_
    refine pw_aload_n dL_law_276 rfl rfl ?_
    refine pw_iload_n dL_law_277 rfl rfl ?_
    refine pw_iconst (v := 1) dL_law_278 (by decide) ?_
    refine pw_iadd dL_law_279 ?_
    rw [show (nI i + 1 : Int32) = nI (i + 1) from nI_add _ _]
    refine pw_saldN (j := (i + 1)) dL_law_280 hL (by omega) (by omega) ?_
    rw [e0]
    refine pw_aload_n dL_law_281 rfl rfl ?_
    refine pw_iload_n dL_law_282 rfl rfl ?_
    refine pw_iconst (v := 2) dL_law_283 (by decide) ?_
    refine pw_iadd dL_law_284 ?_
    rw [show (nI i + 2 : Int32) = nI (i + 2) from nI_add _ _]
    refine pw_saldN (j := (i + 2)) dL_law_285 hL (by omega) (by omega) ?_
    rw [e0]
    refine pw_aload_n dL_law_286 rfl rfl ?_
    refine pw_iload_n dL_law_287 rfl rfl ?_
    refine pw_iconst (v := 3) dL_law_288 (by decide) ?_
    refine pw_iadd dL_law_289 ?_
    rw [show (nI i + 3 : Int32) = nI (i + 3) from nI_add _ _]
    refine pw_saldN (j := (i + 3)) dL_law_290 hL (by omega) (by omega) ?_
    rw [e0]
    refine pw_if_eq (tgt := 298) dL_law_291 (by decide) (fun c_291 => absurd c_291 c_264) (fun c_291 => ?_)
    refine pw_iconst (v := 1) dL_law_294 (by decide) ?_
    refine pw_goto (tgt := 299) dL_law_295 (by decide) ?_
    refine pr_callV dL_law_299 oX_X8_bar lk_RL_26 (sp_m_bar (nA := nA) (nC := nC) (n := n) hMo n6 z4) (mo_k hMo) rfl rfl (Nat.le_of_ble_eq_true rfl) (by decide) (fun v' I2 F2 hq => ?_)
    obtain ⟨hv, hinv⟩ := st_bar hm h hc hq
    subst hv
    refine pw_icmp_eq (tgt := 1023) dL_law_302 (by decide) (fun c_302 => ?_) (fun c_302 => absurd rfl c_302)
    exact K _ _ hinv

theorem law_addCrew {σ : pT} {x m L i nA nC n o z l : Nat} {I : pI} {F : pF} (hT : isTW σ x) (hMo : isMo σ m) (hL : (σ.2.1 0).2 = L) (hL4 : L ≤ 3584) (hx : 1 ≤ x) (hm : x + 320 ≤ m) (hi : i + 7 ≤ L) (h : InvP x m nA nC n o z l I F) (K : ∀ (I' : pI) (F' : pF), Inv x m I' F' → PW cL_law mW lwZ 1023 [.ref 0, .ref x, .ref m, .int (nI i), pJ, pJ, pJ, pJ] [] σ I' F' (0, 0)) : PW cL_law mW lwZ 307 [.ref 0, .ref x, .ref m, .int (nI i), pJ, pJ, pJ, pJ] [] σ I F (0, 0) := by
  have hk := InvP_cOK h
  have hpk := Rep_pOK h.1.1
  obtain ⟨pA, pA8, pC, pC5, pn, pn4, pW, pKd, pb⟩ := id hpk
  obtain ⟨-, -, -, -, -, -, -, -, -, ho, ho4, hz, hz4⟩ := id hk
  have hl1 := h.2.2.2.2.1.1
  have hl6 := h.2.2.2.2.1.2.2.1
  refine pw_aload_n dL_law_307 rfl rfl ?_
  refine pw_aload_n dL_law_308 rfl rfl ?_
  refine pw_iload_n dL_law_309 rfl rfl ?_
  refine pw_iconst (v := 1) dL_law_310 (by decide) ?_
  refine pw_iadd dL_law_311 ?_
  rw [show (nI i + 1 : Int32) = nI (i + 1) from nI_add _ _]
  refine pw_saldN (j := (i + 1)) dL_law_312 hL (by omega) (by omega) ?_
  refine pw_aload_n dL_law_313 rfl rfl ?_
  refine pw_iload_n dL_law_314 rfl rfl ?_
  refine pw_iconst (v := 2) dL_law_315 (by decide) ?_
  refine pw_iadd dL_law_316 ?_
  rw [show (nI i + 2 : Int32) = nI (i + 2) from nI_add _ _]
  refine pw_saldN (j := (i + 2)) dL_law_317 hL (by omega) (by omega) ?_
  refine pr_callV dL_law_318 oX_X7_addCrew lk_RL_27 (sp_x_addCrew (nA := nA) (nC := nC) (n := n) hT hk) (tw_k hT) rfl rfl (Nat.le_of_ble_eq_true rfl) (by decide) (fun v I1 F1 hc => ?_)
  obtain ⟨r, rfl⟩ := act_v hc
  have hm1 := act_mid hc (lcs_addCrew hk)
  have e0 : I1 0 = I 0 := (hm1 0 (by omega)).1
  obtain ⟨n6, z4, n9, l6, em1, eh, eo, fA, fA8, fC, fC5, fn, fn4, fW, fKd, fG⟩ := inv_now hm h hm1
  refine pw_aload_n dL_law_321 rfl rfl ?_
  refine pw_aload_n dL_law_322 rfl rfl ?_
  refine pw_iload_n dL_law_323 rfl rfl ?_
  refine pw_iconst (v := 1) dL_law_324 (by decide) ?_
  refine pw_iadd dL_law_325 ?_
  rw [show (nI i + 1 : Int32) = nI (i + 1) from nI_add _ _]
  refine pw_saldN (j := (i + 1)) dL_law_326 hL (by omega) (by omega) ?_
  rw [e0]
  refine pw_aload_n dL_law_327 rfl rfl ?_
  refine pw_iload_n dL_law_328 rfl rfl ?_
  refine pw_iconst (v := 2) dL_law_329 (by decide) ?_
  refine pw_iadd dL_law_330 ?_
  rw [show (nI i + 2 : Int32) = nI (i + 2) from nI_add _ _]
  refine pw_saldN (j := (i + 2)) dL_law_331 hL (by omega) (by omega) ?_
  rw [e0]
  refine pr_callV dL_law_332 oX_X8_addCrew lk_RL_30 (sp_m_addCrew (nA := nA) (nC := nC) (n := n) hMo n6 z4 fC fC5) (mo_k hMo) rfl rfl (Nat.le_of_ble_eq_true rfl) (by decide) (fun v' I2 F2 hq => ?_)
  obtain ⟨hv, hinv⟩ := st_addCrew hm h hc hq
  subst hv
  refine pw_icmp_eq (tgt := 1023) dL_law_335 (by decide) (fun c_335 => ?_) (fun c_335 => absurd rfl c_335)
  exact K _ _ hinv

theorem law_addTask {σ : pT} {x m L i nA nC n o z l : Nat} {I : pI} {F : pF} (hT : isTW σ x) (hMo : isMo σ m) (hL : (σ.2.1 0).2 = L) (hL4 : L ≤ 3584) (hx : 1 ≤ x) (hm : x + 320 ≤ m) (hi : i + 7 ≤ L) (h : InvP x m nA nC n o z l I F) (K : ∀ (I' : pI) (F' : pF), Inv x m I' F' → PW cL_law mW lwZ 1023 [.ref 0, .ref x, .ref m, .int (nI i), pJ, pJ, pJ, pJ] [] σ I' F' (0, 0)) : PW cL_law mW lwZ 340 [.ref 0, .ref x, .ref m, .int (nI i), pJ, pJ, pJ, pJ] [] σ I F (0, 0) := by
  have hk := InvP_cOK h
  have hpk := Rep_pOK h.1.1
  obtain ⟨pA, pA8, pC, pC5, pn, pn4, pW, pKd, pb⟩ := id hpk
  obtain ⟨-, -, -, -, -, -, -, -, -, ho, ho4, hz, hz4⟩ := id hk
  have hl1 := h.2.2.2.2.1.1
  have hl6 := h.2.2.2.2.1.2.2.1
  refine pw_aload_n dL_law_340 rfl rfl ?_
  refine pw_aload_n dL_law_341 rfl rfl ?_
  refine pw_iload_n dL_law_342 rfl rfl ?_
  refine pw_iconst (v := 1) dL_law_343 (by decide) ?_
  refine pw_iadd dL_law_344 ?_
  rw [show (nI i + 1 : Int32) = nI (i + 1) from nI_add _ _]
  refine pw_saldN (j := (i + 1)) dL_law_345 hL (by omega) (by omega) ?_
  refine pw_aload_n dL_law_346 rfl rfl ?_
  refine pw_iload_n dL_law_347 rfl rfl ?_
  refine pw_iconst (v := 2) dL_law_348 (by decide) ?_
  refine pw_iadd dL_law_349 ?_
  rw [show (nI i + 2 : Int32) = nI (i + 2) from nI_add _ _]
  refine pw_saldN (j := (i + 2)) dL_law_350 hL (by omega) (by omega) ?_
  refine pw_aload_n dL_law_351 rfl rfl ?_
  refine pw_iload_n dL_law_352 rfl rfl ?_
  refine pw_iconst (v := 3) dL_law_353 (by decide) ?_
  refine pw_iadd dL_law_354 ?_
  rw [show (nI i + 3 : Int32) = nI (i + 3) from nI_add _ _]
  refine pw_saldN (j := (i + 3)) dL_law_355 hL (by omega) (by omega) ?_
  refine pw_aload_n dL_law_356 rfl rfl ?_
  refine pw_iload_n dL_law_357 rfl rfl ?_
  refine pw_iconst (v := 4) dL_law_358 (by decide) ?_
  refine pw_iadd dL_law_359 ?_
  rw [show (nI i + 4 : Int32) = nI (i + 4) from nI_add _ _]
  refine pw_saldN (j := (i + 4)) dL_law_360 hL (by omega) (by omega) ?_
  refine pw_aload_n dL_law_361 rfl rfl ?_
  refine pw_iload_n dL_law_362 rfl rfl ?_
  refine pw_iconst (v := 5) dL_law_363 (by decide) ?_
  refine pw_iadd dL_law_364 ?_
  rw [show (nI i + 5 : Int32) = nI (i + 5) from nI_add _ _]
  refine pw_saldN (j := (i + 5)) dL_law_365 hL (by omega) (by omega) ?_
  refine pw_aload_n dL_law_366 rfl rfl ?_
  refine pw_iload_n dL_law_367 rfl rfl ?_
  refine pw_bipush (v := 6) dL_law_368 (by decide) ?_
  refine pw_iadd dL_law_370 ?_
  rw [show (nI i + 6 : Int32) = nI (i + 6) from nI_add _ _]
  refine pw_saldN (j := (i + 6)) dL_law_371 hL (by omega) (by omega) ?_
  refine pr_callV dL_law_372 oX_X7_addTask lk_RL_31 (sp_x_addTask (nA := nA) (nC := nC) (n := n) hT hk) (tw_k hT) rfl rfl (Nat.le_of_ble_eq_true rfl) (by decide) (fun v I1 F1 hc => ?_)
  obtain ⟨r, rfl⟩ := act_v hc
  have hm1 := act_mid hc (lcs_addTask hk)
  have e0 : I1 0 = I 0 := (hm1 0 (by omega)).1
  obtain ⟨n6, z4, n9, l6, em1, eh, eo, fA, fA8, fC, fC5, fn, fn4, fW, fKd, fG⟩ := inv_now hm h hm1
  refine pw_aload_n dL_law_375 rfl rfl ?_
  refine pw_aload_n dL_law_376 rfl rfl ?_
  refine pw_iload_n dL_law_377 rfl rfl ?_
  refine pw_iconst (v := 1) dL_law_378 (by decide) ?_
  refine pw_iadd dL_law_379 ?_
  rw [show (nI i + 1 : Int32) = nI (i + 1) from nI_add _ _]
  refine pw_saldN (j := (i + 1)) dL_law_380 hL (by omega) (by omega) ?_
  rw [e0]
  refine pw_aload_n dL_law_381 rfl rfl ?_
  refine pw_iload_n dL_law_382 rfl rfl ?_
  refine pw_iconst (v := 2) dL_law_383 (by decide) ?_
  refine pw_iadd dL_law_384 ?_
  rw [show (nI i + 2 : Int32) = nI (i + 2) from nI_add _ _]
  refine pw_saldN (j := (i + 2)) dL_law_385 hL (by omega) (by omega) ?_
  rw [e0]
  refine pw_aload_n dL_law_386 rfl rfl ?_
  refine pw_iload_n dL_law_387 rfl rfl ?_
  refine pw_iconst (v := 3) dL_law_388 (by decide) ?_
  refine pw_iadd dL_law_389 ?_
  rw [show (nI i + 3 : Int32) = nI (i + 3) from nI_add _ _]
  refine pw_saldN (j := (i + 3)) dL_law_390 hL (by omega) (by omega) ?_
  rw [e0]
  refine pw_aload_n dL_law_391 rfl rfl ?_
  refine pw_iload_n dL_law_392 rfl rfl ?_
  refine pw_iconst (v := 4) dL_law_393 (by decide) ?_
  refine pw_iadd dL_law_394 ?_
  rw [show (nI i + 4 : Int32) = nI (i + 4) from nI_add _ _]
  refine pw_saldN (j := (i + 4)) dL_law_395 hL (by omega) (by omega) ?_
  rw [e0]
  refine pw_aload_n dL_law_396 rfl rfl ?_
  refine pw_iload_n dL_law_397 rfl rfl ?_
  refine pw_iconst (v := 5) dL_law_398 (by decide) ?_
  refine pw_iadd dL_law_399 ?_
  rw [show (nI i + 5 : Int32) = nI (i + 5) from nI_add _ _]
  refine pw_saldN (j := (i + 5)) dL_law_400 hL (by omega) (by omega) ?_
  rw [e0]
  refine pw_aload_n dL_law_401 rfl rfl ?_
  refine pw_iload_n dL_law_402 rfl rfl ?_
  refine pw_bipush (v := 6) dL_law_403 (by decide) ?_
  refine pw_iadd dL_law_405 ?_
  rw [show (nI i + 6 : Int32) = nI (i + 6) from nI_add _ _]
  refine pw_saldN (j := (i + 6)) dL_law_406 hL (by omega) (by omega) ?_
  rw [e0]
  refine pr_callV dL_law_407 oX_X8_addTask lk_RL_35 (sp_m_addTask (nA := nA) (nC := nC) (n := n) hMo n6 z4 fA fA8 fn fn4) (mo_k hMo) rfl rfl (Nat.le_of_ble_eq_true rfl) (by decide) (fun v' I2 F2 hq => ?_)
  obtain ⟨hv, hinv⟩ := st_addTask hm h hc hq
  subst hv
  refine pw_icmp_eq (tgt := 1023) dL_law_410 (by decide) (fun c_410 => ?_) (fun c_410 => absurd rfl c_410)
  exact K _ _ hinv

theorem law_run {σ : pT} {x m L i nA nC n o z l : Nat} {I : pI} {F : pF} (hT : isTW σ x) (hMo : isMo σ m) (hL : (σ.2.1 0).2 = L) (hL4 : L ≤ 3584) (hx : 1 ≤ x) (hm : x + 320 ≤ m) (hi : i + 7 ≤ L) (h : InvP x m nA nC n o z l I F) (K : ∀ (I' : pI) (F' : pF), Inv x m I' F' → PW cL_law mW lwZ 1023 [.ref 0, .ref x, .ref m, .int (nI i), pJ, pJ, pJ, pJ] [] σ I' F' (0, 0)) : PW cL_law mW lwZ 415 [.ref 0, .ref x, .ref m, .int (nI i), pJ, pJ, pJ, pJ] [] σ I F (0, 0) := by
  have hk := InvP_cOK h
  have hpk := Rep_pOK h.1.1
  obtain ⟨pA, pA8, pC, pC5, pn, pn4, pW, pKd, pb⟩ := id hpk
  obtain ⟨-, -, -, -, -, -, -, -, -, ho, ho4, hz, hz4⟩ := id hk
  have hl1 := h.2.2.2.2.1.1
  have hl6 := h.2.2.2.2.1.2.2.1
  refine pw_aload_n dL_law_415 rfl rfl ?_
  refine pw_aload_n dL_law_416 rfl rfl ?_
  refine pw_iload_n dL_law_417 rfl rfl ?_
  refine pw_iconst (v := 1) dL_law_418 (by decide) ?_
  refine pw_iadd dL_law_419 ?_
  rw [show (nI i + 1 : Int32) = nI (i + 1) from nI_add _ _]
  refine pw_saldN (j := (i + 1)) dL_law_420 hL (by omega) (by omega) ?_
  refine pr_callV dL_law_421 oX_X7_run lk_RL_36 (sp_x_run (nA := nA) (nC := nC) (n := n) hT hk) (tw_k hT) rfl rfl (Nat.le_of_ble_eq_true rfl) (by decide) (fun v I1 F1 hc => ?_)
  obtain ⟨r, rfl⟩ := act_v hc
  have hm1 := act_mid hc (lcs_run hk)
  have e0 : I1 0 = I 0 := (hm1 0 (by omega)).1
  obtain ⟨n6, z4, n9, l6, em1, eh, eo, fA, fA8, fC, fC5, fn, fn4, fW, fKd, fG⟩ := inv_now hm h hm1
  refine pw_aload_n dL_law_424 rfl rfl ?_
  refine pw_aload_n dL_law_425 rfl rfl ?_
  refine pw_iload_n dL_law_426 rfl rfl ?_
  refine pw_iconst (v := 1) dL_law_427 (by decide) ?_
  refine pw_iadd dL_law_428 ?_
  rw [show (nI i + 1 : Int32) = nI (i + 1) from nI_add _ _]
  refine pw_saldN (j := (i + 1)) dL_law_429 hL (by omega) (by omega) ?_
  rw [e0]
  refine pr_callV dL_law_430 oX_X8_run lk_RL_40 (sp_m_run (nA := nA) (nC := nC) (n := n) hMo n6 z4 fA fA8) (mo_k hMo) rfl rfl (Nat.le_of_ble_eq_true rfl) (by decide) (fun v' I2 F2 hq => ?_)
  obtain ⟨hv, hinv⟩ := st_run hm h hc hq
  subst hv
  refine pw_icmp_eq (tgt := 1023) dL_law_433 (by decide) (fun c_433 => ?_) (fun c_433 => absurd rfl c_433)
  exact K _ _ hinv

theorem law_stop {σ : pT} {x m L i nA nC n o z l : Nat} {I : pI} {F : pF} (hT : isTW σ x) (hMo : isMo σ m) (hL : (σ.2.1 0).2 = L) (hL4 : L ≤ 3584) (hx : 1 ≤ x) (hm : x + 320 ≤ m) (hi : i + 7 ≤ L) (h : InvP x m nA nC n o z l I F) (K : ∀ (I' : pI) (F' : pF), Inv x m I' F' → PW cL_law mW lwZ 1023 [.ref 0, .ref x, .ref m, .int (nI i), pJ, pJ, pJ, pJ] [] σ I' F' (0, 0)) : PW cL_law mW lwZ 438 [.ref 0, .ref x, .ref m, .int (nI i), pJ, pJ, pJ, pJ] [] σ I F (0, 0) := by
  have hk := InvP_cOK h
  have hpk := Rep_pOK h.1.1
  obtain ⟨pA, pA8, pC, pC5, pn, pn4, pW, pKd, pb⟩ := id hpk
  obtain ⟨-, -, -, -, -, -, -, -, -, ho, ho4, hz, hz4⟩ := id hk
  have hl1 := h.2.2.2.2.1.1
  have hl6 := h.2.2.2.2.1.2.2.1
  refine pw_aload_n dL_law_438 rfl rfl ?_
  refine pw_aload_n dL_law_439 rfl rfl ?_
  refine pw_iload_n dL_law_440 rfl rfl ?_
  refine pw_iconst (v := 1) dL_law_441 (by decide) ?_
  refine pw_iadd dL_law_442 ?_
  rw [show (nI i + 1 : Int32) = nI (i + 1) from nI_add _ _]
  refine pw_saldN (j := (i + 1)) dL_law_443 hL (by omega) (by omega) ?_
  refine pr_callV dL_law_444 oX_X7_stop lk_RL_41 (sp_x_stop (nA := nA) (nC := nC) (n := n) hT hk) (tw_k hT) rfl rfl (Nat.le_of_ble_eq_true rfl) (by decide) (fun v I1 F1 hc => ?_)
  obtain ⟨r, rfl⟩ := act_v hc
  have hm1 := act_mid hc (lcs_stop hk)
  have e0 : I1 0 = I 0 := (hm1 0 (by omega)).1
  obtain ⟨n6, z4, n9, l6, em1, eh, eo, fA, fA8, fC, fC5, fn, fn4, fW, fKd, fG⟩ := inv_now hm h hm1
  refine pw_aload_n dL_law_447 rfl rfl ?_
  refine pw_aload_n dL_law_448 rfl rfl ?_
  refine pw_iload_n dL_law_449 rfl rfl ?_
  refine pw_iconst (v := 1) dL_law_450 (by decide) ?_
  refine pw_iadd dL_law_451 ?_
  rw [show (nI i + 1 : Int32) = nI (i + 1) from nI_add _ _]
  refine pw_saldN (j := (i + 1)) dL_law_452 hL (by omega) (by omega) ?_
  rw [e0]
  refine pr_callV dL_law_453 oX_X8_stop lk_RL_44 (sp_m_stop (nA := nA) (nC := nC) (n := n) hMo n6 z4 fA fA8) (mo_k hMo) rfl rfl (Nat.le_of_ble_eq_true rfl) (by decide) (fun v' I2 F2 hq => ?_)
  obtain ⟨hv, hinv⟩ := st_stop hm h hc hq
  subst hv
  refine pw_icmp_eq (tgt := 1023) dL_law_456 (by decide) (fun c_456 => ?_) (fun c_456 => absurd rfl c_456)
  exact K _ _ hinv

theorem law_hang {σ : pT} {x m L i nA nC n o z l : Nat} {I : pI} {F : pF} (hT : isTW σ x) (hMo : isMo σ m) (hL : (σ.2.1 0).2 = L) (hL4 : L ≤ 3584) (hx : 1 ≤ x) (hm : x + 320 ≤ m) (hi : i + 7 ≤ L) (h : InvP x m nA nC n o z l I F) (K : ∀ (I' : pI) (F' : pF), Inv x m I' F' → PW cL_law mW lwZ 1023 [.ref 0, .ref x, .ref m, .int (nI i), pJ, pJ, pJ, pJ] [] σ I' F' (0, 0)) : PW cL_law mW lwZ 461 [.ref 0, .ref x, .ref m, .int (nI i), pJ, pJ, pJ, pJ] [] σ I F (0, 0) := by
  have hk := InvP_cOK h
  have hpk := Rep_pOK h.1.1
  obtain ⟨pA, pA8, pC, pC5, pn, pn4, pW, pKd, pb⟩ := id hpk
  obtain ⟨-, -, -, -, -, -, -, -, -, ho, ho4, hz, hz4⟩ := id hk
  have hl1 := h.2.2.2.2.1.1
  have hl6 := h.2.2.2.2.1.2.2.1
  refine pw_aload_n dL_law_461 rfl rfl ?_
  refine pw_aload_n dL_law_462 rfl rfl ?_
  refine pw_iload_n dL_law_463 rfl rfl ?_
  refine pw_iconst (v := 1) dL_law_464 (by decide) ?_
  refine pw_iadd dL_law_465 ?_
  rw [show (nI i + 1 : Int32) = nI (i + 1) from nI_add _ _]
  refine pw_saldN (j := (i + 1)) dL_law_466 hL (by omega) (by omega) ?_
  refine pw_aload_n dL_law_467 rfl rfl ?_
  refine pw_iload_n dL_law_468 rfl rfl ?_
  refine pw_iconst (v := 2) dL_law_469 (by decide) ?_
  refine pw_iadd dL_law_470 ?_
  rw [show (nI i + 2 : Int32) = nI (i + 2) from nI_add _ _]
  refine pw_saldN (j := (i + 2)) dL_law_471 hL (by omega) (by omega) ?_
  refine pr_callV dL_law_472 oX_X7_hang lk_RL_45 (sp_x_hang (nA := nA) (nC := nC) (n := n) hT hk) (tw_k hT) rfl rfl (Nat.le_of_ble_eq_true rfl) (by decide) (fun v I1 F1 hc => ?_)
  obtain ⟨r, rfl⟩ := act_v hc
  have hm1 := act_mid hc (lcs_hang hk)
  have e0 : I1 0 = I 0 := (hm1 0 (by omega)).1
  obtain ⟨n6, z4, n9, l6, em1, eh, eo, fA, fA8, fC, fC5, fn, fn4, fW, fKd, fG⟩ := inv_now hm h hm1
  refine pw_aload_n dL_law_475 rfl rfl ?_
  refine pw_aload_n dL_law_476 rfl rfl ?_
  refine pw_iload_n dL_law_477 rfl rfl ?_
  refine pw_iconst (v := 1) dL_law_478 (by decide) ?_
  refine pw_iadd dL_law_479 ?_
  rw [show (nI i + 1 : Int32) = nI (i + 1) from nI_add _ _]
  refine pw_saldN (j := (i + 1)) dL_law_480 hL (by omega) (by omega) ?_
  rw [e0]
  refine pw_aload_n dL_law_481 rfl rfl ?_
  refine pw_iload_n dL_law_482 rfl rfl ?_
  refine pw_iconst (v := 2) dL_law_483 (by decide) ?_
  refine pw_iadd dL_law_484 ?_
  rw [show (nI i + 2 : Int32) = nI (i + 2) from nI_add _ _]
  refine pw_saldN (j := (i + 2)) dL_law_485 hL (by omega) (by omega) ?_
  rw [e0]
  refine pr_callV dL_law_486 oX_X8_hang lk_RL_48 (sp_m_hang (nA := nA) (nC := nC) (n := n) hMo n6 z4 fA fA8 fC fC5 fn fn4 fW fG) (mo_k hMo) rfl rfl (Nat.le_of_ble_eq_true rfl) (by decide) (fun v' I2 F2 hq => ?_)
  obtain ⟨hv, hinv⟩ := st_hang hm h hc hq
  subst hv
  refine pw_icmp_eq (tgt := 1023) dL_law_489 (by decide) (fun c_489 => ?_) (fun c_489 => absurd rfl c_489)
  exact K _ _ hinv

theorem law_begin {σ : pT} {x m L i nA nC n o z l : Nat} {I : pI} {F : pF} (hT : isTW σ x) (hMo : isMo σ m) (hL : (σ.2.1 0).2 = L) (hL4 : L ≤ 3584) (hx : 1 ≤ x) (hm : x + 320 ≤ m) (hi : i + 7 ≤ L) (h : InvP x m nA nC n o z l I F) (K : ∀ (I' : pI) (F' : pF), Inv x m I' F' → PW cL_law mW lwZ 1023 [.ref 0, .ref x, .ref m, .int (nI i), pJ, pJ, pJ, pJ] [] σ I' F' (0, 0)) : PW cL_law mW lwZ 494 [.ref 0, .ref x, .ref m, .int (nI i), pJ, pJ, pJ, pJ] [] σ I F (0, 0) := by
  have hk := InvP_cOK h
  have hpk := Rep_pOK h.1.1
  obtain ⟨pA, pA8, pC, pC5, pn, pn4, pW, pKd, pb⟩ := id hpk
  obtain ⟨-, -, -, -, -, -, -, -, -, ho, ho4, hz, hz4⟩ := id hk
  have hl1 := h.2.2.2.2.1.1
  have hl6 := h.2.2.2.2.1.2.2.1
  refine pw_aload_n dL_law_494 rfl rfl ?_
  refine pw_aload_n dL_law_495 rfl rfl ?_
  refine pw_iload_n dL_law_496 rfl rfl ?_
  refine pw_iconst (v := 1) dL_law_497 (by decide) ?_
  refine pw_iadd dL_law_498 ?_
  rw [show (nI i + 1 : Int32) = nI (i + 1) from nI_add _ _]
  refine pw_saldN (j := (i + 1)) dL_law_499 hL (by omega) (by omega) ?_
  refine pr_callV dL_law_500 oX_X7_begin lk_RL_49 (sp_x_begin (nA := nA) (nC := nC) (n := n) hT hk) (tw_k hT) rfl rfl (Nat.le_of_ble_eq_true rfl) (by decide) (fun v I1 F1 hc => ?_)
  obtain ⟨r, rfl⟩ := act_v hc
  have hm1 := act_mid hc (lcs_begin hk)
  have e0 : I1 0 = I 0 := (hm1 0 (by omega)).1
  obtain ⟨n6, z4, n9, l6, em1, eh, eo, fA, fA8, fC, fC5, fn, fn4, fW, fKd, fG⟩ := inv_now hm h hm1
  refine pw_aload_n dL_law_503 rfl rfl ?_
  refine pw_aload_n dL_law_504 rfl rfl ?_
  refine pw_iload_n dL_law_505 rfl rfl ?_
  refine pw_iconst (v := 1) dL_law_506 (by decide) ?_
  refine pw_iadd dL_law_507 ?_
  rw [show (nI i + 1 : Int32) = nI (i + 1) from nI_add _ _]
  refine pw_saldN (j := (i + 1)) dL_law_508 hL (by omega) (by omega) ?_
  rw [e0]
  refine pr_callV dL_law_509 oX_X8_begin lk_RL_52 (sp_m_begin (nA := nA) (nC := nC) (n := n) hMo n6 z4 fA fA8 fn fn4 fW fKd) (mo_k hMo) rfl rfl (Nat.le_of_ble_eq_true rfl) (by decide) (fun v' I2 F2 hq => ?_)
  obtain ⟨hv, hinv⟩ := st_begin hm h hc hq
  subst hv
  refine pw_icmp_eq (tgt := 1023) dL_law_512 (by decide) (fun c_512 => ?_) (fun c_512 => absurd rfl c_512)
  exact K _ _ hinv

theorem law_lift {σ : pT} {x m L i nA nC n o z l : Nat} {I : pI} {F : pF} (hT : isTW σ x) (hMo : isMo σ m) (hL : (σ.2.1 0).2 = L) (hL4 : L ≤ 3584) (hx : 1 ≤ x) (hm : x + 320 ≤ m) (hi : i + 7 ≤ L) (h : InvP x m nA nC n o z l I F) (K : ∀ (I' : pI) (F' : pF), Inv x m I' F' → PW cL_law mW lwZ 1023 [.ref 0, .ref x, .ref m, .int (nI i), pJ, pJ, pJ, pJ] [] σ I' F' (0, 0)) : PW cL_law mW lwZ 517 [.ref 0, .ref x, .ref m, .int (nI i), pJ, pJ, pJ, pJ] [] σ I F (0, 0) := by
  have hk := InvP_cOK h
  have hpk := Rep_pOK h.1.1
  obtain ⟨pA, pA8, pC, pC5, pn, pn4, pW, pKd, pb⟩ := id hpk
  obtain ⟨-, -, -, -, -, -, -, -, -, ho, ho4, hz, hz4⟩ := id hk
  have hl1 := h.2.2.2.2.1.1
  have hl6 := h.2.2.2.2.1.2.2.1
  refine pw_aload_n dL_law_517 rfl rfl ?_
  refine pw_aload_n dL_law_518 rfl rfl ?_
  refine pw_iload_n dL_law_519 rfl rfl ?_
  refine pw_iconst (v := 1) dL_law_520 (by decide) ?_
  refine pw_iadd dL_law_521 ?_
  rw [show (nI i + 1 : Int32) = nI (i + 1) from nI_add _ _]
  refine pw_saldN (j := (i + 1)) dL_law_522 hL (by omega) (by omega) ?_
  refine pw_aload_n dL_law_523 rfl rfl ?_
  refine pw_iload_n dL_law_524 rfl rfl ?_
  refine pw_iconst (v := 2) dL_law_525 (by decide) ?_
  refine pw_iadd dL_law_526 ?_
  rw [show (nI i + 2 : Int32) = nI (i + 2) from nI_add _ _]
  refine pw_saldN (j := (i + 2)) dL_law_527 hL (by omega) (by omega) ?_
  refine pr_callV dL_law_528 oX_X7_lift lk_RL_53 (sp_x_lift (nA := nA) (nC := nC) (n := n) hT hk) (tw_k hT) rfl rfl (Nat.le_of_ble_eq_true rfl) (by decide) (fun v I1 F1 hc => ?_)
  obtain ⟨r, rfl⟩ := act_v hc
  have hm1 := act_mid hc (lcs_lift hk)
  have e0 : I1 0 = I 0 := (hm1 0 (by omega)).1
  obtain ⟨n6, z4, n9, l6, em1, eh, eo, fA, fA8, fC, fC5, fn, fn4, fW, fKd, fG⟩ := inv_now hm h hm1
  refine pw_aload_n dL_law_531 rfl rfl ?_
  refine pw_aload_n dL_law_532 rfl rfl ?_
  refine pw_iload_n dL_law_533 rfl rfl ?_
  refine pw_iconst (v := 1) dL_law_534 (by decide) ?_
  refine pw_iadd dL_law_535 ?_
  rw [show (nI i + 1 : Int32) = nI (i + 1) from nI_add _ _]
  refine pw_saldN (j := (i + 1)) dL_law_536 hL (by omega) (by omega) ?_
  rw [e0]
  refine pw_aload_n dL_law_537 rfl rfl ?_
  refine pw_iload_n dL_law_538 rfl rfl ?_
  refine pw_iconst (v := 2) dL_law_539 (by decide) ?_
  refine pw_iadd dL_law_540 ?_
  rw [show (nI i + 2 : Int32) = nI (i + 2) from nI_add _ _]
  refine pw_saldN (j := (i + 2)) dL_law_541 hL (by omega) (by omega) ?_
  rw [e0]
  refine pr_callV dL_law_542 oX_X8_lift lk_RL_56 (sp_m_lift (nA := nA) (nC := nC) (n := n) hMo n6 z4 fA fA8 fC fC5 fn fn4 fW fG) (mo_k hMo) rfl rfl (Nat.le_of_ble_eq_true rfl) (by decide) (fun v' I2 F2 hq => ?_)
  obtain ⟨hv, hinv⟩ := st_lift hm h hc hq
  subst hv
  refine pw_icmp_eq (tgt := 1023) dL_law_545 (by decide) (fun c_545 => ?_) (fun c_545 => absurd rfl c_545)
  exact K _ _ hinv

theorem law_cancel {σ : pT} {x m L i nA nC n o z l : Nat} {I : pI} {F : pF} (hT : isTW σ x) (hMo : isMo σ m) (hL : (σ.2.1 0).2 = L) (hL4 : L ≤ 3584) (hx : 1 ≤ x) (hm : x + 320 ≤ m) (hi : i + 7 ≤ L) (h : InvP x m nA nC n o z l I F) (K : ∀ (I' : pI) (F' : pF), Inv x m I' F' → PW cL_law mW lwZ 1023 [.ref 0, .ref x, .ref m, .int (nI i), pJ, pJ, pJ, pJ] [] σ I' F' (0, 0)) : PW cL_law mW lwZ 550 [.ref 0, .ref x, .ref m, .int (nI i), pJ, pJ, pJ, pJ] [] σ I F (0, 0) := by
  have hk := InvP_cOK h
  have hpk := Rep_pOK h.1.1
  obtain ⟨pA, pA8, pC, pC5, pn, pn4, pW, pKd, pb⟩ := id hpk
  obtain ⟨-, -, -, -, -, -, -, -, -, ho, ho4, hz, hz4⟩ := id hk
  have hl1 := h.2.2.2.2.1.1
  have hl6 := h.2.2.2.2.1.2.2.1
  refine pw_aload_n dL_law_550 rfl rfl ?_
  refine pw_aload_n dL_law_551 rfl rfl ?_
  refine pw_iload_n dL_law_552 rfl rfl ?_
  refine pw_iconst (v := 1) dL_law_553 (by decide) ?_
  refine pw_iadd dL_law_554 ?_
  rw [show (nI i + 1 : Int32) = nI (i + 1) from nI_add _ _]
  refine pw_saldN (j := (i + 1)) dL_law_555 hL (by omega) (by omega) ?_
  refine pr_callV dL_law_556 oX_X7_cancel lk_RL_57 (sp_x_cancel (nA := nA) (nC := nC) (n := n) hT hk) (tw_k hT) rfl rfl (Nat.le_of_ble_eq_true rfl) (by decide) (fun v I1 F1 hc => ?_)
  obtain ⟨r, rfl⟩ := act_v hc
  have hm1 := act_mid hc (lcs_cancel hk)
  have e0 : I1 0 = I 0 := (hm1 0 (by omega)).1
  obtain ⟨n6, z4, n9, l6, em1, eh, eo, fA, fA8, fC, fC5, fn, fn4, fW, fKd, fG⟩ := inv_now hm h hm1
  refine pw_aload_n dL_law_559 rfl rfl ?_
  refine pw_aload_n dL_law_560 rfl rfl ?_
  refine pw_iload_n dL_law_561 rfl rfl ?_
  refine pw_iconst (v := 1) dL_law_562 (by decide) ?_
  refine pw_iadd dL_law_563 ?_
  rw [show (nI i + 1 : Int32) = nI (i + 1) from nI_add _ _]
  refine pw_saldN (j := (i + 1)) dL_law_564 hL (by omega) (by omega) ?_
  rw [e0]
  refine pr_callV dL_law_565 oX_X8_cancel lk_RL_60 (sp_m_cancel (nA := nA) (nC := nC) (n := n) hMo n6 z4 fn fn4) (mo_k hMo) rfl rfl (Nat.le_of_ble_eq_true rfl) (by decide) (fun v' I2 F2 hq => ?_)
  obtain ⟨hv, hinv⟩ := st_cancel hm h hc hq
  subst hv
  refine pw_icmp_eq (tgt := 1023) dL_law_568 (by decide) (fun c_568 => ?_) (fun c_568 => absurd rfl c_568)
  exact K _ _ hinv

theorem law_pass {σ : pT} {x m L i nA nC n o z l : Nat} {I : pI} {F : pF} (hT : isTW σ x) (hMo : isMo σ m) (hL : (σ.2.1 0).2 = L) (hL4 : L ≤ 3584) (hx : 1 ≤ x) (hm : x + 320 ≤ m) (hi : i + 7 ≤ L) (h : InvP x m nA nC n o z l I F) (K : ∀ (I' : pI) (F' : pF), Inv x m I' F' → PW cL_law mW lwZ 1023 [.ref 0, .ref x, .ref m, .int (nI i), pJ, pJ, pJ, pJ] [] σ I' F' (0, 0)) : PW cL_law mW lwZ 573 [.ref 0, .ref x, .ref m, .int (nI i), pJ, pJ, pJ, pJ] [] σ I F (0, 0) := by
  have hk := InvP_cOK h
  have hpk := Rep_pOK h.1.1
  obtain ⟨pA, pA8, pC, pC5, pn, pn4, pW, pKd, pb⟩ := id hpk
  obtain ⟨-, -, -, -, -, -, -, -, -, ho, ho4, hz, hz4⟩ := id hk
  have hl1 := h.2.2.2.2.1.1
  have hl6 := h.2.2.2.2.1.2.2.1
  refine pw_aload_n dL_law_573 rfl rfl ?_
  refine pw_aload_n dL_law_574 rfl rfl ?_
  refine pw_iload_n dL_law_575 rfl rfl ?_
  refine pw_iconst (v := 1) dL_law_576 (by decide) ?_
  refine pw_iadd dL_law_577 ?_
  rw [show (nI i + 1 : Int32) = nI (i + 1) from nI_add _ _]
  refine pw_saldN (j := (i + 1)) dL_law_578 hL (by omega) (by omega) ?_
  refine pr_callV dL_law_579 oX_X7_pass lk_RL_61 (sp_x_pass (nA := nA) (nC := nC) (n := n) hT hk) (tw_k hT) rfl rfl (Nat.le_of_ble_eq_true rfl) (by decide) (fun v I1 F1 hc => ?_)
  obtain ⟨r, rfl⟩ := act_v hc
  have hm1 := act_mid hc (lcs_pass hk)
  have e0 : I1 0 = I 0 := (hm1 0 (by omega)).1
  obtain ⟨n6, z4, n9, l6, em1, eh, eo, fA, fA8, fC, fC5, fn, fn4, fW, fKd, fG⟩ := inv_now hm h hm1
  refine pw_aload_n dL_law_582 rfl rfl ?_
  refine pw_aload_n dL_law_583 rfl rfl ?_
  refine pw_iload_n dL_law_584 rfl rfl ?_
  refine pw_iconst (v := 1) dL_law_585 (by decide) ?_
  refine pw_iadd dL_law_586 ?_
  rw [show (nI i + 1 : Int32) = nI (i + 1) from nI_add _ _]
  refine pw_saldN (j := (i + 1)) dL_law_587 hL (by omega) (by omega) ?_
  rw [e0]
  refine pr_callV dL_law_588 oX_X8_pass lk_RL_64 (sp_m_pass (nA := nA) (nC := nC) (n := n) hMo n6 z4 fA fA8 fn fn4 fW) (mo_k hMo) rfl rfl (Nat.le_of_ble_eq_true rfl) (by decide) (fun v' I2 F2 hq => ?_)
  obtain ⟨hv, hinv⟩ := st_pass hm h hc hq
  subst hv
  refine pw_icmp_eq (tgt := 1023) dL_law_591 (by decide) (fun c_591 => ?_) (fun c_591 => absurd rfl c_591)
  exact K _ _ hinv

theorem law_type {σ : pT} {x m L i nA nC n o z l : Nat} {I : pI} {F : pF} (hT : isTW σ x) (hMo : isMo σ m) (hL : (σ.2.1 0).2 = L) (hL4 : L ≤ 3584) (hx : 1 ≤ x) (hm : x + 320 ≤ m) (hi : i + 7 ≤ L) (h : InvP x m nA nC n o z l I F) (K : ∀ (I' : pI) (F' : pF), Inv x m I' F' → PW cL_law mW lwZ 1023 [.ref 0, .ref x, .ref m, .int (nI i), pJ, pJ, pJ, pJ] [] σ I' F' (0, 0)) : PW cL_law mW lwZ 596 [.ref 0, .ref x, .ref m, .int (nI i), pJ, pJ, pJ, pJ] [] σ I F (0, 0) := by
  have hk := InvP_cOK h
  have hpk := Rep_pOK h.1.1
  obtain ⟨pA, pA8, pC, pC5, pn, pn4, pW, pKd, pb⟩ := id hpk
  obtain ⟨-, -, -, -, -, -, -, -, -, ho, ho4, hz, hz4⟩ := id hk
  have hl1 := h.2.2.2.2.1.1
  have hl6 := h.2.2.2.2.1.2.2.1
  refine pw_aload_n dL_law_596 rfl rfl ?_
  refine pw_aload_n dL_law_597 rfl rfl ?_
  refine pw_iload_n dL_law_598 rfl rfl ?_
  refine pw_iconst (v := 1) dL_law_599 (by decide) ?_
  refine pw_iadd dL_law_600 ?_
  rw [show (nI i + 1 : Int32) = nI (i + 1) from nI_add _ _]
  refine pw_saldN (j := (i + 1)) dL_law_601 hL (by omega) (by omega) ?_
  refine pw_i2c dL_law_602 rfl ?_
  refine pe_callVi dL_law_603 oX_X7_type lk_RL_65 (sp_x_type hT hl1 hl6) (tw_k hT) rfl rfl (Nat.le_of_ble_eq_true rfl) (by decide) ?_
  obtain ⟨e1, hinv⟩ := st_type hm h (chr_all (I 0 (i + 1))) (chr_vp (I 0 (i + 1)))
  have e0 : (appR I F (x + 297) l (((I 0 (i + 1)).toUInt32 % 65536).toInt32)).2.1 0 = I 0 := app_far (by omega) (by omega)
  have n9 : (appR I F (x + 297) l (((I 0 (i + 1)).toUInt32 % 65536).toInt32)).2.1 m 9 = nI l := by rw [app_far (by omega) (by omega)]; exact h.2.2.2.2.1.2.1
  refine pw_aload_n dL_law_606 rfl rfl ?_
  refine pw_aload_n dL_law_607 rfl rfl ?_
  refine pw_iload_n dL_law_608 rfl rfl ?_
  refine pw_iconst (v := 1) dL_law_609 (by decide) ?_
  refine pw_iadd dL_law_610 ?_
  rw [show (nI i + 1 : Int32) = nI (i + 1) from nI_add _ _]
  refine pw_saldN (j := (i + 1)) dL_law_611 hL (by omega) (by omega) ?_
  rw [e0]
  refine pw_i2c dL_law_612 rfl ?_
  refine pe_callVi dL_law_613 oX_X8_type lk_RL_69 (sp_m_type hMo n9 hl6) (mo_k hMo) rfl rfl (Nat.le_of_ble_eq_true rfl) (by decide) ?_
  refine pw_icmp_eq (tgt := 1023) dL_law_616 (by decide) (fun c_616 => ?_) (fun c_616 => absurd e1 c_616)
  exact K _ _ hinv

theorem law_clearText {σ : pT} {x m L i nA nC n o z l : Nat} {I : pI} {F : pF} (hT : isTW σ x) (hMo : isMo σ m) (hL : (σ.2.1 0).2 = L) (hL4 : L ≤ 3584) (hx : 1 ≤ x) (hm : x + 320 ≤ m) (hi : i + 7 ≤ L) (h : InvP x m nA nC n o z l I F) (K : ∀ (I' : pI) (F' : pF), Inv x m I' F' → PW cL_law mW lwZ 1023 [.ref 0, .ref x, .ref m, .int (nI i), pJ, pJ, pJ, pJ] [] σ I' F' (0, 0)) : PW cL_law mW lwZ 621 [.ref 0, .ref x, .ref m, .int (nI i), pJ, pJ, pJ, pJ] [] σ I F (0, 0) := by
  have hk := InvP_cOK h
  have hpk := Rep_pOK h.1.1
  obtain ⟨pA, pA8, pC, pC5, pn, pn4, pW, pKd, pb⟩ := id hpk
  obtain ⟨-, -, -, -, -, -, -, -, -, ho, ho4, hz, hz4⟩ := id hk
  have hl1 := h.2.2.2.2.1.1
  have hl6 := h.2.2.2.2.1.2.2.1
  refine pw_aload_n dL_law_621 rfl rfl ?_
  refine pe_callVi dL_law_622 oX_X7_clearText lk_RL_70 (sp_x_clearText hT) (tw_k hT) rfl rfl (Nat.le_of_ble_eq_true rfl) (by decide) ?_
  refine pw_aload_n dL_law_625 rfl rfl ?_
  refine pe_callVi dL_law_626 oX_X8_clearText lk_RL_74 (sp_m_clearText hMo) (mo_k hMo) rfl rfl (Nat.le_of_ble_eq_true rfl) (by decide) ?_
  obtain ⟨e1, hinv⟩ := st_clear hm h
  refine pw_icmp_eq (tgt := 1023) dL_law_629 (by decide) (fun c_629 => ?_) (fun c_629 => absurd e1 c_629)
  exact K _ _ hinv

theorem law_perform {σ : pT} {x m L i nA nC n o z l : Nat} {I : pI} {F : pF} (hT : isTW σ x) (hMo : isMo σ m) (hL : (σ.2.1 0).2 = L) (hL4 : L ≤ 3584) (hx : 1 ≤ x) (hm : x + 320 ≤ m) (hi : i + 7 ≤ L) (h : InvP x m nA nC n o z l I F) (K : ∀ (I' : pI) (F' : pF), Inv x m I' F' → PW cL_law mW lwZ 1023 [.ref 0, .ref x, .ref m, .int (nI i), pJ, pJ, pJ, pJ] [] σ I' F' (0, 0)) : PW cL_law mW lwZ 634 [.ref 0, .ref x, .ref m, .int (nI i), pJ, pJ, pJ, pJ] [] σ I F (0, 0) := by
  have hk := InvP_cOK h
  have hpk := Rep_pOK h.1.1
  obtain ⟨pA, pA8, pC, pC5, pn, pn4, pW, pKd, pb⟩ := id hpk
  obtain ⟨-, -, -, -, -, -, -, -, -, ho, ho4, hz, hz4⟩ := id hk
  have hl1 := h.2.2.2.2.1.1
  have hl6 := h.2.2.2.2.1.2.2.1
  refine pw_aload_n dL_law_634 rfl rfl ?_
  refine pr_callV dL_law_635 oX_X7_perform lk_RL_75 (sp_x_perform hT hk hl1 hl6 (fun k hk => (h.2.2.2.2.1.2.2.2 k hk).2)) (tw_k hT) rfl rfl (Nat.le_of_ble_eq_true rfl) (by decide) (fun v I1 F1 hc => ?_)
  obtain ⟨r, rfl⟩ := per_v hc
  obtain ⟨n6, z4, n9, l6, Ic, Fc, hRc, hfin⟩ := st_perform hm h hc
  refine pw_aload_n dL_law_638 rfl rfl ?_
  refine pr_callV dL_law_639 oX_X8_perform lk_RL_78 (sp_m_perform (p := x + 1) (Ic := Ic) (Fc := Fc) hMo n6 z4 n9 l6 hRc) (mo_k hMo) rfl rfl (Nat.le_of_ble_eq_true rfl) (by decide) (fun v' I2 F2 hq => ?_)
  obtain ⟨hv, hinv⟩ := hfin _ _ _ hq
  subst hv
  refine pw_icmp_eq (tgt := 1023) dL_law_642 (by decide) (fun c_642 => ?_) (fun c_642 => absurd rfl c_642)
  exact K _ _ hinv

theorem law_undo {σ : pT} {x m L i nA nC n o z l : Nat} {I : pI} {F : pF} (hT : isTW σ x) (hMo : isMo σ m) (hL : (σ.2.1 0).2 = L) (hL4 : L ≤ 3584) (hx : 1 ≤ x) (hm : x + 320 ≤ m) (hi : i + 7 ≤ L) (h : InvP x m nA nC n o z l I F) (K : ∀ (I' : pI) (F' : pF), Inv x m I' F' → PW cL_law mW lwZ 1023 [.ref 0, .ref x, .ref m, .int (nI i), pJ, pJ, pJ, pJ] [] σ I' F' (0, 0)) : PW cL_law mW lwZ 647 [.ref 0, .ref x, .ref m, .int (nI i), pJ, pJ, pJ, pJ] [] σ I F (0, 0) := by
  have hk := InvP_cOK h
  have hpk := Rep_pOK h.1.1
  obtain ⟨pA, pA8, pC, pC5, pn, pn4, pW, pKd, pb⟩ := id hpk
  obtain ⟨-, -, -, -, -, -, -, -, -, ho, ho4, hz, hz4⟩ := id hk
  have hl1 := h.2.2.2.2.1.1
  have hl6 := h.2.2.2.2.1.2.2.1
  refine pw_aload_n dL_law_647 rfl rfl ?_
  refine pr_callV dL_law_648 oX_X7_undo lk_RL_79 (sp_x_undo hT ho ho4 hz hz4 h.2.2.2.2.2.2.2) (tw_k hT) rfl rfl (Nat.le_of_ble_eq_true rfl) (by decide) (fun v I1 F1 hc => ?_)
  obtain ⟨r, hr⟩ : ∃ r, v = some (.int r) := by
    rcases hc with ⟨-, hv, -⟩ | ⟨-, hv, -⟩
    · exact ⟨_, hv⟩
    · exact ⟨_, hv⟩
  subst hr
  have hm1 := mid_undo hc
  obtain ⟨n6, z4, n9, l6, em1, eh, eo, fA, fA8, fC, fC5, fn, fn4, fW, fKd, fG⟩ := inv_now hm h hm1
  refine pw_aload_n dL_law_651 rfl rfl ?_
  refine pr_callV dL_law_652 oX_X8_undo lk_RL_82 (sp_m_undo hMo n6 z4) (mo_k hMo) rfl rfl (Nat.le_of_ble_eq_true rfl) (by decide) (fun v' I2 F2 hq => ?_)
  obtain ⟨hv, hinv⟩ := st_undo hm h hc hq
  subst hv
  refine pw_icmp_eq (tgt := 1023) dL_law_655 (by decide) (fun c_655 => ?_) (fun c_655 => absurd rfl c_655)
  exact K _ _ hinv

theorem law_keep {σ : pT} {x m L i nA nC n o z l : Nat} {I : pI} {F : pF} (hT : isTW σ x) (hMo : isMo σ m) (hL : (σ.2.1 0).2 = L) (hL4 : L ≤ 3584) (hx : 1 ≤ x) (hm : x + 320 ≤ m) (hi : i + 7 ≤ L) (h : InvP x m nA nC n o z l I F) (K : ∀ (I' : pI) (F' : pF), Inv x m I' F' → PW cL_law mW lwZ 1023 [.ref 0, .ref x, .ref m, .int (nI i), pJ, pJ, pJ, pJ] [] σ I' F' (0, 0)) : PW cL_law mW lwZ 660 [.ref 0, .ref x, .ref m, .int (nI i), pJ, pJ, pJ, pJ] [] σ I F (0, 0) := by
  have hk := InvP_cOK h
  have hpk := Rep_pOK h.1.1
  obtain ⟨pA, pA8, pC, pC5, pn, pn4, pW, pKd, pb⟩ := id hpk
  obtain ⟨-, -, -, -, -, -, -, -, -, ho, ho4, hz, hz4⟩ := id hk
  have hl1 := h.2.2.2.2.1.1
  have hl6 := h.2.2.2.2.1.2.2.1
  refine pw_aload_n dL_law_660 rfl rfl ?_
  refine pr_callV dL_law_661 oX_X7_keep lk_RL_83 (sp_x_keep hT h.1.1.2.2.2.2.2.2) (tw_k hT) rfl rfl (Nat.le_of_ble_eq_true rfl) (by decide) (fun v I1 F1 hc => ?_)
  have hv1 := hc.1
  subst hv1
  refine pw_aload_n dL_law_664 rfl rfl ?_
  refine pr_callV dL_law_665 oX_X8_keep lk_RL_86 (sp_m_keep hMo) (mo_k hMo) rfl rfl (Nat.le_of_ble_eq_true rfl) (by decide) (fun v' I2 F2 hq => ?_)
  obtain ⟨hv, hinv⟩ := st_keep hm h hc hq
  subst hv
  refine pw_icmp_eq (tgt := 1023) dL_law_668 (by decide) (fun c_668 => ?_) (fun c_668 => absurd rfl c_668)
  exact K _ _ hinv

theorem law_restore {σ : pT} {x m L i nA nC n o z l : Nat} {I : pI} {F : pF} (hT : isTW σ x) (hMo : isMo σ m) (hL : (σ.2.1 0).2 = L) (hL4 : L ≤ 3584) (hx : 1 ≤ x) (hm : x + 320 ≤ m) (hi : i + 7 ≤ L) (h : InvP x m nA nC n o z l I F) (K : ∀ (I' : pI) (F' : pF), Inv x m I' F' → PW cL_law mW lwZ 1023 [.ref 0, .ref x, .ref m, .int (nI i), pJ, pJ, pJ, pJ] [] σ I' F' (0, 0)) : PW cL_law mW lwZ 673 [.ref 0, .ref x, .ref m, .int (nI i), pJ, pJ, pJ, pJ] [] σ I F (0, 0) := by
  have hk := InvP_cOK h
  have hpk := Rep_pOK h.1.1
  obtain ⟨pA, pA8, pC, pC5, pn, pn4, pW, pKd, pb⟩ := id hpk
  obtain ⟨-, -, -, -, -, -, -, -, -, ho, ho4, hz, hz4⟩ := id hk
  have hl1 := h.2.2.2.2.1.1
  have hl6 := h.2.2.2.2.1.2.2.1
  refine pw_aload_n dL_law_673 rfl rfl ?_
  refine pr_callV dL_law_674 oX_X7_restore lk_RL_87 (sp_x_restore hT ho ho4 hz hz4 h.1.1.2.2.2.2.2.2 h.2.2.2.2.2.2.1) (tw_k hT) rfl rfl (Nat.le_of_ble_eq_true rfl) (by decide) (fun v I1 F1 hc => ?_)
  obtain ⟨r, hr⟩ : ∃ r, v = some (.int r) := by
    rcases hc with ⟨-, hv, -⟩ | ⟨-, Ia, Fa, Ib, Fb, -, -, hv, -⟩
    · exact ⟨_, hv⟩
    · exact ⟨_, hv⟩
  subst hr
  have hm1 := mid_restore hc
  obtain ⟨n6, z4, n9, l6, em1, eh, eo, fA, fA8, fC, fC5, fn, fn4, fW, fKd, fG⟩ := inv_now hm h hm1
  refine pw_aload_n dL_law_677 rfl rfl ?_
  refine pr_callV dL_law_678 oX_X8_restore lk_RL_90 (sp_m_restore hMo n6 z4) (mo_k hMo) rfl rfl (Nat.le_of_ble_eq_true rfl) (by decide) (fun v' I2 F2 hq => ?_)
  obtain ⟨hv, hinv⟩ := st_restore hm h hc hq
  subst hv
  refine pw_icmp_eq (tgt := 1023) dL_law_681 (by decide) (fun c_681 => ?_) (fun c_681 => absurd rfl c_681)
  exact K _ _ hinv

theorem law_real {σ : pT} {x m L i nA nC n o z l : Nat} {I : pI} {F : pF} (hT : isTW σ x) (hMo : isMo σ m) (hL : (σ.2.1 0).2 = L) (hL4 : L ≤ 3584) (hx : 1 ≤ x) (hm : x + 320 ≤ m) (hi : i + 7 ≤ L) (h : InvP x m nA nC n o z l I F) (K : ∀ (I' : pI) (F' : pF), Inv x m I' F' → PW cL_law mW lwZ 1023 [.ref 0, .ref x, .ref m, .int (nI i), pJ, pJ, pJ, pJ] [] σ I' F' (0, 0)) : PW cL_law mW lwZ 686 [.ref 0, .ref x, .ref m, .int (nI i), pJ, pJ, pJ, pJ] [] σ I F (0, 0) := by
  have hk := InvP_cOK h
  have hpk := Rep_pOK h.1.1
  obtain ⟨pA, pA8, pC, pC5, pn, pn4, pW, pKd, pb⟩ := id hpk
  obtain ⟨-, -, -, -, -, -, -, -, -, ho, ho4, hz, hz4⟩ := id hk
  have hl1 := h.2.2.2.2.1.1
  have hl6 := h.2.2.2.2.1.2.2.1
  obtain ⟨n6, z4, n9, l6, em1, eh, eo, fA, fA8, fC, fC5, fn, fn4, fW, fKd, fG⟩ := inv_now hm h (fun i _ => ⟨rfl, rfl⟩)
  refine pw_aload_n dL_law_686 rfl rfl ?_
  refine pw_aload_n dL_law_687 rfl rfl ?_
  refine pw_iload_n dL_law_688 rfl rfl ?_
  refine pw_iconst (v := 1) dL_law_689 (by decide) ?_
  refine pw_iadd dL_law_690 ?_
  rw [show (nI i + 1 : Int32) = nI (i + 1) from nI_add _ _]
  refine pw_saldN (j := (i + 1)) dL_law_691 hL (by omega) (by omega) ?_
  refine pw_aload_n dL_law_692 rfl rfl ?_
  refine pw_iload_n dL_law_693 rfl rfl ?_
  refine pw_iconst (v := 2) dL_law_694 (by decide) ?_
  refine pw_iadd dL_law_695 ?_
  rw [show (nI i + 2 : Int32) = nI (i + 2) from nI_add _ _]
  refine pw_saldN (j := (i + 2)) dL_law_696 hL (by omega) (by omega) ?_
  refine pe_callVf dL_law_697 oX_X7_real lk_RL_91 (sp_x_real (nA := nA) hT pA pA8) (tw_k hT) rfl rfl (Nat.le_of_ble_eq_true rfl) (by decide) ?_
  refine pw_f2d dL_law_700 ?_
  refine pw_dstore dL_law_701 (by decide) rfl ?_
  refine pw_aload_n dL_law_703 rfl rfl ?_
  refine pw_aload_n dL_law_704 rfl rfl ?_
  refine pw_iload_n dL_law_705 rfl rfl ?_
  refine pw_iconst (v := 1) dL_law_706 (by decide) ?_
  refine pw_iadd dL_law_707 ?_
  rw [show (nI i + 1 : Int32) = nI (i + 1) from nI_add _ _]
  refine pw_saldN (j := (i + 1)) dL_law_708 hL (by omega) (by omega) ?_
  refine pw_aload_n dL_law_709 rfl rfl ?_
  refine pw_iload_n dL_law_710 rfl rfl ?_
  refine pw_iconst (v := 2) dL_law_711 (by decide) ?_
  refine pw_iadd dL_law_712 ?_
  rw [show (nI i + 2 : Int32) = nI (i + 2) from nI_add _ _]
  refine pw_saldN (j := (i + 2)) dL_law_713 hL (by omega) (by omega) ?_
  refine pe_callVf dL_law_714 oX_X8_real lk_RL_95 (sp_m_real (nA := nA) hMo fA fA8) (mo_k hMo) rfl rfl (Nat.le_of_ble_eq_true rfl) (by decide) ?_
  rw [← real_eq h.1.1]
  refine pw_f2d dL_law_717 ?_
  refine pw_dstore dL_law_718 (by decide) rfl ?_
  refine pw_dload dL_law_720 rfl ?_
  refine pw_dload dL_law_722 rfl ?_
  refine pw_dcmp dL_law_724 ?_
  refine pw_if_eq (tgt := 746) dL_law_725 (by decide) (fun c_725 => ?_) (fun c_725 => ?_)
  · refine pw_goto (tgt := 1023) dL_law_746 (by decide) ?_
    exact pw_weak (ls' := [.ref 0, .ref x, .ref m, .int (nI i), pJ, pJ, pJ, pJ]) rfl weak8 (K _ _ ⟨nA, nC, n, o, z, l, h⟩)
  · refine pw_dload dL_law_728 rfl ?_
    refine pw_dload dL_law_730 rfl ?_
    refine pw_dcmp dL_law_732 ?_
    refine pw_if_eq (tgt := 744) dL_law_733 (by decide) (fun c_733 => absurd c_733 c_725) (fun c_733 => ?_)
    refine pw_dload dL_law_736 rfl ?_
    refine pw_dload dL_law_738 rfl ?_
    refine pw_dcmp dL_law_740 ?_
    refine pw_if_ne (tgt := 746) dL_law_741 (by decide) (fun c_741 => ?_) (fun c_741 => absurd c_741 c_725)
    refine pw_goto (tgt := 1023) dL_law_746 (by decide) ?_
    exact pw_weak (ls' := [.ref 0, .ref x, .ref m, .int (nI i), pJ, pJ, pJ, pJ]) rfl weak8 (K _ _ ⟨nA, nC, n, o, z, l, h⟩)

theorem law_healthIn {σ : pT} {x m L i nA nC n o z l : Nat} {I : pI} {F : pF} (hT : isTW σ x) (hMo : isMo σ m) (hL : (σ.2.1 0).2 = L) (hL4 : L ≤ 3584) (hx : 1 ≤ x) (hm : x + 320 ≤ m) (hi : i + 7 ≤ L) (h : InvP x m nA nC n o z l I F) (K : ∀ (I' : pI) (F' : pF), Inv x m I' F' → PW cL_law mW lwZ 1023 [.ref 0, .ref x, .ref m, .int (nI i), pJ, pJ, pJ, pJ] [] σ I' F' (0, 0)) : PW cL_law mW lwZ 749 [.ref 0, .ref x, .ref m, .int (nI i), pJ, pJ, pJ, pJ] [] σ I F (0, 0) := by
  have hk := InvP_cOK h
  have hpk := Rep_pOK h.1.1
  obtain ⟨pA, pA8, pC, pC5, pn, pn4, pW, pKd, pb⟩ := id hpk
  obtain ⟨-, -, -, -, -, -, -, -, -, ho, ho4, hz, hz4⟩ := id hk
  have hl1 := h.2.2.2.2.1.1
  have hl6 := h.2.2.2.2.1.2.2.1
  obtain ⟨n6, z4, n9, l6, em1, eh, eo, fA, fA8, fC, fC5, fn, fn4, fW, fKd, fG⟩ := inv_now hm h (fun i _ => ⟨rfl, rfl⟩)
  refine pw_aload_n dL_law_749 rfl rfl ?_
  refine pw_aload_n dL_law_750 rfl rfl ?_
  refine pw_iload_n dL_law_751 rfl rfl ?_
  refine pw_iconst (v := 1) dL_law_752 (by decide) ?_
  refine pw_iadd dL_law_753 ?_
  rw [show (nI i + 1 : Int32) = nI (i + 1) from nI_add _ _]
  refine pw_saldN (j := (i + 1)) dL_law_754 hL (by omega) (by omega) ?_
  refine pw_aload_n dL_law_755 rfl rfl ?_
  refine pw_iload_n dL_law_756 rfl rfl ?_
  refine pw_iconst (v := 2) dL_law_757 (by decide) ?_
  refine pw_iadd dL_law_758 ?_
  rw [show (nI i + 2 : Int32) = nI (i + 2) from nI_add _ _]
  refine pw_saldN (j := (i + 2)) dL_law_759 hL (by omega) (by omega) ?_
  refine pe_callVf dL_law_760 oX_X7_healthIn lk_RL_96 (sp_x_healthIn (nA := nA) hT pA pA8) (tw_k hT) rfl rfl (Nat.le_of_ble_eq_true rfl) (by decide) ?_
  refine pw_f2d dL_law_763 ?_
  refine pw_dstore dL_law_764 (by decide) rfl ?_
  refine pw_aload_n dL_law_766 rfl rfl ?_
  refine pw_aload_n dL_law_767 rfl rfl ?_
  refine pw_iload_n dL_law_768 rfl rfl ?_
  refine pw_iconst (v := 1) dL_law_769 (by decide) ?_
  refine pw_iadd dL_law_770 ?_
  rw [show (nI i + 1 : Int32) = nI (i + 1) from nI_add _ _]
  refine pw_saldN (j := (i + 1)) dL_law_771 hL (by omega) (by omega) ?_
  refine pw_aload_n dL_law_772 rfl rfl ?_
  refine pw_iload_n dL_law_773 rfl rfl ?_
  refine pw_iconst (v := 2) dL_law_774 (by decide) ?_
  refine pw_iadd dL_law_775 ?_
  rw [show (nI i + 2 : Int32) = nI (i + 2) from nI_add _ _]
  refine pw_saldN (j := (i + 2)) dL_law_776 hL (by omega) (by omega) ?_
  refine pe_callVf dL_law_777 oX_X8_healthIn lk_RL_99 (sp_m_healthIn (nA := nA) hMo fA fA8) (mo_k hMo) rfl rfl (Nat.le_of_ble_eq_true rfl) (by decide) ?_
  rw [← healthIn_eq h.1.1]
  refine pw_f2d dL_law_780 ?_
  refine pw_dstore dL_law_781 (by decide) rfl ?_
  refine pw_dload dL_law_783 rfl ?_
  refine pw_dload dL_law_785 rfl ?_
  refine pw_dcmp dL_law_787 ?_
  refine pw_if_eq (tgt := 809) dL_law_788 (by decide) (fun c_788 => ?_) (fun c_788 => ?_)
  · refine pw_goto (tgt := 1023) dL_law_809 (by decide) ?_
    exact pw_weak (ls' := [.ref 0, .ref x, .ref m, .int (nI i), pJ, pJ, pJ, pJ]) rfl weak8 (K _ _ ⟨nA, nC, n, o, z, l, h⟩)
  · refine pw_dload dL_law_791 rfl ?_
    refine pw_dload dL_law_793 rfl ?_
    refine pw_dcmp dL_law_795 ?_
    refine pw_if_eq (tgt := 807) dL_law_796 (by decide) (fun c_796 => absurd c_796 c_788) (fun c_796 => ?_)
    refine pw_dload dL_law_799 rfl ?_
    refine pw_dload dL_law_801 rfl ?_
    refine pw_dcmp dL_law_803 ?_
    refine pw_if_ne (tgt := 809) dL_law_804 (by decide) (fun c_804 => ?_) (fun c_804 => absurd c_804 c_788)
    refine pw_goto (tgt := 1023) dL_law_809 (by decide) ?_
    exact pw_weak (ls' := [.ref 0, .ref x, .ref m, .int (nI i), pJ, pJ, pJ, pJ]) rfl weak8 (K _ _ ⟨nA, nC, n, o, z, l, h⟩)

theorem law_hoursTo {σ : pT} {x m L i nA nC n o z l : Nat} {I : pI} {F : pF} (hT : isTW σ x) (hMo : isMo σ m) (hL : (σ.2.1 0).2 = L) (hL4 : L ≤ 3584) (hx : 1 ≤ x) (hm : x + 320 ≤ m) (hi : i + 7 ≤ L) (h : InvP x m nA nC n o z l I F) (K : ∀ (I' : pI) (F' : pF), Inv x m I' F' → PW cL_law mW lwZ 1023 [.ref 0, .ref x, .ref m, .int (nI i), pJ, pJ, pJ, pJ] [] σ I' F' (0, 0)) : PW cL_law mW lwZ 812 [.ref 0, .ref x, .ref m, .int (nI i), pJ, pJ, pJ, pJ] [] σ I F (0, 0) := by
  have hk := InvP_cOK h
  have hpk := Rep_pOK h.1.1
  obtain ⟨pA, pA8, pC, pC5, pn, pn4, pW, pKd, pb⟩ := id hpk
  obtain ⟨-, -, -, -, -, -, -, -, -, ho, ho4, hz, hz4⟩ := id hk
  have hl1 := h.2.2.2.2.1.1
  have hl6 := h.2.2.2.2.1.2.2.1
  obtain ⟨n6, z4, n9, l6, em1, eh, eo, fA, fA8, fC, fC5, fn, fn4, fW, fKd, fG⟩ := inv_now hm h (fun i _ => ⟨rfl, rfl⟩)
  refine pw_aload_n dL_law_812 rfl rfl ?_
  refine pw_aload_n dL_law_813 rfl rfl ?_
  refine pw_iload_n dL_law_814 rfl rfl ?_
  refine pw_iconst (v := 1) dL_law_815 (by decide) ?_
  refine pw_iadd dL_law_816 ?_
  rw [show (nI i + 1 : Int32) = nI (i + 1) from nI_add _ _]
  refine pw_saldN (j := (i + 1)) dL_law_817 hL (by omega) (by omega) ?_
  refine pw_aload_n dL_law_818 rfl rfl ?_
  refine pw_iload_n dL_law_819 rfl rfl ?_
  refine pw_iconst (v := 2) dL_law_820 (by decide) ?_
  refine pw_iadd dL_law_821 ?_
  rw [show (nI i + 2 : Int32) = nI (i + 2) from nI_add _ _]
  refine pw_saldN (j := (i + 2)) dL_law_822 hL (by omega) (by omega) ?_
  refine pe_callVi dL_law_823 oX_X7_hoursTo lk_RL_100 (sp_x_hoursTo (nA := nA) hT pA pA8) (tw_k hT) rfl rfl (Nat.le_of_ble_eq_true rfl) (by decide) ?_
  refine pw_aload_n dL_law_826 rfl rfl ?_
  refine pw_aload_n dL_law_827 rfl rfl ?_
  refine pw_iload_n dL_law_828 rfl rfl ?_
  refine pw_iconst (v := 1) dL_law_829 (by decide) ?_
  refine pw_iadd dL_law_830 ?_
  rw [show (nI i + 1 : Int32) = nI (i + 1) from nI_add _ _]
  refine pw_saldN (j := (i + 1)) dL_law_831 hL (by omega) (by omega) ?_
  refine pw_aload_n dL_law_832 rfl rfl ?_
  refine pw_iload_n dL_law_833 rfl rfl ?_
  refine pw_iconst (v := 2) dL_law_834 (by decide) ?_
  refine pw_iadd dL_law_835 ?_
  rw [show (nI i + 2 : Int32) = nI (i + 2) from nI_add _ _]
  refine pw_saldN (j := (i + 2)) dL_law_836 hL (by omega) (by omega) ?_
  refine pe_callVi dL_law_837 oX_X8_hoursTo lk_RL_103 (sp_m_hoursTo (nA := nA) hMo fA fA8) (mo_k hMo) rfl rfl (Nat.le_of_ble_eq_true rfl) (by decide) ?_
  have e1 := hoursTo_eq (a := I 0 (i + 1)) (w := I 0 (i + 2)) h.1.1
  refine pw_icmp_eq (tgt := 1023) dL_law_840 (by decide) (fun c_840 => ?_) (fun c_840 => absurd e1 c_840)
  exact K _ _ ⟨nA, nC, n, o, z, l, h⟩

theorem law_asset {σ : pT} {x m L i nA nC n o z l : Nat} {I : pI} {F : pF} (hT : isTW σ x) (hMo : isMo σ m) (hL : (σ.2.1 0).2 = L) (hL4 : L ≤ 3584) (hx : 1 ≤ x) (hm : x + 320 ≤ m) (hi : i + 7 ≤ L) (h : InvP x m nA nC n o z l I F) (K : ∀ (I' : pI) (F' : pF), Inv x m I' F' → PW cL_law mW lwZ 1023 [.ref 0, .ref x, .ref m, .int (nI i), pJ, pJ, pJ, pJ] [] σ I' F' (0, 0)) : PW cL_law mW lwZ 845 [.ref 0, .ref x, .ref m, .int (nI i), pJ, pJ, pJ, pJ] [] σ I F (0, 0) := by
  have hk := InvP_cOK h
  have hpk := Rep_pOK h.1.1
  obtain ⟨pA, pA8, pC, pC5, pn, pn4, pW, pKd, pb⟩ := id hpk
  obtain ⟨-, -, -, -, -, -, -, -, -, ho, ho4, hz, hz4⟩ := id hk
  have hl1 := h.2.2.2.2.1.1
  have hl6 := h.2.2.2.2.1.2.2.1
  obtain ⟨n6, z4, n9, l6, em1, eh, eo, fA, fA8, fC, fC5, fn, fn4, fW, fKd, fG⟩ := inv_now hm h (fun i _ => ⟨rfl, rfl⟩)
  refine pw_aload_n dL_law_845 rfl rfl ?_
  refine pw_aload_n dL_law_846 rfl rfl ?_
  refine pw_iload_n dL_law_847 rfl rfl ?_
  refine pw_iconst (v := 1) dL_law_848 (by decide) ?_
  refine pw_iadd dL_law_849 ?_
  rw [show (nI i + 1 : Int32) = nI (i + 1) from nI_add _ _]
  refine pw_saldN (j := (i + 1)) dL_law_850 hL (by omega) (by omega) ?_
  refine pw_aload_n dL_law_851 rfl rfl ?_
  refine pw_iload_n dL_law_852 rfl rfl ?_
  refine pw_iconst (v := 2) dL_law_853 (by decide) ?_
  refine pw_iadd dL_law_854 ?_
  rw [show (nI i + 2 : Int32) = nI (i + 2) from nI_add _ _]
  refine pw_saldN (j := (i + 2)) dL_law_855 hL (by omega) (by omega) ?_
  refine pe_callVi dL_law_856 oX_X7_asset lk_RL_104 (sp_x_asset (nA := nA) (n := n) hT pA pA8 pn pn4) (tw_k hT) rfl rfl (Nat.le_of_ble_eq_true rfl) (by decide) ?_
  refine pw_aload_n dL_law_859 rfl rfl ?_
  refine pw_aload_n dL_law_860 rfl rfl ?_
  refine pw_iload_n dL_law_861 rfl rfl ?_
  refine pw_iconst (v := 1) dL_law_862 (by decide) ?_
  refine pw_iadd dL_law_863 ?_
  rw [show (nI i + 1 : Int32) = nI (i + 1) from nI_add _ _]
  refine pw_saldN (j := (i + 1)) dL_law_864 hL (by omega) (by omega) ?_
  refine pw_aload_n dL_law_865 rfl rfl ?_
  refine pw_iload_n dL_law_866 rfl rfl ?_
  refine pw_iconst (v := 2) dL_law_867 (by decide) ?_
  refine pw_iadd dL_law_868 ?_
  rw [show (nI i + 2 : Int32) = nI (i + 2) from nI_add _ _]
  refine pw_saldN (j := (i + 2)) dL_law_869 hL (by omega) (by omega) ?_
  refine pe_callVi dL_law_870 oX_X8_asset lk_RL_107 (sp_m_asset (nA := nA) (n := n) hMo fA fA8 fn fn4 fG) (mo_k hMo) rfl rfl (Nat.le_of_ble_eq_true rfl) (by decide) ?_
  have e1 := asset_eq (a := I 0 (i + 1)) (w := I 0 (i + 2)) h.1.1
  refine pw_icmp_eq (tgt := 1023) dL_law_873 (by decide) (fun c_873 => ?_) (fun c_873 => absurd e1 c_873)
  exact K _ _ ⟨nA, nC, n, o, z, l, h⟩

theorem law_tagAt {σ : pT} {x m L i nA nC n o z l : Nat} {I : pI} {F : pF} (hT : isTW σ x) (hMo : isMo σ m) (hL : (σ.2.1 0).2 = L) (hL4 : L ≤ 3584) (hx : 1 ≤ x) (hm : x + 320 ≤ m) (hi : i + 7 ≤ L) (h : InvP x m nA nC n o z l I F) (K : ∀ (I' : pI) (F' : pF), Inv x m I' F' → PW cL_law mW lwZ 1023 [.ref 0, .ref x, .ref m, .int (nI i), pJ, pJ, pJ, pJ] [] σ I' F' (0, 0)) : PW cL_law mW lwZ 878 [.ref 0, .ref x, .ref m, .int (nI i), pJ, pJ, pJ, pJ] [] σ I F (0, 0) := by
  have hk := InvP_cOK h
  have hpk := Rep_pOK h.1.1
  obtain ⟨pA, pA8, pC, pC5, pn, pn4, pW, pKd, pb⟩ := id hpk
  obtain ⟨-, -, -, -, -, -, -, -, -, ho, ho4, hz, hz4⟩ := id hk
  have hl1 := h.2.2.2.2.1.1
  have hl6 := h.2.2.2.2.1.2.2.1
  obtain ⟨n6, z4, n9, l6, em1, eh, eo, fA, fA8, fC, fC5, fn, fn4, fW, fKd, fG⟩ := inv_now hm h (fun i _ => ⟨rfl, rfl⟩)
  refine pw_aload_n dL_law_878 rfl rfl ?_
  refine pw_aload_n dL_law_879 rfl rfl ?_
  refine pw_iload_n dL_law_880 rfl rfl ?_
  refine pw_iconst (v := 1) dL_law_881 (by decide) ?_
  refine pw_iadd dL_law_882 ?_
  rw [show (nI i + 1 : Int32) = nI (i + 1) from nI_add _ _]
  refine pw_saldN (j := (i + 1)) dL_law_883 hL (by omega) (by omega) ?_
  refine pw_aload_n dL_law_884 rfl rfl ?_
  refine pw_iload_n dL_law_885 rfl rfl ?_
  refine pw_iconst (v := 2) dL_law_886 (by decide) ?_
  refine pw_iadd dL_law_887 ?_
  rw [show (nI i + 2 : Int32) = nI (i + 2) from nI_add _ _]
  refine pw_saldN (j := (i + 2)) dL_law_888 hL (by omega) (by omega) ?_
  refine pe_callVi dL_law_889 oX_X7_tagAt lk_RL_108 (sp_x_tagAt (nA := nA) (n := n) hT pA pA8 pn pn4) (tw_k hT) rfl rfl (Nat.le_of_ble_eq_true rfl) (by decide) ?_
  refine pw_aload_n dL_law_892 rfl rfl ?_
  refine pw_aload_n dL_law_893 rfl rfl ?_
  refine pw_iload_n dL_law_894 rfl rfl ?_
  refine pw_iconst (v := 1) dL_law_895 (by decide) ?_
  refine pw_iadd dL_law_896 ?_
  rw [show (nI i + 1 : Int32) = nI (i + 1) from nI_add _ _]
  refine pw_saldN (j := (i + 1)) dL_law_897 hL (by omega) (by omega) ?_
  refine pw_aload_n dL_law_898 rfl rfl ?_
  refine pw_iload_n dL_law_899 rfl rfl ?_
  refine pw_iconst (v := 2) dL_law_900 (by decide) ?_
  refine pw_iadd dL_law_901 ?_
  rw [show (nI i + 2 : Int32) = nI (i + 2) from nI_add _ _]
  refine pw_saldN (j := (i + 2)) dL_law_902 hL (by omega) (by omega) ?_
  refine pe_callVi dL_law_903 oX_X8_tagAt lk_RL_111 (sp_m_tagAt (nA := nA) hMo fA fA8 fG) (mo_k hMo) rfl rfl (Nat.le_of_ble_eq_true rfl) (by decide) ?_
  have e1 := tagAt_eq (a := I 0 (i + 1)) (w := I 0 (i + 2)) h.1.1
  refine pw_icmp_eq (tgt := 1023) dL_law_906 (by decide) (fun c_906 => ?_) (fun c_906 => absurd e1 c_906)
  exact K _ _ ⟨nA, nC, n, o, z, l, h⟩

theorem law_crew {σ : pT} {x m L i nA nC n o z l : Nat} {I : pI} {F : pF} (hT : isTW σ x) (hMo : isMo σ m) (hL : (σ.2.1 0).2 = L) (hL4 : L ≤ 3584) (hx : 1 ≤ x) (hm : x + 320 ≤ m) (hi : i + 7 ≤ L) (h : InvP x m nA nC n o z l I F) (K : ∀ (I' : pI) (F' : pF), Inv x m I' F' → PW cL_law mW lwZ 1023 [.ref 0, .ref x, .ref m, .int (nI i), pJ, pJ, pJ, pJ] [] σ I' F' (0, 0)) : PW cL_law mW lwZ 911 [.ref 0, .ref x, .ref m, .int (nI i), pJ, pJ, pJ, pJ] [] σ I F (0, 0) := by
  have hk := InvP_cOK h
  have hpk := Rep_pOK h.1.1
  obtain ⟨pA, pA8, pC, pC5, pn, pn4, pW, pKd, pb⟩ := id hpk
  obtain ⟨-, -, -, -, -, -, -, -, -, ho, ho4, hz, hz4⟩ := id hk
  have hl1 := h.2.2.2.2.1.1
  have hl6 := h.2.2.2.2.1.2.2.1
  obtain ⟨n6, z4, n9, l6, em1, eh, eo, fA, fA8, fC, fC5, fn, fn4, fW, fKd, fG⟩ := inv_now hm h (fun i _ => ⟨rfl, rfl⟩)
  refine pw_aload_n dL_law_911 rfl rfl ?_
  refine pw_aload_n dL_law_912 rfl rfl ?_
  refine pw_iload_n dL_law_913 rfl rfl ?_
  refine pw_iconst (v := 1) dL_law_914 (by decide) ?_
  refine pw_iadd dL_law_915 ?_
  rw [show (nI i + 1 : Int32) = nI (i + 1) from nI_add _ _]
  refine pw_saldN (j := (i + 1)) dL_law_916 hL (by omega) (by omega) ?_
  refine pw_aload_n dL_law_917 rfl rfl ?_
  refine pw_iload_n dL_law_918 rfl rfl ?_
  refine pw_iconst (v := 2) dL_law_919 (by decide) ?_
  refine pw_iadd dL_law_920 ?_
  rw [show (nI i + 2 : Int32) = nI (i + 2) from nI_add _ _]
  refine pw_saldN (j := (i + 2)) dL_law_921 hL (by omega) (by omega) ?_
  refine pe_callVi dL_law_922 oX_X7_crew lk_RL_112 (sp_x_crew (nC := nC) (n := n) hT pC pC5 pn pn4) (tw_k hT) rfl rfl (Nat.le_of_ble_eq_true rfl) (by decide) ?_
  refine pw_aload_n dL_law_925 rfl rfl ?_
  refine pw_aload_n dL_law_926 rfl rfl ?_
  refine pw_iload_n dL_law_927 rfl rfl ?_
  refine pw_iconst (v := 1) dL_law_928 (by decide) ?_
  refine pw_iadd dL_law_929 ?_
  rw [show (nI i + 1 : Int32) = nI (i + 1) from nI_add _ _]
  refine pw_saldN (j := (i + 1)) dL_law_930 hL (by omega) (by omega) ?_
  refine pw_aload_n dL_law_931 rfl rfl ?_
  refine pw_iload_n dL_law_932 rfl rfl ?_
  refine pw_iconst (v := 2) dL_law_933 (by decide) ?_
  refine pw_iadd dL_law_934 ?_
  rw [show (nI i + 2 : Int32) = nI (i + 2) from nI_add _ _]
  refine pw_saldN (j := (i + 2)) dL_law_935 hL (by omega) (by omega) ?_
  refine pe_callVi dL_law_936 oX_X8_crew lk_RL_115 (sp_m_crew (nC := nC) (n := n) hMo fC fC5 fn fn4) (mo_k hMo) rfl rfl (Nat.le_of_ble_eq_true rfl) (by decide) ?_
  have e1 := crew_eq (a := I 0 (i + 1)) (w := I 0 (i + 2)) h.1.1
  refine pw_icmp_eq (tgt := 1023) dL_law_939 (by decide) (fun c_939 => ?_) (fun c_939 => absurd e1 c_939)
  exact K _ _ ⟨nA, nC, n, o, z, l, h⟩

theorem law_task {σ : pT} {x m L i nA nC n o z l : Nat} {I : pI} {F : pF} (hT : isTW σ x) (hMo : isMo σ m) (hL : (σ.2.1 0).2 = L) (hL4 : L ≤ 3584) (hx : 1 ≤ x) (hm : x + 320 ≤ m) (hi : i + 7 ≤ L) (h : InvP x m nA nC n o z l I F) (K : ∀ (I' : pI) (F' : pF), Inv x m I' F' → PW cL_law mW lwZ 1023 [.ref 0, .ref x, .ref m, .int (nI i), pJ, pJ, pJ, pJ] [] σ I' F' (0, 0)) : PW cL_law mW lwZ 944 [.ref 0, .ref x, .ref m, .int (nI i), pJ, pJ, pJ, pJ] [] σ I F (0, 0) := by
  have hk := InvP_cOK h
  have hpk := Rep_pOK h.1.1
  obtain ⟨pA, pA8, pC, pC5, pn, pn4, pW, pKd, pb⟩ := id hpk
  obtain ⟨-, -, -, -, -, -, -, -, -, ho, ho4, hz, hz4⟩ := id hk
  have hl1 := h.2.2.2.2.1.1
  have hl6 := h.2.2.2.2.1.2.2.1
  obtain ⟨n6, z4, n9, l6, em1, eh, eo, fA, fA8, fC, fC5, fn, fn4, fW, fKd, fG⟩ := inv_now hm h (fun i _ => ⟨rfl, rfl⟩)
  refine pw_aload_n dL_law_944 rfl rfl ?_
  refine pw_aload_n dL_law_945 rfl rfl ?_
  refine pw_iload_n dL_law_946 rfl rfl ?_
  refine pw_iconst (v := 1) dL_law_947 (by decide) ?_
  refine pw_iadd dL_law_948 ?_
  rw [show (nI i + 1 : Int32) = nI (i + 1) from nI_add _ _]
  refine pw_saldN (j := (i + 1)) dL_law_949 hL (by omega) (by omega) ?_
  refine pw_aload_n dL_law_950 rfl rfl ?_
  refine pw_iload_n dL_law_951 rfl rfl ?_
  refine pw_iconst (v := 2) dL_law_952 (by decide) ?_
  refine pw_iadd dL_law_953 ?_
  rw [show (nI i + 2 : Int32) = nI (i + 2) from nI_add _ _]
  refine pw_saldN (j := (i + 2)) dL_law_954 hL (by omega) (by omega) ?_
  refine pe_callVi dL_law_955 oX_X7_task lk_RL_116 (sp_x_task (nA := nA) (n := n) hT pA pA8 pn pn4 pW pKd) (tw_k hT) rfl rfl (Nat.le_of_ble_eq_true rfl) (by decide) ?_
  refine pw_aload_n dL_law_958 rfl rfl ?_
  refine pw_aload_n dL_law_959 rfl rfl ?_
  refine pw_iload_n dL_law_960 rfl rfl ?_
  refine pw_iconst (v := 1) dL_law_961 (by decide) ?_
  refine pw_iadd dL_law_962 ?_
  rw [show (nI i + 1 : Int32) = nI (i + 1) from nI_add _ _]
  refine pw_saldN (j := (i + 1)) dL_law_963 hL (by omega) (by omega) ?_
  refine pw_aload_n dL_law_964 rfl rfl ?_
  refine pw_iload_n dL_law_965 rfl rfl ?_
  refine pw_iconst (v := 2) dL_law_966 (by decide) ?_
  refine pw_iadd dL_law_967 ?_
  rw [show (nI i + 2 : Int32) = nI (i + 2) from nI_add _ _]
  refine pw_saldN (j := (i + 2)) dL_law_968 hL (by omega) (by omega) ?_
  refine pe_callVi dL_law_969 oX_X8_task lk_RL_119 (sp_m_task (nA := nA) (n := n) hMo fA fA8 fn fn4 fW fKd) (mo_k hMo) rfl rfl (Nat.le_of_ble_eq_true rfl) (by decide) ?_
  have e1 := task_eq (a := I 0 (i + 1)) (w := I 0 (i + 2)) h.1.1
  refine pw_icmp_eq (tgt := 1023) dL_law_972 (by decide) (fun c_972 => ?_) (fun c_972 => absurd e1 c_972)
  exact K _ _ ⟨nA, nC, n, o, z, l, h⟩

theorem law_crewFor {σ : pT} {x m L i nA nC n o z l : Nat} {I : pI} {F : pF} (hT : isTW σ x) (hMo : isMo σ m) (hL : (σ.2.1 0).2 = L) (hL4 : L ≤ 3584) (hx : 1 ≤ x) (hm : x + 320 ≤ m) (hi : i + 7 ≤ L) (h : InvP x m nA nC n o z l I F) (K : ∀ (I' : pI) (F' : pF), Inv x m I' F' → PW cL_law mW lwZ 1023 [.ref 0, .ref x, .ref m, .int (nI i), pJ, pJ, pJ, pJ] [] σ I' F' (0, 0)) : PW cL_law mW lwZ 977 [.ref 0, .ref x, .ref m, .int (nI i), pJ, pJ, pJ, pJ] [] σ I F (0, 0) := by
  have hk := InvP_cOK h
  have hpk := Rep_pOK h.1.1
  obtain ⟨pA, pA8, pC, pC5, pn, pn4, pW, pKd, pb⟩ := id hpk
  obtain ⟨-, -, -, -, -, -, -, -, -, ho, ho4, hz, hz4⟩ := id hk
  have hl1 := h.2.2.2.2.1.1
  have hl6 := h.2.2.2.2.1.2.2.1
  obtain ⟨n6, z4, n9, l6, em1, eh, eo, fA, fA8, fC, fC5, fn, fn4, fW, fKd, fG⟩ := inv_now hm h (fun i _ => ⟨rfl, rfl⟩)
  refine pw_aload_n dL_law_977 rfl rfl ?_
  refine pw_aload_n dL_law_978 rfl rfl ?_
  refine pw_iload_n dL_law_979 rfl rfl ?_
  refine pw_iconst (v := 1) dL_law_980 (by decide) ?_
  refine pw_iadd dL_law_981 ?_
  rw [show (nI i + 1 : Int32) = nI (i + 1) from nI_add _ _]
  refine pw_saldN (j := (i + 1)) dL_law_982 hL (by omega) (by omega) ?_
  refine pe_callVi dL_law_983 oX_X7_crewFor lk_RL_120 (sp_x_crewFor (nC := nC) (n := n) hT pC pC5 pn pn4) (tw_k hT) rfl rfl (Nat.le_of_ble_eq_true rfl) (by decide) ?_
  refine pw_aload_n dL_law_986 rfl rfl ?_
  refine pw_aload_n dL_law_987 rfl rfl ?_
  refine pw_iload_n dL_law_988 rfl rfl ?_
  refine pw_iconst (v := 1) dL_law_989 (by decide) ?_
  refine pw_iadd dL_law_990 ?_
  rw [show (nI i + 1 : Int32) = nI (i + 1) from nI_add _ _]
  refine pw_saldN (j := (i + 1)) dL_law_991 hL (by omega) (by omega) ?_
  refine pe_callVi dL_law_992 oX_X8_crewFor lk_RL_123 (sp_m_crewFor (nC := nC) (n := n) hMo fC fC5 fn fn4) (mo_k hMo) rfl rfl (Nat.le_of_ble_eq_true rfl) (by decide) ?_
  have e1 := crewFor_eq (a := I 0 (i + 1)) h.1.1
  refine pw_icmp_eq (tgt := 1023) dL_law_995 (by decide) (fun c_995 => ?_) (fun c_995 => absurd e1 c_995)
  exact K _ _ ⟨nA, nC, n, o, z, l, h⟩

theorem law_count {σ : pT} {x m L i nA nC n o z l : Nat} {I : pI} {F : pF} (hT : isTW σ x) (hMo : isMo σ m) (hL : (σ.2.1 0).2 = L) (hL4 : L ≤ 3584) (hx : 1 ≤ x) (hm : x + 320 ≤ m) (hi : i + 7 ≤ L) (h : InvP x m nA nC n o z l I F) (K : ∀ (I' : pI) (F' : pF), Inv x m I' F' → PW cL_law mW lwZ 1023 [.ref 0, .ref x, .ref m, .int (nI i), pJ, pJ, pJ, pJ] [] σ I' F' (0, 0)) : PW cL_law mW lwZ 1000 [.ref 0, .ref x, .ref m, .int (nI i), pJ, pJ, pJ, pJ] [] σ I F (0, 0) := by
  have hk := InvP_cOK h
  have hpk := Rep_pOK h.1.1
  obtain ⟨pA, pA8, pC, pC5, pn, pn4, pW, pKd, pb⟩ := id hpk
  obtain ⟨-, -, -, -, -, -, -, -, -, ho, ho4, hz, hz4⟩ := id hk
  have hl1 := h.2.2.2.2.1.1
  have hl6 := h.2.2.2.2.1.2.2.1
  obtain ⟨n6, z4, n9, l6, em1, eh, eo, fA, fA8, fC, fC5, fn, fn4, fW, fKd, fG⟩ := inv_now hm h (fun i _ => ⟨rfl, rfl⟩)
  refine pw_aload_n dL_law_1000 rfl rfl ?_
  refine pw_aload_n dL_law_1001 rfl rfl ?_
  refine pw_iload_n dL_law_1002 rfl rfl ?_
  refine pw_iconst (v := 1) dL_law_1003 (by decide) ?_
  refine pw_iadd dL_law_1004 ?_
  rw [show (nI i + 1 : Int32) = nI (i + 1) from nI_add _ _]
  refine pw_saldN (j := (i + 1)) dL_law_1005 hL (by omega) (by omega) ?_
  refine pe_callVi dL_law_1006 oX_X7_count lk_RL_124 (sp_x_count (nA := nA) (n := n) hT pA pA8 pn pn4) (tw_k hT) rfl rfl (Nat.le_of_ble_eq_true rfl) (by decide) ?_
  refine pw_aload_n dL_law_1009 rfl rfl ?_
  refine pw_aload_n dL_law_1010 rfl rfl ?_
  refine pw_iload_n dL_law_1011 rfl rfl ?_
  refine pw_iconst (v := 1) dL_law_1012 (by decide) ?_
  refine pw_iadd dL_law_1013 ?_
  rw [show (nI i + 1 : Int32) = nI (i + 1) from nI_add _ _]
  refine pw_saldN (j := (i + 1)) dL_law_1014 hL (by omega) (by omega) ?_
  refine pe_callVi dL_law_1015 oX_X8_count lk_RL_127 (sp_m_count (nA := nA) (nC := nC) (n := n) hMo fA fA8 fC fC5 fn fn4) (mo_k hMo) rfl rfl (Nat.le_of_ble_eq_true rfl) (by decide) ?_
  have e1 := count_eq (m := m) (w := I 0 (i + 1)) h.1.1 (hz.trans h.2.1.2.2.2.2.symm) (hl1.trans h.2.2.2.2.1.2.1.symm)
  refine pw_icmp_eq (tgt := 1023) dL_law_1018 (by decide) (fun c_1018 => ?_) (fun c_1018 => absurd e1 c_1018)
  exact K _ _ ⟨nA, nC, n, o, z, l, h⟩
