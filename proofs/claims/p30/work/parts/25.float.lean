/-! FLOATS: health stays between a hundredth and one, output stays 0 or more -/
def v32 (a : UInt32) : Int := FP.Core.zval FP.Core.b32 (FP.Core.val32 a)
theorem v_ne {a : UInt32} (h : FP.Core.FFin a) : FP.Core.val32 a ≠ .nan := by
  obtain ⟨s, c, q, h⟩ := h
  rw [h]
  exact FP.Core.Datum.noConfusion
theorem v_fin {a : UInt32} (h : FP.Core.val32 a ≠ .nan) (h1 : 0 ≤ v32 a) (h2 : v32 a ≤ 16 * 2 ^ 145) : FP.Core.FFin a := by
  cases e : FP.Core.val32 a with
  | nan => exact absurd e h
  | fin s c q => exact ⟨s, c, q, e⟩
  | inf s =>
    exfalso
    unfold v32 at h1 h2
    rw [e] at h1 h2
    cases s
    · exact absurd h2 (by decide +kernel)
    · exact absurd h1 (by decide +kernel)
theorem sg_mul (s t : Bool) (m k : Nat) : FP.Core.signed (s != t) (m * k) = FP.Core.signed s m * FP.Core.signed t k := by
  cases s <;> cases t <;> simp [FP.Core.signed, Int.neg_mul, Int.mul_neg]
theorem fadd_r {a b : UInt32} (ha : FP.Core.FFin a) (hb : FP.Core.FFin b) : FP.Core.val32 (FP.fadd a b) ≠ .nan ∧ ∀ V, FP.Core.fits FP.Core.b32 V → V ≠ .nan → (v32 a + v32 b ≤ FP.Core.zval FP.Core.b32 V → v32 (FP.fadd a b) ≤ FP.Core.zval FP.Core.b32 V) ∧ (FP.Core.zval FP.Core.b32 V ≤ v32 a + v32 b → FP.Core.zval FP.Core.b32 V ≤ v32 (FP.fadd a b)) := by
  obtain ⟨s, c, q, ha⟩ := ha
  obtain ⟨t, d, r, hb⟩ := hb
  have fa := FP.Core.val32_fits a
  have fb := FP.Core.val32_fits b
  rw [ha] at fa
  rw [hb] at fb
  obtain ⟨sg, n, e, h1, h2, h3⟩ := FP.Core.sum_units fa fb
  have e1 : FP.Core.val32 (FP.fadd a b) = FP.Core.round FP.Core.b32 (.fin sg n e) := by
    rw [show FP.fadd a b = FP.Core.fadd a b from rfl, FP.Core.val32_fadd, ha, hb, h1]
  have e2 : v32 a + v32 b = FP.Core.signed sg (FP.Core.inUnits n e FP.Core.b32.qmin) := by
    unfold v32
    rw [ha, hb, h3]
  refine ⟨by rw [e1]; exact FP.Core.roundRatio_ne_nan _ _ _ _ _, fun V hV hn => ⟨fun h => ?_, fun h => ?_⟩⟩
  · unfold v32
    rw [e1]
    exact FP.Core.zval_round_le FP.Core.good_b32 hV hn (Int.le_refl _) h2 (by rw [Int.sub_self, ← e2]; simpa using h)
  · unfold v32
    rw [e1]
    exact FP.Core.zval_round_ge FP.Core.good_b32 hV hn (Int.le_refl _) h2 (by rw [Int.sub_self, ← e2]; simpa using h)
theorem fsub_r {a b : UInt32} (ha : FP.Core.FFin a) (hb : FP.Core.FFin b) : FP.Core.val32 (FP.fsub a b) ≠ .nan ∧ ∀ V, FP.Core.fits FP.Core.b32 V → V ≠ .nan → (v32 a - v32 b ≤ FP.Core.zval FP.Core.b32 V → v32 (FP.fsub a b) ≤ FP.Core.zval FP.Core.b32 V) ∧ (FP.Core.zval FP.Core.b32 V ≤ v32 a - v32 b → FP.Core.zval FP.Core.b32 V ≤ v32 (FP.fsub a b)) := by
  obtain ⟨s, c, q, ha⟩ := ha
  obtain ⟨t, d, r, hb⟩ := hb
  have fa := FP.Core.val32_fits a
  have fb := FP.Core.negate_fits (FP.Core.val32_fits b)
  have zb := FP.Core.zval_negate FP.Core.b32 (FP.Core.val32 b)
  rw [ha] at fa
  rw [hb] at fb zb
  obtain ⟨sg, n, e, h1, h2, h3⟩ := FP.Core.sum_units (t := !t) (d := d) (r := r) fa fb
  have e1 : FP.Core.val32 (FP.fsub a b) = FP.Core.round FP.Core.b32 (.fin sg n e) := by
    rw [show FP.fsub a b = FP.Core.fsub a b from rfl, FP.Core.val32_fsub, ha, hb, ← h1]
    rfl
  have e2 : v32 a - v32 b = FP.Core.signed sg (FP.Core.inUnits n e FP.Core.b32.qmin) := by
    rw [h3]
    unfold v32
    rw [ha, hb]
    have zb2 : FP.Core.zval FP.Core.b32 (.fin (!t) d r) = -FP.Core.zval FP.Core.b32 (.fin t d r) := zb
    rw [zb2]
    omega
  refine ⟨by rw [e1]; exact FP.Core.roundRatio_ne_nan _ _ _ _ _, fun V hV hn => ⟨fun h => ?_, fun h => ?_⟩⟩
  · unfold v32
    rw [e1]
    exact FP.Core.zval_round_le FP.Core.good_b32 hV hn (Int.le_refl _) h2 (by rw [Int.sub_self, ← e2]; simpa using h)
  · unfold v32
    rw [e1]
    exact FP.Core.zval_round_ge FP.Core.good_b32 hV hn (Int.le_refl _) h2 (by rw [Int.sub_self, ← e2]; simpa using h)
theorem fmul_r {a b : UInt32} (ha : FP.Core.FFin a) (hb : FP.Core.FFin b) : FP.Core.val32 (FP.fmul a b) ≠ .nan ∧ ∀ V, FP.Core.fits FP.Core.b32 V → V ≠ .nan → (v32 a * v32 b ≤ FP.Core.zval FP.Core.b32 V * (16 * 2 ^ 145) → v32 (FP.fmul a b) ≤ FP.Core.zval FP.Core.b32 V) ∧ (FP.Core.zval FP.Core.b32 V * (16 * 2 ^ 145) ≤ v32 a * v32 b → FP.Core.zval FP.Core.b32 V ≤ v32 (FP.fmul a b)) := by
  obtain ⟨s, c, q, ha⟩ := ha
  obtain ⟨t, d, r, hb⟩ := hb
  have fa := FP.Core.val32_fits a
  have fb := FP.Core.val32_fits b
  rw [ha] at fa
  rw [hb] at fb
  obtain ⟨h1, h2, h3⟩ := FP.Core.product_units fa fb
  have e1 : FP.Core.val32 (FP.fmul a b) = FP.Core.round FP.Core.b32 (.fin (s != t) (c * d) (q + r)) := by
    rw [show FP.fmul a b = FP.Core.fmul a b from rfl, FP.Core.val32_fmul, ha, hb, h1]
  have e2 : v32 a * v32 b = FP.Core.signed (s != t) (FP.Core.inUnits (c * d) (q + r) (2 * FP.Core.b32.qmin)) := by
    rw [h3, sg_mul]
    unfold v32
    rw [ha, hb]
    rfl
  have e3 : (((2 ^ (FP.Core.b32.qmin - 2 * FP.Core.b32.qmin).toNat : Nat)) : Int) = 16 * 2 ^ 145 := by decide +kernel
  refine ⟨by rw [e1]; exact FP.Core.roundRatio_ne_nan _ _ _ _ _, fun V hV hn => ⟨fun h => ?_, fun h => ?_⟩⟩
  · unfold v32
    rw [e1]
    exact FP.Core.zval_round_le FP.Core.good_b32 hV hn (by decide +kernel) h2 (by rw [e3, ← e2]; exact h)
  · unfold v32
    rw [e1]
    exact FP.Core.zval_round_ge FP.Core.good_b32 hV hn (by decide +kernel) h2 (by rw [e3, ← e2]; exact h)
/-- whether a float is a health, a wear, an output -/
def HOK (a : UInt32) : Prop := FP.Core.val32 a ≠ .nan ∧ v32 1008981770 ≤ v32 a ∧ v32 a ≤ 16 * 2 ^ 145
def WOK (a : UInt32) : Prop := FP.Core.val32 a ≠ .nan ∧ 0 ≤ v32 a ∧ v32 a ≤ 16 * 2 ^ 145
def OOK (a : UInt32) : Prop := FP.Core.val32 a ≠ .nan ∧ 0 ≤ v32 a
theorem k_01 : 0 < v32 1008981770 := by decide +kernel
theorem k_01a : v32 1008981770 ≤ 16 * 2 ^ 145 := by decide +kernel
theorem k_1 : v32 1065353216 = 16 * 2 ^ 145 := by decide +kernel
theorem k_34 : v32 1061158912 = 12 * 2 ^ 145 := by decide +kernel
theorem k_916 : v32 1058013184 = 9 * 2 ^ 145 := by decide +kernel
theorem k_716 : v32 1054867456 = 7 * 2 ^ 145 := by decide +kernel
theorem k_0 : v32 0 = 0 := by decide +kernel
theorem n_01 : FP.Core.val32 1008981770 ≠ .nan := by decide +kernel
theorem n_1 : FP.Core.val32 1065353216 ≠ .nan := by decide +kernel
theorem n_34 : FP.Core.val32 1061158912 ≠ .nan := by decide +kernel
theorem n_916 : FP.Core.val32 1058013184 ≠ .nan := by decide +kernel
theorem n_716 : FP.Core.val32 1054867456 ≠ .nan := by decide +kernel
theorem n_0 : FP.Core.val32 0 ≠ .nan := by decide +kernel
theorem H_fin {a : UInt32} (h : HOK a) : FP.Core.FFin a := v_fin h.1 (by have := k_01; have := h.2.1; omega) h.2.2
theorem W_fin {a : UInt32} (h : WOK a) : FP.Core.FFin a := v_fin h.1 h.2.1 h.2.2
theorem H_01 : HOK 1008981770 := ⟨n_01, Int.le_refl _, k_01a⟩
theorem H_1 : HOK 1065353216 := ⟨n_1, by rw [k_1]; exact k_01a, by rw [k_1]; exact Int.le_refl _⟩
theorem O_0 : OOK 0 := ⟨n_0, by rw [k_0]; exact Int.le_refl _⟩
theorem mul_le_one {x y U : Int} (hx : 0 ≤ x) (hy : y ≤ U) : x * y ≤ x * U := Int.mul_le_mul_of_nonneg_left hy hx
theorem wear_le {w h : UInt32} (hw : WOK w) (hh : HOK h) : FP.Core.FFin (FP.fmul h w) ∧ 0 ≤ v32 (FP.fmul h w) := by
  obtain ⟨m1, m2⟩ := fmul_r (H_fin hh) (W_fin hw)
  have hp : 0 ≤ v32 h := by have := k_01; have := hh.2.1; omega
  have l1 : v32 (FP.fmul h w) ≤ v32 h := (m2 _ (FP.Core.val32_fits h) hh.1).1 (Int.mul_le_mul_of_nonneg_left hw.2.2 hp)
  have l2 : v32 0 ≤ v32 (FP.fmul h w) := (m2 _ (FP.Core.val32_fits 0) n_0).2 (by
    have h0 := k_0
    unfold v32 at h0
    rw [h0, Int.zero_mul]
    exact Int.mul_nonneg hp hw.2.1)
  rw [k_0] at l2
  exact ⟨v_fin m1 l2 (Int.le_trans l1 hh.2.2), l2⟩
theorem cmp_ge {x y : UInt32} (hx : FP.Core.val32 x ≠ .nan) (hy : FP.Core.val32 y ≠ .nan) : FP.fcmp x y = some (compare (v32 x) (v32 y)) := FP.Core.fcmp_zval hx hy
theorem c_g {x y : UInt32} (hx : FP.Core.val32 x ≠ .nan) (hy : FP.Core.val32 y ≠ .nan) (op : CmpOp) : (v32 x ≤ v32 y → Op.cmpValue (FP.fcmp x y) op ≤ 0) ∧ (v32 y ≤ v32 x → 0 ≤ Op.cmpValue (FP.fcmp x y) op) ∧ (0 ≤ Op.cmpValue (FP.fcmp x y) op → v32 y ≤ v32 x) := by
  rw [cmp_ge hx hy]
  rcases Int.lt_trichotomy (v32 x) (v32 y) with h | h | h
  · rw [(FP.Core.compare_lt_iff _ _).mpr h]
    exact ⟨fun _ => by cases op <;> decide, fun h2 => by omega, fun h2 => absurd h2 (by cases op <;> decide)⟩
  · rw [(FP.Core.compare_eq_iff _ _).mpr h]
    exact ⟨fun _ => by cases op <;> decide, fun _ => by cases op <;> decide, fun _ => by omega⟩
  · rw [(FP.Core.compare_gt_iff _ _).mpr h]
    exact ⟨fun h2 => by omega, fun _ => by cases op <;> decide, fun _ => by omega⟩
theorem worn_ok {w h : UInt32} (hw : WOK w) (hh : HOK h) : HOK (wornF w h) := by
  obtain ⟨p1, p2⟩ := wear_le hw hh
  obtain ⟨s1, s2⟩ := fsub_r (H_fin hh) p1
  unfold wornF
  split
  · rename_i hc
    refine ⟨s1, (c_g s1 n_01 .g).2.2 hc, Int.le_trans ((s2 _ (FP.Core.val32_fits h) hh.1).1 ?_) hh.2.2⟩
    show v32 h - _ ≤ v32 h
    omega
  · exact H_01
/-- the exact rest to one, from a half on -/
theorem rest_ok {h : UInt32} (hh : HOK h) (h8 : 8 * 2 ^ 145 ≤ v32 h) : ∃ V, FP.Core.fits FP.Core.b32 V ∧ V ≠ .nan ∧ FP.Core.zval FP.Core.b32 V = 16 * 2 ^ 145 - v32 h := by
  by_cases he : v32 h = 16 * 2 ^ 145
  · exact ⟨_, FP.Core.val32_fits 0, n_0, by rw [he]; exact k_0.trans (by decide)⟩
  have hlt : v32 h < 16 * 2 ^ 145 := by have := hh.2.2; omega
  have hs := FP.Core.sgn_bits32 hh.1
  have hz := FP.Core.zmag_toNat32 hh.1
  have hneg : ¬ 2 ^ 31 ≤ h.toNat := by
    intro hc
    rw [decide_eq_true hc] at hs
    unfold v32 FP.Core.zval at h8
    rw [hs] at h8
    simp only [FP.Core.signed, if_true] at h8
    omega
  have hm : h.toNat % 2 ^ 31 = h.toNat := Nat.mod_eq_of_lt (by omega)
  rw [hm] at hz
  rw [decide_eq_false hneg] at hs
  have hv : v32 h = (FP.Core.unitsOf FP.Core.b32 h.toNat : Nat) := by
    unfold v32 FP.Core.zval
    rw [hs, hz]
    rfl
  have u1 : (FP.Core.unitsOf FP.Core.b32 1056964608 : Nat) = 8 * 2 ^ 145 := by decide +kernel
  have u2 : (FP.Core.unitsOf FP.Core.b32 1065353216 : Nat) = 16 * 2 ^ 145 := by decide +kernel
  have b1 : 1056964608 ≤ h.toNat := (FP.Core.unitsOf_le_iff (f := FP.Core.b32)).mp (by rw [u1]; omega)
  have b2 : h.toNat < 1065353216 := (FP.Core.unitsOf_lt_iff (f := FP.Core.b32)).mp (by rw [u2]; omega)
  have hu : FP.Core.unitsOf FP.Core.b32 h.toNat = (2 ^ 23 + h.toNat % 2 ^ 23) * 2 ^ 125 := by
    unfold FP.Core.unitsOf
    rw [FP.Core.tails_b32, if_neg (by omega), show h.toNat / 2 ^ 23 - 1 = 125 by omega]
  have hr : h.toNat % 2 ^ 23 < 2 ^ 23 := Nat.mod_lt _ (by decide)
  generalize h.toNat % 2 ^ 23 = T at hu hr
  obtain ⟨c', q', e1, e2⟩ := FP.Core.round_exact FP.Core.good_b32 false (c := 2 ^ 23 - T) (q := -24) (by show _ < 2 ^ 24; omega) (by decide +kernel) (by decide +kernel)
  refine ⟨FP.Core.round FP.Core.b32 (.fin false (2 ^ 23 - T) (-24)), FP.Core.round_fits FP.Core.good_b32 _, by rw [e1]; exact FP.Core.Datum.noConfusion, ?_⟩
  rw [e1]
  show ((FP.Core.inUnits c' q' FP.Core.b32.qmin : Nat) : Int) = _
  rw [e2, hv, hu]
  have e5 : ((-24 : Int) - FP.Core.b32.qmin).toNat = 125 := by decide +kernel
  unfold FP.Core.inUnits
  rw [e5]
  omega
theorem mend_ok {h : UInt32} (hh : HOK h) : HOK (FP.fadd h (FP.fmul (FP.fsub 1065353216 h) 1061158912)) := by
  have h1 := hh.2.1
  have h2 := hh.2.2
  have k0 := k_01
  obtain ⟨d1, d2⟩ := fsub_r (H_fin H_1) (H_fin hh)
  rw [k_1] at d2
  have dl : 0 ≤ v32 (FP.fsub 1065353216 h) := by
    have := (d2 _ (FP.Core.val32_fits 0) n_0).2
    have e0 : FP.Core.zval FP.Core.b32 (FP.Core.val32 0) = 0 := k_0
    rw [e0] at this
    exact this (by omega)
  have du : ∀ V, FP.Core.val32 V ≠ .nan → 16 * 2 ^ 145 - v32 h ≤ v32 V → v32 (FP.fsub 1065353216 h) ≤ v32 V := fun V hV hl => (d2 _ (FP.Core.val32_fits V) hV).1 hl
  have d16 := du _ n_1 (by rw [k_1]; omega)
  have d12 := du _ n_34
  have d9 := du _ n_916
  have dX : ∀ V, FP.Core.fits FP.Core.b32 V → V ≠ .nan → 16 * 2 ^ 145 - v32 h ≤ FP.Core.zval FP.Core.b32 V → v32 (FP.fsub 1065353216 h) ≤ FP.Core.zval FP.Core.b32 V := fun V f1 f2 f3 => (d2 V f1 f2).1 f3
  rw [k_1] at d16
  rw [k_34] at d12
  rw [k_916] at d9
  have fd : FP.Core.FFin (FP.fsub 1065353216 h) := v_fin d1 dl d16
  generalize FP.fsub 1065353216 h = d at *
  have f34 : FP.Core.FFin 1061158912 := v_fin n_34 (by rw [k_34]; decide) (by rw [k_34]; decide)
  obtain ⟨m1, m2⟩ := fmul_r fd f34
  rw [k_34] at m2
  have pl : 0 ≤ v32 (FP.fmul d 1061158912) := by
    have := (m2 _ (FP.Core.val32_fits 0) n_0).2
    have e0 : FP.Core.zval FP.Core.b32 (FP.Core.val32 0) = 0 := k_0
    rw [e0] at this
    exact this (by omega)
  have p12 := (m2 _ (FP.Core.val32_fits 1061158912) n_34).1
  have p9 := (m2 _ (FP.Core.val32_fits 1058013184) n_916).1
  have p7 := (m2 _ (FP.Core.val32_fits 1054867456) n_716).1
  have pX : ∀ V, FP.Core.fits FP.Core.b32 V → V ≠ .nan → v32 d * (12 * 2 ^ 145) ≤ FP.Core.zval FP.Core.b32 V * (16 * 2 ^ 145) → v32 (FP.fmul d 1061158912) ≤ FP.Core.zval FP.Core.b32 V := fun V f1 f2 f3 => (m2 V f1 f2).1 f3
  have e12 : FP.Core.zval FP.Core.b32 (FP.Core.val32 1061158912) = 12 * 2 ^ 145 := k_34
  have e9 : FP.Core.zval FP.Core.b32 (FP.Core.val32 1058013184) = 9 * 2 ^ 145 := k_916
  have e7 : FP.Core.zval FP.Core.b32 (FP.Core.val32 1054867456) = 7 * 2 ^ 145 := k_716
  rw [e12] at p12
  rw [e9] at p9
  rw [e7] at p7
  have sum : v32 h + v32 (FP.fmul d 1061158912) ≤ 16 * 2 ^ 145 := by
    by_cases c1 : v32 h ≤ 4 * 2 ^ 145
    · have := p12 (by omega)
      omega
    by_cases c2 : v32 h ≤ 7 * 2 ^ 145
    · have := d12 (by omega)
      have := p9 (by omega)
      omega
    by_cases c3 : v32 h < 8 * 2 ^ 145
    · have := d9 (by omega)
      have := p7 (by omega)
      omega
    obtain ⟨V, f1, f2, f3⟩ := rest_ok hh (by omega)
    have a1 := dX V f1 f2 (by omega)
    have a2 := pX V f1 f2 (by omega)
    omega
  have fp : FP.Core.FFin (FP.fmul d 1061158912) := v_fin m1 pl (by omega)
  obtain ⟨a1, a2⟩ := fadd_r (H_fin hh) fp
  refine ⟨a1, Int.le_trans h1 ((a2 _ (FP.Core.val32_fits h) hh.1).2 ?_), ?_⟩
  · show v32 h ≤ v32 h + _
    omega
  · have := (a2 _ (FP.Core.val32_fits 1065353216) n_1).1
    have e1 : FP.Core.zval FP.Core.b32 (FP.Core.val32 1065353216) = 16 * 2 ^ 145 := k_1
    rw [e1] at this
    exact this sum
theorem out_ok {o x : UInt32} (ho : OOK o) (hx : OOK x) : OOK (FP.fadd o x) := by
  obtain ⟨h1, h2⟩ := ho
  obtain ⟨g1, g2⟩ := hx
  have e : FP.Core.val32 (FP.fadd o x) = FP.Core.round FP.Core.b32 (FP.Core.exactSum (FP.Core.val32 o) (FP.Core.val32 x)) := FP.Core.val32_fadd o x
  have hpos : OOK 2139095040 := ⟨by decide +kernel, by decide +kernel⟩
  have hinf : FP.Core.val32 2139095040 = .inf false := by decide +kernel
  have hneg : ¬ 0 ≤ FP.Core.zval FP.Core.b32 (.inf true) := by decide +kernel
  unfold v32 at h2 g2
  cases e1 : FP.Core.val32 o with
  | nan => exact absurd e1 h1
  | inf s =>
    cases s with
    | true => rw [e1] at h2; exact absurd h2 hneg
    | false =>
      cases e2 : FP.Core.val32 x with
      | nan => exact absurd e2 g1
      | inf t =>
        cases t with
        | true => rw [e2] at g2; exact absurd g2 hneg
        | false =>
          rw [e1, e2] at e
          have e3 : FP.Core.val32 (FP.fadd o x) = .inf false := e
          unfold OOK v32
          rw [e3, ← hinf]
          exact hpos
      | fin t d r =>
        rw [e1, e2] at e
        have e3 : FP.Core.val32 (FP.fadd o x) = .inf false := e
        unfold OOK v32
        rw [e3, ← hinf]
        exact hpos
  | fin s c q =>
    cases e2 : FP.Core.val32 x with
    | nan => exact absurd e2 g1
    | inf t =>
      cases t with
      | true => rw [e2] at g2; exact absurd g2 hneg
      | false =>
        rw [e1, e2] at e
        have e3 : FP.Core.val32 (FP.fadd o x) = .inf false := e
        unfold OOK v32
        rw [e3, ← hinf]
        exact hpos
    | fin t d r =>
      obtain ⟨a1, a2⟩ := fadd_r ⟨s, c, q, e1⟩ ⟨t, d, r, e2⟩
      have := (a2 _ (FP.Core.val32_fits 0) n_0).2
      have e0 : FP.Core.zval FP.Core.b32 (FP.Core.val32 0) = 0 := k_0
      rw [e0] at this
      exact ⟨a1, this (by unfold v32; omega)⟩
theorem prod_ok {a h : UInt32} (ha : FP.Core.FFin a) (ha0 : 0 ≤ v32 a) (hh : HOK h) : OOK (FP.fmul a h) := by
  obtain ⟨m1, m2⟩ := fmul_r ha (H_fin hh)
  have := (m2 _ (FP.Core.val32_fits 0) n_0).2
  have e0 : FP.Core.zval FP.Core.b32 (FP.Core.val32 0) = 0 := k_0
  rw [e0, Int.zero_mul] at this
  have k0 := k_01
  have h1 := hh.2.1
  exact ⟨m1, this (Int.mul_nonneg ha0 (by omega))⟩
def ratB (r : Nat) : Bool := decide ((FP.i2f (nI r)).toNat < 2139095040)
def weaB (t : Nat) : Bool := decide ((FP.fdiv (FP.i2f (nI t)) 1148846080).toNat ≤ 1065353216)
theorem rat_all : ∀ r, r ≤ 100 → ratB r = true := by decide +kernel
theorem wea_all : ∀ t, t ≤ 200 → weaB t = true := by decide +kernel
theorem bits_v {a : UInt32} (h : a.toNat < 2139095040) : FP.Core.val32 a ≠ .nan ∧ v32 a = (FP.Core.unitsOf FP.Core.b32 a.toNat : Nat) := by
  have hm : a.toNat % 2 ^ 31 = a.toNat := Nat.mod_eq_of_lt (by omega)
  have hn : FP.Core.val32 a ≠ .nan := (FP.Core.ne_nan32 a).mpr (by omega)
  refine ⟨hn, ?_⟩
  have hs := FP.Core.sgn_bits32 hn
  have hz := FP.Core.zmag_toNat32 hn
  rw [hm] at hz
  rw [decide_eq_false (by omega)] at hs
  unfold v32 FP.Core.zval
  rw [hs, hz]
  rfl
theorem rat_ok {r : Nat} (h : r ≤ 100) : FP.Core.FFin (FP.i2f (nI r)) ∧ 0 ≤ v32 (FP.i2f (nI r)) := by
  have h1 := of_decide_eq_true (rat_all r h)
  obtain ⟨h2, h3⟩ := bits_v h1
  refine ⟨(FP.Core.fin_bits32 _).mpr ?_, by rw [h3]; omega⟩
  have hm : (FP.i2f (nI r)).toNat % 2 ^ 31 = (FP.i2f (nI r)).toNat := Nat.mod_eq_of_lt (by omega)
  rw [hm]
  exact h1
theorem wea_ok {t : Nat} (h : t ≤ 200) : WOK (FP.fdiv (FP.i2f (nI t)) 1148846080) := by
  have h1 : (FP.fdiv (FP.i2f (nI t)) 1148846080).toNat ≤ 1065353216 := of_decide_eq_true (wea_all t h)
  obtain ⟨h2, h3⟩ := bits_v (show (FP.fdiv (FP.i2f (nI t)) 1148846080).toNat < 2139095040 by omega)
  refine ⟨h2, by rw [h3]; omega, ?_⟩
  rw [h3]
  have u2 : (FP.Core.unitsOf FP.Core.b32 1065353216 : Nat) = 16 * 2 ^ 145 := by decide +kernel
  have := (FP.Core.unitsOf_le_iff (f := FP.Core.b32)).mpr h1
  rw [u2] at this
  omega
