/-! THE PURE WORLD: cells by number (0: the script), ints and floats by cell and slot; a NaN is any NaN -/
abbrev pT : Type := Nat × (Nat → Nat × Nat) × (Nat → Nat → Option Nat)
abbrev pI : Type := Nat → Nat → Int32
abbrev pF : Type := Nat → Nat → UInt32
/-- own class, maxLocals, what it returns, frames, locals' room, a constructor -/
abbrev mB : Type := String × Nat × Option FieldType × Nat × Nat × Bool
abbrev pJ : Value := .retAddr 0
def fty (c k : Nat) : FieldType := match c with
  | 0 => tyX0 k
  | 1 => tyX1 k
  | 2 => tyX2 k
  | 3 => tyX3 k
  | 4 => tyX4 k
  | 5 => tyX5 k
  | 6 => tyX6 k
  | 7 => tyX7 k
  | _ => tyX8 k
def fN (c : Nat) : Nat := match c with
  | 0 => 6
  | 1 => 2
  | 2 => 3
  | 3 => 3
  | 4 => 5
  | 5 => 8
  | 6 => 12
  | 7 => 6
  | _ => 0
def cnm (c : Nat) : String := match c with
  | 0 => RX0
  | 1 => RX1
  | 2 => RX2
  | 3 => RX3
  | 4 => RX4
  | 5 => RX5
  | 6 => RX6
  | 7 => RX7
  | _ => RX8
def rv (r : Option Nat) : Value := match r with
  | some q => .ref q
  | none => .null
def fv (σ : pT) (I : pI) (F : pF) (c q k : Nat) : Value := match fty c k with
  | .float => .float (F q k)
  | .object _ => rv (σ.2.2 q k)
  | .array _ => rv (σ.2.2 q k)
  | _ => .int (I q k)
/-! floats: alike ones are told apart by nothing but f2d's answer, which is alike too -/
theorem nan_dec {x : UInt32} (h : isNaN32 x = true) : FP.Core.decode FP.Core.b32 x.toNat = .nan := by
  have h1 := isNaN32_iff.mp h
  have hx : x.toNat < 4294967296 := x.toNat_lt
  generalize x.toNat = n at h1 hx
  have e1 : n &&& 2147483647 = n % 2147483648 := Nat.and_two_pow_sub_one_eq_mod n 31
  rw [show (0x7fffffff : Nat) = 2147483647 from rfl, e1] at h1
  have h2 : FP.Core.fieldE FP.Core.b32 n = 255 := by
    show n / 8388608 % 256 = 255
    omega
  have h3 : FP.Core.fieldT FP.Core.b32 n ≠ 0 := by
    show n % 8388608 ≠ 0
    omega
  unfold FP.Core.decode
  simp only [h2, h3]
  rfl
theorem alike_dec {x y : UInt32} (h : alike32 x y = true) : FP.Core.decode FP.Core.b32 x.toNat = FP.Core.decode FP.Core.b32 y.toNat := by
  simp only [alike32, Bool.or_eq_true, decide_eq_true_eq, Bool.and_eq_true] at h
  rcases h with rfl | ⟨h1, h2⟩
  · rfl
  · rw [nan_dec h1, nan_dec h2]
theorem alike_fadd {x y x' y' : UInt32} (h : alike32 x' x = true) (h2 : alike32 y' y = true) : FP.fadd x' y' = FP.fadd x y := by
  show FP.Core.fadd x' y' = FP.Core.fadd x y
  simp only [FP.Core.fadd, FP.Core.add, alike_dec h, alike_dec h2]
theorem alike_fsub {x y x' y' : UInt32} (h : alike32 x' x = true) (h2 : alike32 y' y = true) : FP.fsub x' y' = FP.fsub x y := by
  show FP.Core.fsub x' y' = FP.Core.fsub x y
  simp only [FP.Core.fsub, FP.Core.sub, alike_dec h, alike_dec h2]
theorem alike_fmul {x y x' y' : UInt32} (h : alike32 x' x = true) (h2 : alike32 y' y = true) : FP.fmul x' y' = FP.fmul x y := by
  show FP.Core.fmul x' y' = FP.Core.fmul x y
  simp only [FP.Core.fmul, FP.Core.mul, alike_dec h, alike_dec h2]
theorem alike_fdiv {x y x' y' : UInt32} (h : alike32 x' x = true) (h2 : alike32 y' y = true) : FP.fdiv x' y' = FP.fdiv x y := by
  show FP.Core.fdiv x' y' = FP.Core.fdiv x y
  simp only [FP.Core.fdiv, FP.Core.div, alike_dec h, alike_dec h2]
theorem alike_fcmp {x y x' y' : UInt32} (h : alike32 x' x = true) (h2 : alike32 y' y = true) : FP.fcmp x' y' = FP.fcmp x y := by
  show FP.Core.fcmp x' y' = FP.Core.fcmp x y
  simp only [FP.Core.fcmp, FP.Core.cmp, alike_dec h, alike_dec h2]
theorem alike_f2i {x x' : UInt32} (h : alike32 x' x = true) : FP.f2i x' = FP.f2i x := by
  show FP.Core.f2i x' = FP.Core.f2i x
  simp only [FP.Core.f2i, alike_dec h]
theorem nan_dec64 {x : UInt64} (h : isNaN64 x = true) : FP.Core.decode FP.Core.b64 x.toNat = .nan := by
  have h1 := isNaN64_iff.mp h
  have hx : x.toNat < 18446744073709551616 := x.toNat_lt
  generalize x.toNat = n at h1 hx
  have e1 : n &&& 9223372036854775807 = n % 9223372036854775808 := Nat.and_two_pow_sub_one_eq_mod n 63
  rw [show (0x7fffffffffffffff : Nat) = 9223372036854775807 from rfl, e1] at h1
  have h2 : FP.Core.fieldE FP.Core.b64 n = 2047 := by
    show n / 4503599627370496 % 2048 = 2047
    omega
  have h3 : FP.Core.fieldT FP.Core.b64 n ≠ 0 := by
    show n % 4503599627370496 ≠ 0
    omega
  unfold FP.Core.decode
  simp only [h2, h3]
  rfl
theorem alike_dec64 {x y : UInt64} (h : alike64 x y = true) : FP.Core.decode FP.Core.b64 x.toNat = FP.Core.decode FP.Core.b64 y.toNat := by
  simp only [alike64, Bool.or_eq_true, decide_eq_true_eq, Bool.and_eq_true] at h
  rcases h with rfl | ⟨h1, h2⟩
  · rfl
  · rw [nan_dec64 h1, nan_dec64 h2]
theorem alike_dcmp {x y x' y' : UInt64} (h : alike64 x' x = true) (h2 : alike64 y' y = true) : FP.dcmp x' y' = FP.dcmp x y := by
  show FP.Core.dcmp x' y' = FP.Core.dcmp x y
  simp only [FP.Core.dcmp, FP.Core.cmp, alike_dec64 h, alike_dec64 h2]
theorem alike64_trans {x y z : UInt64} (h : alike64 x y = true) (h2 : alike64 y z = true) : alike64 x z = true := by
  simp only [alike64, Bool.or_eq_true, decide_eq_true_eq, Bool.and_eq_true] at h h2 ⊢
  rcases h with rfl | ⟨h1, h3⟩
  · exact h2
  · rcases h2 with rfl | ⟨h4, h5⟩
    · exact Or.inr ⟨h1, h3⟩
    · exact Or.inr ⟨h1, h5⟩
theorem f2d_nan {a : UInt32} (h : isNaN32 a = true) : isNaN64 (FP.f2d a) = true := by
  have h1 : FP.Core.fIsNaN a = true := by
    simp [FP.Core.fIsNaN, FP.Core.isNaN, nan_dec h]
  unfold FP.f2d
  rw [if_pos h1]
  unfold FP.nanF2D
  exact isNaN64_or_left (isNaN64_or_right (by decide))
theorem alike_f2d {x x' : UInt32} (h : alike32 x' x = true) : alike64 (FP.f2d x') (FP.f2d x) = true := by
  simp only [alike32, Bool.or_eq_true, decide_eq_true_eq, Bool.and_eq_true] at h
  rcases h with rfl | ⟨h1, h2⟩
  · exact alike64_refl _
  · simp only [alike64, Bool.or_eq_true, Bool.and_eq_true]
    exact Or.inr ⟨f2d_nan h1, f2d_nan h2⟩
/-! values, stacks, locals -/
def vr (al : List Nat) (v v' : Value) : Prop := match v with
  | .int x => v' = .int x
  | .long x => v' = .long x
  | .float x => ∃ y, v' = .float y ∧ alike32 y x = true
  | .double x => ∃ y, v' = .double y ∧ alike64 y x = true
  | .ref q => ∃ a, al[q]? = some a ∧ v' = .ref a
  | .null => v' = .null
  | _ => False
theorem vr_app {al l : List Nat} {v v' : Value} (h : vr al v v') : vr (al ++ l) v v' := by
  cases v with
  | ref q =>
    obtain ⟨a, h1, h2⟩ := h
    refine ⟨a, ?_, h2⟩
    have hl := (List.getElem?_eq_some_iff.mp h1).1
    rw [List.getElem?_append_left hl]
    exact h1
  | _ => exact h
theorem vr_cat {al : List Nat} {v v' : Value} (h : vr al v v') : v'.category = v.category := by
  cases v with
  | int x => rw [show v' = .int x from h]
  | float x => obtain ⟨y, rfl, -⟩ := h; rfl
  | double x => obtain ⟨y, rfl, -⟩ := h; rfl
  | ref q => obtain ⟨a, -, rfl⟩ := h; rfl
  | null => rw [show v' = .null from h]
  | long x => rw [show v' = .long x from h]
  | retAddr x => exact h.elim
def sr (al : List Nat) : List Value → List Value → Prop
  | [], stM => stM = []
  | v :: st, stM => ∃ v' t, stM = v' :: t ∧ vr al v v' ∧ sr al st t
theorem sr_app {al l : List Nat} : ∀ {st stM : List Value}, sr al st stM → sr (al ++ l) st stM
  | [], _, h => h
  | _ :: _, _, ⟨v', t, h1, h2, h3⟩ => ⟨v', t, h1, vr_app h2, sr_app h3⟩
theorem sr_cat {al : List Nat} : ∀ {st stM : List Value}, sr al st stM → (stM.map fun v => v.category) = (st.map fun v => v.category)
  | [], _, h => by rw [show _ = [] from h]
  | v :: st, _, ⟨v', t, h1, h2, h3⟩ => by
    subst h1
    simp only [List.map_cons, vr_cat h2, sr_cat h3]
theorem sr_split {al : List Nat} : ∀ {a st stM : List Value}, sr al (a ++ st) stM → ∃ aM tM, stM = aM ++ tM ∧ sr al a aM ∧ sr al st tM
  | [], st, stM, h => ⟨[], stM, rfl, rfl, h⟩
  | v :: a, st, stM, ⟨v', t, h1, h2, h3⟩ => by
    obtain ⟨aM, tM, h4, h5, h6⟩ := sr_split (a := a) h3
    exact ⟨v' :: aM, tM, by rw [h1, h4]; rfl, ⟨v', aM, rfl, h2, h5⟩, h6⟩
theorem sr_join {al : List Nat} : ∀ {a st aM tM : List Value}, sr al a aM → sr al st tM → sr al (a ++ st) (aM ++ tM)
  | [], st, aM, tM, h, h2 => by rw [show aM = [] from h]; exact h2
  | v :: a, st, _, tM, ⟨v', t, h1, h2, h3⟩, h4 => ⟨v', t ++ tM, by rw [h1]; rfl, h2, sr_join h3 h4⟩
theorem sr_rev {al : List Nat} : ∀ {a aM : List Value}, sr al a aM → sr al a.reverse aM.reverse
  | [], aM, h => by rw [show aM = [] from h]; rfl
  | v :: a, _, ⟨v', t, h1, h2, h3⟩ => by
    subst h1
    rw [List.reverse_cons, List.reverse_cons]
    exact sr_join (sr_rev h3) ⟨v', [], rfl, h2, rfl⟩
theorem sr_get {al : List Nat} : ∀ {a aM : List Value} {k : Nat} {v : Value}, sr al a aM → a[k]? = some v → ∃ v', aM[k]? = some v' ∧ vr al v v'
  | [], _, k, v, _, hk => by simp at hk
  | u :: a, _, 0, v, ⟨v', t, h1, h2, _⟩, hk => by
    subst h1
    simp only [List.getElem?_cons_zero, Option.some.injEq] at hk
    subst hk
    exact ⟨v', by simp, h2⟩
  | u :: a, _, k + 1, v, ⟨v', t, h1, _, h3⟩, hk => by
    subst h1
    rw [List.getElem?_cons_succ] at hk
    obtain ⟨w, h4, h5⟩ := sr_get h3 hk
    exact ⟨w, by rw [List.getElem?_cons_succ]; exact h4, h5⟩
theorem sr_len {al : List Nat} : ∀ {a aM : List Value}, sr al a aM → aM.length = a.length
  | [], aM, h => by rw [show aM = [] from h]
  | v :: a, _, ⟨v', t, h1, _, h3⟩ => by
    subst h1
    simp [sr_len h3]
def lr (al : List Nat) (nL : Nat) (ls : List Value) (lsM : Array Slot) : Prop :=
  lsM.size = nL ∧ lv_wf lsM ∧ ls.length = nL ∧ ∀ (k : Nat) (v : Value), ls[k]? = some v → v = pJ ∨ ∃ v', vr al v v' ∧ lsM[k]? = some (Slot.val v')
theorem lr_app {al l : List Nat} {nL : Nat} {ls : List Value} {lsM : Array Slot} (h : lr al nL ls lsM) : lr (al ++ l) nL ls lsM :=
  ⟨h.1, h.2.1, h.2.2.1, fun k v hk => (h.2.2.2 k v hk).imp id fun ⟨v', h1, h2⟩ => ⟨v', vr_app h1, h2⟩⟩
theorem lr_get {al : List Nat} {nL : Nat} {ls : List Value} {lsM : Array Slot} (h : lr al nL ls lsM) {k : Nat} {v : Value} (hk : ls[k]? = some v) (hv : v ≠ pJ) : ∃ v', vr al v v' ∧ lsM[k]? = some (Slot.val v') := (h.2.2.2 k v hk).resolve_left hv
/-- all that the machine's locals hold, as the kit lists them -/
def lr_all (lsM : Array Slot) : List (Nat × Value) := (List.range lsM.size).filterMap fun k => match lsM[k]? with
  | some (Slot.val v) => some (k, v)
  | _ => none
theorem lr_mem {lsM : Array Slot} {k : Nat} {v : Value} : (k, v) ∈ lr_all lsM ↔ lsM[k]? = some (Slot.val v) := by
  unfold lr_all
  rw [List.mem_filterMap]
  constructor
  · rintro ⟨j, -, hj⟩
    split at hj
    · rename_i w hw
      cases hj
      exact hw
    · cases hj
  · intro h
    refine ⟨k, List.mem_range.mpr (Array.getElem?_eq_some_iff.mp h).1, ?_⟩
    rw [h]
theorem lr_has {al : List Nat} {nL : Nat} {ls : List Value} {lsM : Array Slot} (h : lr al nL ls lsM) : lv_has lsM nL (lr_all lsM) := ⟨h.1, h.2.1, fun q hq => lr_mem.mp hq⟩
/-- no value of two words at the place below -/
def lo2 (ls : List Value) (i : Nat) : Bool := match i with
  | 0 => true
  | j + 1 => match ls[j]? with
    | some w => w.category == 1
    | none => true
theorem lo2_ok {ls : List Value} {i : Nat} (h : lo2 ls i = true) : ∀ (j : Nat) (w : Value), ls[j]? = some w → j + 1 = i → w.category = 1 := by
  intro j w hj hi
  subst hi
  simpa [lo2, hj] using h
/-- a local of one word, written -/
theorem lr_set {al : List Nat} {nL : Nat} {ls : List Value} {lsM ls' : Array Slot} {i : Nat} {v v' : Value} (h : lr al nL ls lsM) (hv : vr al v v') (h2 : lv_has ls' nL ((i, v') :: (lr_all lsM).filter (fun q => !(q.1 == i) && !(q.1 + 1 == i && q.2.category == 2)))) (hi : ∀ (j : Nat) (w : Value), ls[j]? = some w → j + 1 = i → w.category = 1) : lr al nL (ls.set i v) ls' := by
  refine ⟨h2.1, h2.2.1, by rw [List.length_set]; exact h.2.2.1, fun k w hk => ?_⟩
  by_cases hki : i = k
  · subst hki
    have hlt : i < ls.length := by
      have := (List.getElem?_eq_some_iff.mp hk).1
      rwa [List.length_set] at this
    rw [List.getElem?_set_self hlt] at hk
    cases hk
    exact Or.inr ⟨v', hv, h2.2.2 _ List.mem_cons_self⟩
  · rw [List.getElem?_set_ne hki] at hk
    rcases h.2.2.2 k w hk with h3 | ⟨w', h3, h4⟩
    · exact Or.inl h3
    · by_cases hw : w = pJ
      · exact Or.inl hw
      refine Or.inr ⟨w', h3, h2.2.2 (k, w') (List.mem_cons_of_mem _ (List.mem_filter.mpr ⟨lr_mem.mpr h4, ?_⟩))⟩
      simp only [Bool.and_eq_true, Bool.not_eq_true', beq_eq_false_iff_ne, ne_eq, Bool.and_eq_false_imp, beq_iff_eq]
      refine ⟨fun z => hki z.symm, fun z => ?_⟩
      have h5 := hi k w hk z
      rw [vr_cat h3, h5]
      decide
/-- a local of two words, written -/
theorem lr_set2 {al : List Nat} {nL : Nat} {ls : List Value} {lsM ls' : Array Slot} {i : Nat} {v v' : Value} (h : lr al nL ls lsM) (hv : vr al v v') (h2 : lv_has ls' nL ((i, v') :: (lr_all lsM).filter (fun q => !(q.1 == i) && (!(q.1 == i + 1) && !(q.1 + 1 == i && q.2.category == 2))))) (hi : ∀ (j : Nat) (w : Value), ls[j]? = some w → j + 1 = i → w.category = 1) : lr al nL ((ls.set i v).set (i + 1) pJ) ls' := by
  refine ⟨h2.1, h2.2.1, by rw [List.length_set, List.length_set]; exact h.2.2.1, fun k w hk => ?_⟩
  by_cases hk1 : i + 1 = k
  · subst hk1
    have hlt : i + 1 < (ls.set i v).length := by
      have := (List.getElem?_eq_some_iff.mp hk).1
      rwa [List.length_set] at this
    rw [List.getElem?_set_self hlt] at hk
    cases hk
    exact Or.inl rfl
  rw [List.getElem?_set_ne hk1] at hk
  by_cases hki : i = k
  · subst hki
    have hlt : i < ls.length := by
      have := (List.getElem?_eq_some_iff.mp hk).1
      rwa [List.length_set] at this
    rw [List.getElem?_set_self hlt] at hk
    cases hk
    exact Or.inr ⟨v', hv, h2.2.2 _ List.mem_cons_self⟩
  · rw [List.getElem?_set_ne hki] at hk
    rcases h.2.2.2 k w hk with h3 | ⟨w', h3, h4⟩
    · exact Or.inl h3
    · by_cases hw : w = pJ
      · exact Or.inl hw
      refine Or.inr ⟨w', h3, h2.2.2 (k, w') (List.mem_cons_of_mem _ (List.mem_filter.mpr ⟨lr_mem.mpr h4, ?_⟩))⟩
      simp only [Bool.and_eq_true, Bool.not_eq_true', beq_eq_false_iff_ne, ne_eq, Bool.and_eq_false_imp, beq_iff_eq]
      refine ⟨fun z => hki z.symm, fun z => hk1 z.symm, fun z => ?_⟩
      have h5 := hi k w hk z
      rw [vr_cat h3, h5]
      decide
/-! the world -/
def ce (al : List Nat) (tys : List (ClassId × FieldType)) (σ : pT) (I : pI) (F : pF) (q : Nat) (e : va_E) : Prop :=
  (∀ c, (σ.2.1 q).1 = c + 1 → c < 8 → ∃ fs, e = .inr (c, fs) ∧ ∀ k, k < fN c → ∃ v', fs[k]? = some v' ∧ vr al (fv σ I F c q k) v') ∧
  ((σ.2.1 q).1 = 20 → ∃ cA f, e = .inl (cA, (σ.2.1 q).2, .inl f) ∧ (∃ t0 : Nat, tys[t0]? = some (cA, .int)) ∧ ∀ k, k < (σ.2.1 q).2 → f k = I q k) ∧
  ((σ.2.1 q).1 = 21 → ∃ cA f, e = .inl (cA, (σ.2.1 q).2, .inl f) ∧ (∃ t0 : Nat, tys[t0]? = some (cA, .char)) ∧ ∀ k, k < (σ.2.1 q).2 → f k = I q k) ∧
  ((σ.2.1 q).1 = 22 → ∃ cA f, e = .inl (cA, (σ.2.1 q).2, .inr (.inr (.inl f))) ∧ (∃ t0 : Nat, tys[t0]? = some (cA, .float)) ∧ ∀ k, k < (σ.2.1 q).2 → alike32 (f k) (F q k) = true) ∧
  (∀ c, (σ.2.1 q).1 = c + 30 → c < 8 → ∃ cA f, e = .inl (cA, (σ.2.1 q).2, .inr (.inr (.inr (.inr f)))) ∧ (∃ t0 : Nat, tys[t0]? = some (cA, .object (cnm c))) ∧ ∀ k, k < (σ.2.1 q).2 → vr al (rv (σ.2.2 q k)) (va_rf (f k)))
theorem ce_congr {al : List Nat} {tys : List (ClassId × FieldType)} {σ σ' : pT} {I I' : pI} {F F' : pF} {q : Nat} {e : va_E} (hK : σ'.2.1 q = σ.2.1 q) (hR : σ'.2.2 q = σ.2.2 q) (hI : I' q = I q) (hF : F' q = F q) (h : ce al tys σ I F q e) : ce al tys σ' I' F' q e := by
  have hfv : ∀ c k, fv σ' I' F' c q k = fv σ I F c q k := fun c k => by simp only [fv, hR, hI, hF]
  refine ⟨fun c h1 h2 => ?_, fun h1 => ?_, fun h1 => ?_, fun h1 => ?_, fun c h1 h2 => ?_⟩
  · obtain ⟨fs, e1, e2⟩ := h.1 c (by rw [← hK]; exact h1) h2
    exact ⟨fs, e1, fun k hk => by rw [hfv]; exact e2 k hk⟩
  · rw [hK, hI]; exact h.2.1 (by rw [← hK]; exact h1)
  · rw [hK, hI]; exact h.2.2.1 (by rw [← hK]; exact h1)
  · rw [hK, hF]; exact h.2.2.2.1 (by rw [← hK]; exact h1)
  · rw [hK, hR]; exact h.2.2.2.2 c (by rw [← hK]; exact h1) h2
theorem ce_app {al l : List Nat} {tys ts : List (ClassId × FieldType)} {σ : pT} {I : pI} {F : pF} {q : Nat} {e : va_E} (h : ce al tys σ I F q e) : ce (al ++ l) (tys ++ ts) σ I F q e := by
  have ht : ∀ {x : ClassId × FieldType}, (∃ t0 : Nat, tys[t0]? = some x) → ∃ t0 : Nat, (tys ++ ts)[t0]? = some x := by
    intro x ⟨t0, h0⟩
    refine ⟨t0, ?_⟩
    rw [List.getElem?_append_left (List.getElem?_eq_some_iff.mp h0).1]
    exact h0
  refine ⟨fun c h1 h2 => ?_, fun h1 => ?_, fun h1 => ?_, fun h1 => ?_, fun c h1 h2 => ?_⟩
  · obtain ⟨fs, e1, e2⟩ := h.1 c h1 h2
    exact ⟨fs, e1, fun k hk => by obtain ⟨v', a1, a2⟩ := e2 k hk; exact ⟨v', a1, vr_app a2⟩⟩
  · obtain ⟨cA, f, e1, e2, e3⟩ := h.2.1 h1
    exact ⟨cA, f, e1, ht e2, e3⟩
  · obtain ⟨cA, f, e1, e2, e3⟩ := h.2.2.1 h1
    exact ⟨cA, f, e1, ht e2, e3⟩
  · obtain ⟨cA, f, e1, e2, e3⟩ := h.2.2.2.1 h1
    exact ⟨cA, f, e1, ht e2, e3⟩
  · obtain ⟨cA, f, e1, e2, e3⟩ := h.2.2.2.2 c h1 h2
    exact ⟨cA, f, e1, ht e2, fun k hk => vr_app (e3 k hk)⟩
/-- the heap H of state U holds the pure world: ws its cells behind the script's (b), al all addresses by number -/
def wr (D : va_G) (base b : Nat) (al : List Nat) (σ : pT) (I : pI) (F : pF) (U : State) (H : Heap) : Prop :=
  ∃ (ws : va_W) (tys : List (ClassId × FieldType)), al = b :: ws.map Prod.fst ∧ ws.length = σ.1 ∧ va_P D vwCl ws H ∧ va_K D vwCl tys U ∧ va_D (fun q : Nat => base ≤ q) ws ∧
    (∀ (j a : Nat) (e : va_E), ws[j]? = some (a, e) → ce al tys σ I F (j + 1) e) ∧ (∀ j, (σ.2.1 (j + 1)).1 ≠ 0 → j < ws.length) ∧ (σ.2.1 0).1 = 99 ∧ b < base ∧ base ≤ H.size ∧ va_X b (σ.2.1 0).2 (I 0) U H
theorem wr_moved {D : va_G} {base b : Nat} {al : List Nat} {σ : pT} {I : pI} {F : pF} {u U : State} {H : Heap} (hvm : u.vm.Alike U.vm) (h : wr D base b al σ I F u H) : wr D base b al σ I F U H := by
  obtain ⟨ws, tys, h1, h2, h3, h4, h5, h6, h7, h8, h9, h10, h11⟩ := h
  exact ⟨ws, tys, h1, h2, h3, h4.moved hvm, h5, h6, h7, h8, h9, h10, h11.moved hvm⟩
theorem wr_al {b : Nat} {al : List Nat} {ws : va_W} {j a : Nat} {e : va_E} (h : al = b :: ws.map Prod.fst) (hj : ws[j]? = some (a, e)) : al[j + 1]? = some a := by
  rw [h, List.getElem?_cons_succ, List.getElem?_map, hj]
  rfl
theorem map_fst_set {ws : va_W} {j a : Nat} {e e' : va_E} (hj : ws[j]? = some (a, e)) : (ws.set j (a, e')).map Prod.fst = ws.map Prod.fst := by
  apply List.ext_getElem?
  intro i
  rw [List.getElem?_map, List.getElem?_map]
  by_cases h : j = i
  · subst h
    rw [List.getElem?_set_self (List.getElem?_eq_some_iff.mp hj).1, hj]
    rfl
  · rw [List.getElem?_set_ne h]
/-- where a cell that is not the script's lies -/
theorem wr_cell {D : va_G} {base b : Nat} {al : List Nat} {σ : pT} {I : pI} {F : pF} {U : State} {H : Heap} {ws : va_W} {tys : List (ClassId × FieldType)} {q a : Nat} (h1 : al = b :: ws.map Prod.fst) (h6 : ∀ (j a : Nat) (e : va_E), ws[j]? = some (a, e) → ce al tys σ I F (j + 1) e) (h7 : ∀ j, (σ.2.1 (j + 1)).1 ≠ 0 → j < ws.length) (h8 : (σ.2.1 0).1 = 99) (hk : (σ.2.1 q).1 ≠ 99) (hk0 : (σ.2.1 q).1 ≠ 0) (ha : al[q]? = some a) : ∃ j e, q = j + 1 ∧ ws[j]? = some (a, e) ∧ ce al tys σ I F q e := by
  cases q with
  | zero => exact absurd h8 hk
  | succ j =>
    have hj := h7 j hk0
    obtain ⟨e1, he1⟩ : ∃ e1, ws[j]? = some e1 := ⟨ws[j], List.getElem?_eq_getElem hj⟩
    obtain ⟨a1, e⟩ := e1
    have h2 := wr_al h1 he1
    rw [ha] at h2
    cases h2
    exact ⟨j, e, rfl, he1, h6 j a e he1⟩
/-- a cell of the world was written -/
theorem wr_set {D : va_G} {base b : Nat} {al : List Nat} {σ σ' : pT} {I I' : pI} {F F' : pF} {U : State} {H H1 H0 : Heap} {locs locs1 : List Loc} {ws : va_W} {tys : List (ClassId × FieldType)} {j a : Nat} {e e' : va_E} (h1 : al = b :: ws.map Prod.fst) (h2 : ws.length = σ.1) (h4 : va_K D vwCl tys U)
    (h6 : ∀ (j a : Nat) (e : va_E), ws[j]? = some (a, e) → ce al tys σ I F (j + 1) e) (h7 : ∀ j, (σ.2.1 (j + 1)).1 ≠ 0 → j < ws.length) (h8 : (σ.2.1 0).1 = 99) (h9 : b < base) (h10 : base ≤ H0.size) (h11 : va_X b (σ.2.1 0).2 (I 0) U H)
    (hj : ws[j]? = some (a, e)) (hP : va_P D vwCl (ws.set j (a, e')) H1) (hD : va_D (fun q : Nat => base ≤ q) (ws.set j (a, e'))) (hS0 : va_S (fun q : Nat => base ≤ q) H0 H locs) (hS : va_S (fun q : Nat => base ≤ q) H0 H1 locs1) (e1 : σ'.1 = σ.1) (e2 : σ'.2.1 = σ.2.1) (hR : ∀ q, q ≠ j + 1 → σ'.2.2 q = σ.2.2 q) (hI : ∀ q, q ≠ j + 1 → I' q = I q) (hF : ∀ q, q ≠ j + 1 → F' q = F q) (hc : ce al tys σ' I' F' (j + 1) e') : wr D base b al σ' I' F' U H1 := by
  have hl := (List.getElem?_eq_some_iff.mp hj).1
  refine ⟨ws.set j (a, e'), tys, by rw [map_fst_set hj]; exact h1, by rw [List.length_set, e1]; exact h2, hP, h4, hD, fun i a' x hx => ?_, fun i hi => by rw [List.length_set]; rw [e2] at hi; exact h7 i hi, by rw [e2]; exact h8, h9, Nat.le_trans h10 hS.1, ?_⟩
  · by_cases hij : j = i
    · subst hij
      rw [List.getElem?_set_self hl] at hx
      cases hx
      exact hc
    · rw [List.getElem?_set_ne hij] at hx
      exact ce_congr (by rw [e2]) (hR _ (by omega)) (hI _ (by omega)) (hF _ (by omega)) (h6 i a' x hx)
  · rw [e2, hI 0 (by omega)]
    have hb0 : b < H0.size := Nat.lt_of_lt_of_le h9 h10
    exact h11.kept ((hS.2.1 b hb0 (Nat.not_le.mpr h9)).trans (hS0.2.1 b hb0 (Nat.not_le.mpr h9)).symm)
/-- a cell was made -/
theorem wr_push {D : va_G} {base b : Nat} {al : List Nat} {σ σ' : pT} {I I' : pI} {F F' : pF} {U : State} {H H1 H0 : Heap} {locs : List Loc} {ws : va_W} {tys ts : List (ClassId × FieldType)} {a : Nat} {e : va_E} (h1 : al = b :: ws.map Prod.fst) (h2 : ws.length = σ.1)
    (h6 : ∀ (j a : Nat) (e : va_E), ws[j]? = some (a, e) → ce al tys σ I F (j + 1) e) (h7 : ∀ j, (σ.2.1 (j + 1)).1 ≠ 0 → j < ws.length) (h8 : (σ.2.1 0).1 = 99) (h9 : b < base) (h10 : base ≤ H0.size) (h11 : va_X b (σ.2.1 0).2 (I 0) U H)
    (h4 : va_K D vwCl (tys ++ ts) U) (hP : va_P D vwCl (ws ++ [(a, e)]) H1) (hD : va_D (fun q : Nat => base ≤ q) (ws ++ [(a, e)])) (hS0 : va_S (fun q : Nat => base ≤ q) H0 H locs) (hS : va_S (fun q : Nat => base ≤ q) H0 H1 locs) (e1 : σ'.1 = σ.1 + 1) (hK : ∀ q, q ≠ σ.1 + 1 → σ'.2.1 q = σ.2.1 q) (hR : ∀ q, q ≠ σ.1 + 1 → σ'.2.2 q = σ.2.2 q) (hI : ∀ q, q ≠ σ.1 + 1 → I' q = I q) (hF : ∀ q, q ≠ σ.1 + 1 → F' q = F q) (hc : ce (al ++ [a]) (tys ++ ts) σ' I' F' (σ.1 + 1) e) : wr D base b (al ++ [a]) σ' I' F' U H1 ∧ (al ++ [a])[σ.1 + 1]? = some a := by
  refine ⟨⟨ws ++ [(a, e)], tys ++ ts, by rw [h1, List.map_append]; rfl, by rw [List.length_append, e1, h2]; rfl, hP, h4, hD, fun i a' x hx => ?_, fun i hi => ?_, by rw [hK 0 (by omega)]; exact h8, h9, Nat.le_trans h10 hS.1, ?_⟩, ?_⟩
  · by_cases hi : i < ws.length
    · rw [List.getElem?_append_left hi] at hx
      exact ce_congr (hK _ (by omega)) (hR _ (by omega)) (hI _ (by omega)) (hF _ (by omega)) (ce_app (h6 i a' x hx))
    · rw [List.getElem?_append_right (by omega)] at hx
      have hz : i - ws.length < 1 := (List.getElem?_eq_some_iff.mp hx).1
      have hi0 : i = ws.length := by omega
      subst hi0
      rw [Nat.sub_self] at hx
      cases hx
      rw [h2]
      exact hc
  · rw [List.length_append, List.length_singleton]
    by_cases hi0 : i + 1 = σ.1 + 1
    · omega
    · rw [hK _ hi0] at hi
      have := h7 i hi
      omega
  · rw [hK 0 (by omega), hI 0 (by omega)]
    have hb0 : b < H0.size := Nat.lt_of_lt_of_le h9 h10
    exact h11.kept ((hS.2.1 b hb0 (Nat.not_le.mpr h9)).trans (hS0.2.1 b hb0 (Nat.not_le.mpr h9)).symm)
  · rw [List.getElem?_append_right (by rw [h1]; simp; omega), h1]
    simp [h2]
/-- the words that have a way of their own hold -/
def spW (U : State) : Prop := (∀ q ∈ spN, va_Nw (.methodLinkNest q.1 q.2.1 q.2.2.1 q.2.2.2) U) ∧ ∀ C ∈ spA, va_AO C U
theorem spW_warm {s U : State} (hW : s.WarmedH U.vm) (h : spW s) : spW U := ⟨fun q hq => va_Nw.warmM hW (h.1 q hq), fun C hC => (h.2 C hC).moved hW.alike⟩
theorem spW_vm {u U : State} (hvm : u.vm = U.vm) (h : spW u) : spW U := ⟨fun q hq => va_Nw.same rfl hvm (h.1 q hq), fun C hC => (h.2 C hC).moved (by rw [hvm]; exact Vm.Alike.refl _)⟩
/-! the judgement: from here on, in any machine that holds the pure world, the method comes to the end that Z tells -/
abbrev pZ : Type := va_G → Nat → Nat → List Nat → List Frame → Array Value → State → Room → State → Prop
def cx (cc : ByteArray) (Y : mB) (base : Nat) (p : Program) (R : Room) (s : State) (m : MethodId) (args : Array Value) (meth : Method) (c : Code) : Prop :=
  p.tables.exec = Jvm.exec ∧ c.code = cc ∧ meth.sig.returnType = Y.2.2.1 ∧ (∀ w ∈ wsA, w.before args s = true) ∧ s.vm.findClass Y.1 = some m.cls ∧ meth.locks = false ∧ c.maxLocals = Y.2.1 ∧ R.frames = Y.2.2.2.1 ∧ R.locals = Y.2.2.2.2.1 ∧ base ≤ s.heap.size ∧ spW s ∧ (Y.2.2.2.2.2 = true → meth.name = "<init>")
def PW (cc : ByteArray) (Y : mB) (Z : pZ) (pc : Nat) (ls st : List Value) (σ : pT) (I : pI) (F : pF) (β : Nat × Nat) : Prop :=
  ∀ (p : Program) (l : Launch) (e : Env) (R : Room) (s : State) (m : MethodId) (args : Array Value) (below : List Frame) (meth : Method) (c : Code) (D : va_G) (base b : Nat) (al0 l0 : List Nat) (d0 : Drawn) (H : Heap) (locs : List Loc) (cells slots : Nat) (lsM : Array Slot) (stM : List Value),
    cx cc Y base p R s m args meth c → s.drawn.sameBut d0 lw_cs → lr (al0 ++ l0) Y.2.1 ls lsM → sr (al0 ++ l0) st stM → wr D base b (al0 ++ l0) σ I F s H → va_S (fun q : Nat => base ≤ q) s.heap H locs → cells + β.1 ≤ R.cells → slots + β.2 ≤ R.slots →
      W p l e R (s.setDrawn d0) m args below meth c H locs cells slots (Z D base b al0 below args s R) (F0 m pc lsM stM)
def vro (al : List Nat) (v v' : Option Value) : Prop := match v with
  | some x => ∃ x', v' = some x' ∧ vr al x x'
  | none => v' = none
abbrev pQ : Type := Option Value → pT → pI → pF → Prop
def qcOf (D : va_G) (base b : Nat) (al0 : List Nat) (Post : pQ) : Array Value → State → Outcome → State → Prop := fun _ st o t =>
  (∃ (v v' : Option Value) (l : List Nat) (σ : pT) (I : pI) (F : pF), o = .returned v' ∧ vro (al0 ++ l) v v' ∧ Post v σ I F ∧ wr D base b (al0 ++ l) σ I F t t.heap) ∧ va_F (fun q : Nat => base ≤ q) st t
def fM (Post : pQ) : pZ := fun D base b al0 below args s R => MQD lw_cs below (qcOf D base b al0 Post) args s R.cells R.slots (fun q : Nat => base ≤ q)
abbrev pPc (D : va_G) (base b : Nat) (al : List Nat) (σ : pT) (I : pI) (F : pF) (asM : List Value) : Array Value → State → Prop := va_Pc asM (fun U => base ≤ U.heap.size ∧ spW U ∧ wr D base b al σ I F U U.heap)
abbrev pWs (y : MethodName) (cc : ByteArray) (Y : mB) : List Cond := Cond.code y cc Y.2.1 Y.2.2.1 :: wsA
abbrev pRm (Y : mB) (β : Nat × Nat) : Room := { frames := Y.2.2.2.1, cells := β.1, slots := β.2, locals := Y.2.2.2.2.1 }
/-- a method's contract over the pure world -/
def PM (y : MethodName) (cc : ByteArray) (Y : mB) (β : Nat × Nat) (as : List Value) (σ : pT) (I : pI) (F : pF) (Post : pQ) : Prop :=
  ∀ (l : Launch) (D : va_G) (base b : Nat) (al : List Nat) (asM : List Value), sr al as asM →
    MetD lw_cs l y (pWs y cc Y) (pRm Y β) (pPc D base b al σ I F asM) (qcOf D base b al Post) β.1 β.2 (fun q : Nat => base ≤ q)
theorem PM.imp {y : MethodName} {cc : ByteArray} {Y : mB} {β : Nat × Nat} {as : List Value} {σ : pT} {I : pI} {F : pF} {P P' : pQ} (h : PM y cc Y β as σ I F P) (hp : ∀ v σ' I' F', P v σ' I' F' → P' v σ' I' F') : PM y cc Y β as σ I F P' := by
  intro l D base b al asM hs p e ha hc hk s m args below hf happ hP hK
  obtain ⟨n, o, h1, h2, h3, d, h4, ⟨⟨v, v', l', σ', I', F', q1, q2, q3, q4⟩, h5⟩, h6⟩ := h l D base b al asM hs p e ha hc hk s m args below hf happ hP hK
  exact ⟨n, o, h1, h2, h3, d, h4, ⟨⟨v, v', l', σ', I', F', q1, q2, hp _ _ _ _ q3, q4⟩, h5⟩, h6⟩
theorem wsL_at {w : Cond} (i : Nat) (h : wsA[i]? = some w) : w ∈ wsA := List.mem_of_getElem? h
theorem lv_args_mem : ∀ (vs : List Value) (i : Nat), (∀ v ∈ vs, v.category = 1) → ∀ (k : Nat) (v : Value), vs[k]? = some v → (i + k, v) ∈ lv_args i vs
  | [], i, _, k, v, h => by simp at h
  | u :: vs, i, hc, 0, v, h => by
    simp only [List.getElem?_cons_zero, Option.some.injEq] at h
    subst h
    exact List.mem_cons_self
  | u :: vs, i, hc, k + 1, v, h => by
    rw [List.getElem?_cons_succ] at h
    have h1 : ¬ u.category = 2 := by rw [hc u List.mem_cons_self]; decide
    show (i + (k + 1), v) ∈ (i, u) :: lv_args (if u.category = 2 then i + 2 else i + 1) vs
    rw [if_neg h1]
    have h2 := lv_args_mem vs (i + 1) (fun w hw => hc w (List.mem_cons_of_mem _ hw)) k v h
    rw [show i + (k + 1) = i + 1 + k by omega]
    exact List.mem_cons_of_mem _ h2
theorem lg_sl_len : ∀ (vs : List Value), (∀ v ∈ vs, v.category = 1) → (lg_sl vs).length = vs.length
  | [], _ => rfl
  | u :: vs, hc => by
    have h1 : ¬ u.category = 2 := by rw [hc u List.mem_cons_self]; decide
    have h2 := lg_sl_len vs (fun w hw => hc w (List.mem_cons_of_mem _ hw))
    unfold lg_sl at h2 ⊢
    rw [List.flatMap_cons, if_neg h1, List.length_append, h2]
    simp [Nat.add_comm]
theorem sr_cats {al : List Nat} {as asM : List Value} (h : sr al as asM) (hc : ∀ v ∈ as, v.category = 1) : ∀ v ∈ asM, v.category = 1 := by
  intro v hv
  obtain ⟨k, hk⟩ := List.getElem?_of_mem hv
  have hl := (List.getElem?_eq_some_iff.mp hk).1
  rw [sr_len h] at hl
  obtain ⟨u, hu⟩ : ∃ u, as[k]? = some u := ⟨as[k], List.getElem?_eq_getElem hl⟩
  obtain ⟨w, h1, h2⟩ := sr_get h hu
  rw [hk] at h1
  cases h1
  rw [vr_cat h2]
  exact hc u (List.mem_of_getElem? hu)
theorem lr_entry {al : List Nat} {as asM : List Value} {nL : Nat} (h : sr al as asM) (hc : ∀ v ∈ as, v.category = 1) (hn : as.length ≤ nL) :
    lr al nL (as ++ List.replicate (nL - as.length) pJ) ((lg_sl asM ++ List.replicate (nL - (lg_sl asM).length) Slot.unset).toArray) := by
  have hcM := sr_cats h hc
  have hlen : (lg_sl asM).length = as.length := by rw [lg_sl_len asM hcM, sr_len h]
  have hE := lv_entry asM (n := nL) (by rw [hlen]; exact hn)
  refine ⟨hE.1, hE.2.1, by simp; omega, fun k v hk => ?_⟩
  by_cases hl : k < as.length
  · rw [List.getElem?_append_left hl] at hk
    obtain ⟨v', h1, h2⟩ := sr_get h hk
    refine Or.inr ⟨v', h2, ?_⟩
    have h3 := hE.2.2 _ (lv_args_mem asM 0 hcM k v' h1)
    rwa [Nat.zero_add] at h3
  · rw [List.getElem?_append_right (by omega), List.getElem?_replicate] at hk
    split at hk
    · cases hk; exact Or.inl rfl
    · cases hk
theorem PM.of {y : MethodName} {cc : ByteArray} {Y : mB} {β : Nat × Nat} {as : List Value} {σ : pT} {I : pI} {F : pF} {Post : pQ} (hy : plainName y.cls = true ∧ y.cls = Y.1 ∧ (Y.2.2.2.2.2 = true → y.name = "<init>")) (hcat : ∀ v ∈ as, v.category = 1) (hn : as.length ≤ Y.2.1)
    (k : PW cc Y (fM Post) 0 (as ++ List.replicate (Y.2.1 - as.length) pJ) [] σ I F β) : PM y cc Y β as σ I F Post := by
  intro l D base b al asM hs
  refine MetD.ofW (cc := cc) (maxL := Y.2.1) (ret := Y.2.2.1) hy.1 rfl ?_
  intro p e s m args below meth c s₁ B hml hv hd0
  obtain ⟨rfl, hsz, hsp, hw⟩ := hv
  have hts0 := atoms_spec (ws := pWs y cc Y) B.pre
  have hts : ∀ w ∈ wsA, w.before asM.toArray s = true := fun w h => hts0 w (List.mem_cons_of_mem _ h)
  have hown : s.vm.findClass Y.1 = some m.cls := by rw [← hy.2.1]; exact findClass_of_methodNamed B.named
  rw [lg_entry_eq]
  refine k p l e _ s m _ below meth c D base b al [] s.drawn s.heap [] 0 0 _ [] ⟨B.exec, B.bytes, B.returns, hts, hown, B.notSynchronized, hml, rfl, rfl, hsz, hsp, fun h => ?_⟩ (Drawn.sameBut.refl _ _) (by rw [List.append_nil]; exact lr_entry hs hcat hn) rfl (by rw [List.append_nil]; exact hw) va_S.rf (by simp [headSpec]) (by simp [headSpec])
  exact (name_of_methodNamed B.named B.method).1.trans (hy.2.2 h)
theorem pw_blind {D : va_G} {base b : Nat} {al : List Nat} {σ : pT} {I : pI} {F : pF} {asM : List Value} : FrameBlind (pPc D base b al σ I F asM) := by
  intro a U g mk h
  obtain ⟨h1, h2, hsp, h3⟩ := h
  exact ⟨h1, h2, spW_vm (u := U) (U := U.calling g mk a) rfl hsp, wr_moved (u := U) (U := U.calling g mk a) (Vm.Alike.refl U.vm) h3⟩
/-- what a call comes back with -/
theorem pw_back {p : Program} {l : Launch} {e : Env} {R : Room} {s : State} {m : MethodId} {args : Array Value} {below : List Frame} {meth : Method} {c : Code} {H H0 : Heap} {locs : List Loc} {cells slots mc ms : Nat} {Q : State → Prop} {pc : Nat} {ls : Array Slot} {rest st0 : List Value} {Qa : State → Outcome → State → Prop} {A : Nat → Prop}
    (hr : va_RunD lw_cs p l e R s m args below meth c H locs cells slots mc ms (F0 m pc ls st0) rest Qa A) (hS : va_S A H0 H locs) (hQ : ∀ st o t, Qa st o t → va_F A st t)
    (kk : ∀ (v : Option Value) (st₀ t : State) (H1 : Heap) (locs1 : List Loc) (d' : Drawn), st₀.heap = H → t.heap = H1 → s.vm.Alike t.vm → Qa st₀ (.returned v) t → va_S A H0 H1 locs1 → s.drawn.sameBut d' lw_cs → W p l e R (s.setDrawn d') m args below meth c H1 locs1 (cells + mc) (slots + ms) Q (F0 m (pc + 3) ls (v.toList ++ rest))) : W p l e R s m args below meth c H locs cells slots Q (F0 m pc ls st0) := by
  intro T hT X
  obtain ⟨v, st₀, t, T', L, d', hd', h0, X', hL, e1, e2, hq, st⟩ := hr T hT X
  obtain ⟨hz, hk⟩ := hQ _ _ _ hq
  rw [h0] at hz hk
  obtain ⟨t2, a1, b1⟩ := kk v st₀ t T'.heap (locs ++ L) d' h0 e1.symm (by rw [← e2]; exact X'.warmed.alike) hq
    ⟨Nat.le_trans hS.1 (by rw [e1]; exact hz), fun q h1 h2 => by rw [e1, hk q (Nat.lt_of_lt_of_le h1 hS.1) h2]; exact hS.2.1 q h1 h2, fun q hq => by
      rcases List.mem_append.mp hq with h | h
      · exact hS.2.2 q h
      · exact hL q h⟩ hd' T' rfl X'
  exact ⟨t2, st t2 a1, b1⟩
theorem qc_F {D : va_G} {base b : Nat} {al0 : List Nat} {Post : pQ} {a : Array Value} (st : State) (o : Outcome) (t : State) (h : qcOf D base b al0 Post a st o t) : va_F (fun q : Nat => base ≤ q) st t := h.2
theorem vro_sr {al : List Nat} {v v' : Option Value} {st stM : List Value} (h : vro al v v') (hs : sr al st stM) : sr al (v.toList ++ st) (v'.toList ++ stM) := by
  cases v with
  | none => rw [show v' = none from h]; exact hs
  | some x =>
    obtain ⟨x', rfl, h1⟩ := h
    exact ⟨x', stM, rfl, h1, hs⟩
/-- a callee as the words tell it: name, code, what it returns; its parameters -/
def mOK (y : MethodName) (cc : ByteArray) (Y : mB) (n : Nat) : Prop :=
  Cond.code y cc Y.2.1 Y.2.2.1 ∈ wsA ∧ Cond.initialized y.cls ∈ wsA ∧ y.cls ≠ "java/lang/invoke/MethodHandle" ∧ y.cls ≠ "java/lang/invoke/VarHandle" ∧ (parseMethodDescriptor y.desc).map (fun d => d.parameters.length) = some n
def mOKV (y : MethodName) (cc : ByteArray) (Y : mB) (n ci : Nat) : Prop :=
  mOK y cc Y n ∧ Cond.instanceMethod y ∈ wsA ∧ Cond.selects y.cls y y ∈ wsA ∧ ci < 8 ∧ (∃ q, vwCl[ci]? = some q ∧ q.1 = y.cls)
def mOKS (y : MethodName) (cc : ByteArray) (Y : mB) (n : Nat) : Prop := mOK y cc Y n ∧ Cond.static y ∈ wsA
def mOKI (y : MethodName) (cc : ByteArray) (Y : mB) (n : Nat) : Prop := mOK y cc Y n ∧ Cond.instanceMethod y ∈ wsA ∧ y.name = "<init>" ∧ Y.2.2.1 = none
section PC
variable {cc : ByteArray} {Y : mB} {Z : pZ} {pc : Nat} {ls st : List Value} {σ : pT} {I : pI} {F : pF} {β : Nat × Nat}
theorem pw_callV {y : MethodName} {cy : ByteArray} {Yy : mB} {βy : Nat × Nat} {n ci idx q : Nat} {as : List Value} {Post : pQ} {stk : List Value} (hdg : decode cc pc = .ok (.invokevirtual idx, 3)) (hy : mOKV y cy Yy n ci) (hl : Cond.methodLink Y.1 idx y ∈ wsA) (hM : PM y cy Yy βy (.ref q :: as) σ I F Post)
    (hq : (σ.2.1 q).1 = ci + 1) (hn : as.length = n) (hst : stk = as.reverse ++ .ref q :: st) (hcat : (st.map fun v => v.category).sum ≤ 8) (hR : Yy.2.2.2.1 + 1 ≤ Y.2.2.2.1 ∧ 8 + (Yy.2.1 + 11) + Yy.2.2.2.2.1 ≤ Y.2.2.2.2.1) (hβ : βy.1 ≤ β.1 ∧ βy.2 ≤ β.2)
    (k : ∀ v σ' I' F', Post v σ' I' F' → PW cc Y Z (pc + 3) ls (v.toList ++ st) σ' I' F' (β.1 - βy.1, β.2 - βy.2)) : PW cc Y Z pc ls stk σ I F β := by
  subst hst
  intro p l e R s m args below meth c D base b al0 l0 d0 H locs cells slots lsM stM hc hd hls hs hw hS hk1 hk2
  obtain ⟨hx, hb, hr, hts, hown, hlk, hml, hrf, hrl, hbs, hsp, -⟩ := id hc
  obtain ⟨aM, t1, rfl, ha, a', tM, rfl, ⟨a, haq, rfl⟩, hst⟩ : ∃ aM t1, stM = aM ++ t1 ∧ sr (al0 ++ l0) as.reverse aM ∧ sr (al0 ++ l0) (.ref q :: st) t1 := sr_split hs
  obtain ⟨⟨hcode, hini, hmh, hvh, hpn⟩, hinst, hsel, hci, ⟨vq, hvq, hvn⟩⟩ := hy
  obtain ⟨ws, tys, g1, g2, g3, g4, g5, g6, g7, g8, g9, g10, g11⟩ := id hw
  obtain ⟨j, en, hj, hjw, hce⟩ := wr_cell (D := D) (base := base) (b := b) (U := s) (H := H) g1 g6 g7 g8 (by rw [hq]; omega) (by rw [hq]; omega) haq
  obtain ⟨fs, rfl, -⟩ := hce.1 ci hq hci
  have hasr := sr_rev ha
  rw [List.reverse_reverse] at hasr
  have hts' := dr_words hts d0
  have hG : GoodIn wsA (pWs y cy Yy) := fun w h => by
    rcases List.mem_cons.mp h with rfl | h
    · exact ⟨hcode, wsA_gd _ hcode⟩
    · exact ⟨h, wsA_gd _ h⟩
  have hCB : CallB R (s.setDrawn d0) args Y.1 idx y cy Yy.2.1 Yy.2.2.1 (pWs y cy Yy) (pRm Yy βy) βy.1 βy.2 n := callB_of n hts' hG rfl rfl rfl (hts' _ hini) (hts' _ hl) ⟨hmh, hvh, hpn⟩ ⟨by rw [hrf]; exact hR.1, by rw [hrl]; exact hR.2⟩
  refine pw_back (va_runV_D (cs := lw_cs) (As := aM.reverse) (rest := tM) (C := y.cls) ⟨hx, hb, hml, hown, hts'⟩ (hM l D base b (al0 ++ l0) (.ref a :: aM.reverse) ⟨_, _, rfl, ⟨a, haq, rfl⟩, hasr⟩) ⟨hCB, hts' _ hinst, hts' _ hsel⟩ ⟨pw_blind, by rw [← hvn]; exact va_recv g4 g3 hvq hjw, fun U hU hW => ⟨rfl, by rw [hU]; exact g10, spW_warm hW hsp, by rw [hU]; exact wr_moved hW.alike hw⟩⟩ rfl (by rw [List.length_reverse, sr_len ha, List.length_reverse]; exact hn) hls.1 (by rw [List.reverse_reverse]) (lv_room (by rw [sr_cat hst]; exact hcat)) hdg ⟨by omega, by omega⟩) hS qc_F ?_
  intro v st₀ t H1 locs1 d' h0 ht hvm ⟨⟨vp, v', l', σ', I', F', e1, e2, e3, e4⟩, hF⟩ hS1 hd1
  cases e1
  rw [List.append_assoc] at e2 e4
  have := k vp σ' I' F' e3 p l e R s m args below meth c D base b al0 (l0 ++ l') d' H1 locs1 (cells + βy.1) (slots + βy.2) lsM (v.toList ++ tM) hc (hd.trans hd1) (by rw [← List.append_assoc]; exact lr_app hls) (vro_sr e2 (by rw [← List.append_assoc]; exact sr_app hst)) (by rw [ht] at e4; exact wr_moved hvm.symm e4) hS1 (by show cells + βy.1 + (β.1 - βy.1) ≤ _; omega) (by show slots + βy.2 + (β.2 - βy.2) ≤ _; omega)
  exact this
theorem pw_callS {y : MethodName} {cy : ByteArray} {Yy : mB} {βy : Nat × Nat} {n idx : Nat} {as : List Value} {Post : pQ} {stk : List Value} (hdg : decode cc pc = .ok (.invokestatic idx, 3)) (hy : mOKS y cy Yy n) (hl : Cond.methodLink Y.1 idx y ∈ wsA) (hM : PM y cy Yy βy as σ I F Post)
    (hn : as.length = n) (hst : stk = as.reverse ++ st) (hcat : (st.map fun v => v.category).sum ≤ 8) (hR : Yy.2.2.2.1 + 1 ≤ Y.2.2.2.1 ∧ 8 + (Yy.2.1 + 11) + Yy.2.2.2.2.1 ≤ Y.2.2.2.2.1) (hβ : βy.1 ≤ β.1 ∧ βy.2 ≤ β.2)
    (k : ∀ v σ' I' F', Post v σ' I' F' → PW cc Y Z (pc + 3) ls (v.toList ++ st) σ' I' F' (β.1 - βy.1, β.2 - βy.2)) : PW cc Y Z pc ls stk σ I F β := by
  subst hst
  intro p l e R s m args below meth c D base b al0 l0 d0 H locs cells slots lsM stM hc hd hls hs hw hS hk1 hk2
  obtain ⟨hx, hb, hr, hts, hown, hlk, hml, hrf, hrl, hbs, hsp, -⟩ := id hc
  obtain ⟨aM, tM, rfl, ha, hst⟩ : ∃ aM t1, stM = aM ++ t1 ∧ sr (al0 ++ l0) as.reverse aM ∧ sr (al0 ++ l0) st t1 := sr_split hs
  obtain ⟨⟨hcode, hini, hmh, hvh, hpn⟩, hstat⟩ := hy
  obtain ⟨ws, tys, g1, g2, g3, g4, g5, g6, g7, g8, g9, g10, g11⟩ := id hw
  have hasr := sr_rev ha
  rw [List.reverse_reverse] at hasr
  have hts' := dr_words hts d0
  have hG : GoodIn wsA (pWs y cy Yy) := fun w h => by
    rcases List.mem_cons.mp h with rfl | h
    · exact ⟨hcode, wsA_gd _ hcode⟩
    · exact ⟨h, wsA_gd _ h⟩
  have hCB : CallB R (s.setDrawn d0) args Y.1 idx y cy Yy.2.1 Yy.2.2.1 (pWs y cy Yy) (pRm Yy βy) βy.1 βy.2 n := callB_of n hts' hG rfl rfl rfl (hts' _ hini) (hts' _ hl) ⟨hmh, hvh, hpn⟩ ⟨by rw [hrf]; exact hR.1, by rw [hrl]; exact hR.2⟩
  refine pw_back (va_runS_D (cs := lw_cs) (As := aM.reverse) (rest := tM) ⟨hx, hb, hml, hown, hts'⟩ (hM l D base b (al0 ++ l0) aM.reverse hasr) ⟨hCB, hts' _ hstat⟩ ⟨pw_blind, fun U hU hW => ⟨rfl, by rw [hU]; exact g10, spW_warm hW hsp, by rw [hU]; exact wr_moved hW.alike hw⟩⟩ rfl (by rw [List.length_reverse, sr_len ha, List.length_reverse]; exact hn) hls.1 (by rw [List.reverse_reverse]) (lv_room (by rw [sr_cat hst]; exact hcat)) hdg ⟨by omega, by omega⟩) hS qc_F ?_
  intro v st₀ t H1 locs1 d' h0 ht hvm ⟨⟨vp, v', l', σ', I', F', e1, e2, e3, e4⟩, hF⟩ hS1 hd1
  cases e1
  rw [List.append_assoc] at e2 e4
  have := k vp σ' I' F' e3 p l e R s m args below meth c D base b al0 (l0 ++ l') d' H1 locs1 (cells + βy.1) (slots + βy.2) lsM (v.toList ++ tM) hc (hd.trans hd1) (by rw [← List.append_assoc]; exact lr_app hls) (vro_sr e2 (by rw [← List.append_assoc]; exact sr_app hst)) (by rw [ht] at e4; exact wr_moved hvm.symm e4) hS1 (by show cells + βy.1 + (β.1 - βy.1) ≤ _; omega) (by show slots + βy.2 + (β.2 - βy.2) ≤ _; omega)
  exact this
theorem pw_callI {y : MethodName} {cy : ByteArray} {Yy : mB} {βy : Nat × Nat} {n idx q : Nat} {as : List Value} {Post : pQ} {stk : List Value} (hdg : decode cc pc = .ok (.invokespecial idx, 3)) (hy : mOKI y cy Yy n) (hl : Cond.methodLink Y.1 idx y ∈ wsA) (hM : PM y cy Yy βy (.ref q :: as) σ I F Post)
    (hn : as.length = n) (hst : stk = as.reverse ++ .ref q :: st) (hcat : (st.map fun v => v.category).sum ≤ 8) (hR : Yy.2.2.2.1 + 1 ≤ Y.2.2.2.1 ∧ 8 + (Yy.2.1 + 11) + Yy.2.2.2.2.1 ≤ Y.2.2.2.2.1) (hβ : βy.1 ≤ β.1 ∧ βy.2 ≤ β.2)
    (k : ∀ v σ' I' F', Post v σ' I' F' → PW cc Y Z (pc + 3) ls (v.toList ++ st) σ' I' F' (β.1 - βy.1, β.2 - βy.2)) : PW cc Y Z pc ls stk σ I F β := by
  subst hst
  intro p l e R s m args below meth c D base b al0 l0 d0 H locs cells slots lsM stM hc hd hls hs hw hS hk1 hk2
  obtain ⟨hx, hb, hr, hts, hown, hlk, hml, hrf, hrl, hbs, hsp, -⟩ := id hc
  obtain ⟨aM, t1, rfl, ha, a', tM, rfl, ⟨a, haq, rfl⟩, hst⟩ : ∃ aM t1, stM = aM ++ t1 ∧ sr (al0 ++ l0) as.reverse aM ∧ sr (al0 ++ l0) (.ref q :: st) t1 := sr_split hs
  obtain ⟨⟨hcode, hini, hmh, hvh, hpn⟩, hinst, hnm, hret⟩ := hy
  obtain ⟨ws, tys, g1, g2, g3, g4, g5, g6, g7, g8, g9, g10, g11⟩ := id hw
  have hasr := sr_rev ha
  rw [List.reverse_reverse] at hasr
  have hts' := dr_words hts d0
  have hG : GoodIn wsA (pWs y cy Yy) := fun w h => by
    rcases List.mem_cons.mp h with rfl | h
    · exact ⟨hcode, wsA_gd _ hcode⟩
    · exact ⟨h, wsA_gd _ h⟩
  have hCB : CallB R (s.setDrawn d0) args Y.1 idx y cy Yy.2.1 none (pWs y cy Yy) (pRm Yy βy) βy.1 βy.2 n := callB_of n hts' hG (by show Cond.code y cy Yy.2.1 Yy.2.2.1 :: wsA = _; rw [hret]) rfl rfl (hts' _ hini) (hts' _ hl) ⟨hmh, hvh, hpn⟩ ⟨by rw [hrf]; exact hR.1, by rw [hrl]; exact hR.2⟩
  refine pw_back (va_runI_D (cs := lw_cs) (As := aM.reverse) (rest := tM) ⟨hx, hb, hml, hown, hts'⟩ (hM l D base b (al0 ++ l0) (.ref a :: aM.reverse) ⟨_, _, rfl, ⟨a, haq, rfl⟩, hasr⟩) ⟨hCB, hnm, hts' _ hinst⟩ ⟨pw_blind, fun U hU hW => ⟨rfl, by rw [hU]; exact g10, spW_warm hW hsp, by rw [hU]; exact wr_moved hW.alike hw⟩⟩ rfl (by rw [List.length_reverse, sr_len ha, List.length_reverse]; exact hn) hls.1 (by rw [List.reverse_reverse]) (lv_room (by rw [sr_cat hst]; exact hcat)) hdg ⟨by omega, by omega⟩) hS qc_F ?_
  intro v st₀ t H1 locs1 d' h0 ht hvm ⟨⟨vp, v', l', σ', I', F', e1, e2, e3, e4⟩, hF⟩ hS1 hd1
  cases e1
  rw [List.append_assoc] at e2 e4
  have := k vp σ' I' F' e3 p l e R s m args below meth c D base b al0 (l0 ++ l') d' H1 locs1 (cells + βy.1) (slots + βy.2) lsM (v.toList ++ tM) hc (hd.trans hd1) (by rw [← List.append_assoc]; exact lr_app hls) (vro_sr e2 (by rw [← List.append_assoc]; exact sr_app hst)) (by rw [ht] at e4; exact wr_moved hvm.symm e4) hS1 (by show cells + βy.1 + (β.1 - βy.1) ≤ _; omega) (by show slots + βy.2 + (β.2 - βy.2) ≤ _; omega)
  exact this
theorem pw_callSN {y : MethodName} {cy : ByteArray} {Yy : mB} {βy : Nat × Nat} {n idx : Nat} {as : List Value} {Post : pQ} {stk : List Value} (hdg : decode cc pc = .ok (.invokestatic idx, 3)) (hy : mOKS y cy Yy n) {host : String} (hl : (Y.1, idx, y, host) ∈ spN) (hM : PM y cy Yy βy as σ I F Post)
    (hn : as.length = n) (hst : stk = as.reverse ++ st) (hcat : (st.map fun v => v.category).sum ≤ 8) (hR : Yy.2.2.2.1 + 1 ≤ Y.2.2.2.1 ∧ 8 + (Yy.2.1 + 11) + Yy.2.2.2.2.1 ≤ Y.2.2.2.2.1) (hβ : βy.1 ≤ β.1 ∧ βy.2 ≤ β.2)
    (k : ∀ v σ' I' F', Post v σ' I' F' → PW cc Y Z (pc + 3) ls (v.toList ++ st) σ' I' F' (β.1 - βy.1, β.2 - βy.2)) : PW cc Y Z pc ls stk σ I F β := by
  subst hst
  intro p l e R s m args below meth c D base b al0 l0 d0 H locs cells slots lsM stM hc hd hls hs hw hS hk1 hk2
  obtain ⟨hx, hb, hr, hts, hown, hlk, hml, hrf, hrl, hbs, hsp, -⟩ := id hc
  obtain ⟨aM, tM, rfl, ha, hst⟩ : ∃ aM t1, stM = aM ++ t1 ∧ sr (al0 ++ l0) as.reverse aM ∧ sr (al0 ++ l0) st t1 := sr_split hs
  obtain ⟨⟨hcode, hini, hmh, hvh, hpn⟩, hstat⟩ := hy
  obtain ⟨ws, tys, g1, g2, g3, g4, g5, g6, g7, g8, g9, g10, g11⟩ := id hw
  have hasr := sr_rev ha
  rw [List.reverse_reverse] at hasr
  have hts' := dr_words hts d0
  have hG : GoodIn wsA (pWs y cy Yy) := fun w h => by
    rcases List.mem_cons.mp h with rfl | h
    · exact ⟨hcode, wsA_gd _ hcode⟩
    · exact ⟨h, wsA_gd _ h⟩
  have hCB : va_CN R (s.setDrawn d0) args Y.1 idx y host cy Yy.2.1 Yy.2.2.1 (pWs y cy Yy) (pRm Yy βy) βy.1 βy.2 n := va_cnB n hts' hG rfl rfl rfl (spW_vm (u := s) (U := s.setDrawn d0) rfl hsp |>.1 _ hl) (hts' _ hini) ⟨hmh, hvh, hpn⟩ ⟨by rw [hrf]; exact hR.1, by rw [hrl]; exact hR.2⟩
  refine pw_back (va_runSN_D (cs := lw_cs) (As := aM.reverse) (rest := tM) ⟨hx, hb, hml, hown, hts'⟩ (hM l D base b (al0 ++ l0) aM.reverse hasr) ⟨hCB, hts' _ hstat, trivial⟩ ⟨pw_blind, fun U hU hW => ⟨rfl, by rw [hU]; exact g10, spW_warm hW hsp, by rw [hU]; exact wr_moved hW.alike hw⟩⟩ rfl (by rw [List.length_reverse, sr_len ha, List.length_reverse]; exact hn) hls.1 (by rw [List.reverse_reverse]) (lv_room (by rw [sr_cat hst]; exact hcat)) hdg ⟨by omega, by omega⟩) hS qc_F ?_
  intro v st₀ t H1 locs1 d' h0 ht hvm ⟨⟨vp, v', l', σ', I', F', e1, e2, e3, e4⟩, hF⟩ hS1 hd1
  cases e1
  rw [List.append_assoc] at e2 e4
  have := k vp σ' I' F' e3 p l e R s m args below meth c D base b al0 (l0 ++ l') d' H1 locs1 (cells + βy.1) (slots + βy.2) lsM (v.toList ++ tM) hc (hd.trans hd1) (by rw [← List.append_assoc]; exact lr_app hls) (vro_sr e2 (by rw [← List.append_assoc]; exact sr_app hst)) (by rw [ht] at e4; exact wr_moved hvm.symm e4) hS1 (by show cells + βy.1 + (β.1 - βy.1) ≤ _; omega) (by show slots + βy.2 + (β.2 - βy.2) ≤ _; omega)
  exact this
theorem pw_callIN {y : MethodName} {cy : ByteArray} {Yy : mB} {βy : Nat × Nat} {n idx q : Nat} {as : List Value} {Post : pQ} {stk : List Value} (hdg : decode cc pc = .ok (.invokespecial idx, 3)) (hy : mOKI y cy Yy n) {host : String} (hl : (Y.1, idx, y, host) ∈ spN) (hM : PM y cy Yy βy (.ref q :: as) σ I F Post)
    (hn : as.length = n) (hst : stk = as.reverse ++ .ref q :: st) (hcat : (st.map fun v => v.category).sum ≤ 8) (hR : Yy.2.2.2.1 + 1 ≤ Y.2.2.2.1 ∧ 8 + (Yy.2.1 + 11) + Yy.2.2.2.2.1 ≤ Y.2.2.2.2.1) (hβ : βy.1 ≤ β.1 ∧ βy.2 ≤ β.2)
    (k : ∀ v σ' I' F', Post v σ' I' F' → PW cc Y Z (pc + 3) ls (v.toList ++ st) σ' I' F' (β.1 - βy.1, β.2 - βy.2)) : PW cc Y Z pc ls stk σ I F β := by
  subst hst
  intro p l e R s m args below meth c D base b al0 l0 d0 H locs cells slots lsM stM hc hd hls hs hw hS hk1 hk2
  obtain ⟨hx, hb, hr, hts, hown, hlk, hml, hrf, hrl, hbs, hsp, -⟩ := id hc
  obtain ⟨aM, t1, rfl, ha, a', tM, rfl, ⟨a, haq, rfl⟩, hst⟩ : ∃ aM t1, stM = aM ++ t1 ∧ sr (al0 ++ l0) as.reverse aM ∧ sr (al0 ++ l0) (.ref q :: st) t1 := sr_split hs
  obtain ⟨⟨hcode, hini, hmh, hvh, hpn⟩, hinst, hnm, hret⟩ := hy
  obtain ⟨ws, tys, g1, g2, g3, g4, g5, g6, g7, g8, g9, g10, g11⟩ := id hw
  have hasr := sr_rev ha
  rw [List.reverse_reverse] at hasr
  have hts' := dr_words hts d0
  have hG : GoodIn wsA (pWs y cy Yy) := fun w h => by
    rcases List.mem_cons.mp h with rfl | h
    · exact ⟨hcode, wsA_gd _ hcode⟩
    · exact ⟨h, wsA_gd _ h⟩
  have hCB : va_CN R (s.setDrawn d0) args Y.1 idx y host cy Yy.2.1 none (pWs y cy Yy) (pRm Yy βy) βy.1 βy.2 n := va_cnB n hts' hG (by show Cond.code y cy Yy.2.1 Yy.2.2.1 :: wsA = _; rw [hret]) rfl rfl (spW_vm (u := s) (U := s.setDrawn d0) rfl hsp |>.1 _ hl) (hts' _ hini) ⟨hmh, hvh, hpn⟩ ⟨by rw [hrf]; exact hR.1, by rw [hrl]; exact hR.2⟩
  refine pw_back (va_runIN_D (cs := lw_cs) (As := aM.reverse) (rest := tM) ⟨hx, hb, hml, hown, hts'⟩ (hM l D base b (al0 ++ l0) (.ref a :: aM.reverse) ⟨_, _, rfl, ⟨a, haq, rfl⟩, hasr⟩) ⟨hCB, hnm, hts' _ hinst⟩ ⟨pw_blind, fun U hU hW => ⟨rfl, by rw [hU]; exact g10, spW_warm hW hsp, by rw [hU]; exact wr_moved hW.alike hw⟩⟩ rfl (by rw [List.length_reverse, sr_len ha, List.length_reverse]; exact hn) hls.1 (by rw [List.reverse_reverse]) (lv_room (by rw [sr_cat hst]; exact hcat)) hdg ⟨by omega, by omega⟩) hS qc_F ?_
  intro v st₀ t H1 locs1 d' h0 ht hvm ⟨⟨vp, v', l', σ', I', F', e1, e2, e3, e4⟩, hF⟩ hS1 hd1
  cases e1
  rw [List.append_assoc] at e2 e4
  have := k vp σ' I' F' e3 p l e R s m args below meth c D base b al0 (l0 ++ l') d' H1 locs1 (cells + βy.1) (slots + βy.2) lsM (v.toList ++ tM) hc (hd.trans hd1) (by rw [← List.append_assoc]; exact lr_app hls) (vro_sr e2 (by rw [← List.append_assoc]; exact sr_app hst)) (by rw [ht] at e4; exact wr_moved hvm.symm e4) hS1 (by show cells + βy.1 + (β.1 - βy.1) ≤ _; omega) (by show slots + βy.2 + (β.2 - βy.2) ≤ _; omega)
  exact this
theorem pw_objInit {idx q : Nat} (hdg : decode cc pc = .ok (.invokespecial idx, 3)) (hl : Cond.methodLink Y.1 idx objectInit ∈ wsA) (hi : Cond.instanceMethod objectInit ∈ wsA) (ho : Cond.code objectInit ⟨#[0xb1]⟩ 1 none ∈ wsA) (hR : 1 ≤ Y.2.2.2.1 ∧ 12 ≤ Y.2.2.2.2.1) (k : PW cc Y Z (pc + 3) ls [] σ I F β) : PW cc Y Z pc ls [.ref q] σ I F β := by
  intro p l e R s m args below meth c D base b al0 l0 d0 H locs cells slots lsM stM hc hd hls hs hw hS hk1 hk2
  obtain ⟨hx, hb, hr, hts, hown, hlk, hml, hrf, hrl, hbs, hsp, -⟩ := id hc
  obtain ⟨a', tM, rfl, ⟨a, haq, rfl⟩, hst⟩ := hs
  rw [show tM = [] from hst]
  have hts' := dr_words hts d0
  have h0 : (F0 m pc lsM [Value.ref a]).monitorRoom = 0 := rfl
  have hR2 : 2 * (F0 m pc lsM [Value.ref a]).monitorRoom + (([] : List Value).map fun v => v.category).sum + 12 ≤ R.locals := by
    rw [h0, hrl, List.map_nil, List.sum_nil]
    have := hR.2
    omega
  have hR1 : 1 ≤ R.frames := by
    rw [hrf]
    exact hR.1
  have hsz : (F0 m pc lsM [Value.ref a]).locals.size = c.maxLocals := by
    rw [hml]
    exact hls.1
  refine W.objInit (s := s.setDrawn d0) (rest := []) hx hb hown (hts' _ hl) (hts' _ hi) (hts' _ ho) rfl hsz rfl hdg hR1 hR2 ?_
  refine W.eq (g2 := F0 m (pc + 3) lsM []) rfl ?_
  exact k p l e R s m args below meth c D base b al0 l0 d0 H locs cells slots lsM [] hc hd hls rfl hw hS hk1 hk2
/-! the ends -/
theorem pw_zret {Post : pQ} {x : Int32} {ty : FieldType} (hdg : decode cc pc = .ok (.ireturn, 1)) (hr : Y.2.2.1 = some ty) (hn : narrow ty (.int x) = .int x) (h : Post (some (.int x)) σ I F) : PW cc Y (fM Post) pc ls [.int x] σ I F β := by
  intro p l e R s m args below meth c D base b al0 l0 d0 H locs cells slots lsM stM hc hd hls hs hw hS hk1 hk2
  obtain ⟨hx, hb, hr0, hts, hown, hlk, hml, hrf, hrl, hbs, hsp, -⟩ := id hc
  obtain ⟨v', tM, rfl, rfl, hst⟩ := hs
  rw [show tM = [] from hst]
  refine W.widen (k := R.cells) (n := R.slots) (by omega) (by omega) ?_
  refine W.endD hd ?_
  exact W.zret hx hb (hr0.trans hr) hn (fun t ht hW => ⟨⟨some (.int x), some (.int x), l0, σ, I, F, rfl, ⟨_, rfl, rfl⟩, h, by rw [ht]; exact wr_moved hW.alike hw⟩, hS.F ht⟩) hS.2.2 hdg
theorem pw_iret {Post : pQ} {x : Int32} (hdg : decode cc pc = .ok (.ireturn, 1)) (hr : Y.2.2.1 = some .int) (h : Post (some (.int x)) σ I F) : PW cc Y (fM Post) pc ls [.int x] σ I F β := pw_zret hdg hr rfl h
theorem pw_fret {Post : pQ} {x : UInt32} (hdg : decode cc pc = .ok (.freturn, 1)) (hr : Y.2.2.1 = some .float) (h : Post (some (.float x)) σ I F) : PW cc Y (fM Post) pc ls [.float x] σ I F β := by
  intro p l e R s m args below meth c D base b al0 l0 d0 H locs cells slots lsM stM hc hd hls hs hw hS hk1 hk2
  obtain ⟨hx, hb, hr0, hts, hown, hlk, hml, hrf, hrl, hbs, hsp, -⟩ := id hc
  obtain ⟨v', tM, rfl, ⟨y, rfl, hy⟩, hst⟩ := hs
  rw [show tM = [] from hst]
  refine W.widen (k := R.cells) (n := R.slots) (by omega) (by omega) ?_
  refine W.endD hd ?_
  exact W.fret hx hb (hr0.trans hr) (fun t ht hW => ⟨⟨some (.float x), some (.float y), l0, σ, I, F, rfl, ⟨_, rfl, ⟨y, rfl, hy⟩⟩, h, by rw [ht]; exact wr_moved hW.alike hw⟩, hS.F ht⟩) hS.2.2 hdg hlk
theorem pw_vret {Post : pQ} (hdg : decode cc pc = .ok (.return_, 1)) (hr : Y.2.2.1 = none) (h : Post none σ I F) : PW cc Y (fM Post) pc ls [] σ I F β := by
  intro p l e R s m args below meth c D base b al0 l0 d0 H locs cells slots lsM stM hc hd hls hs hw hS hk1 hk2
  obtain ⟨hx, hb, hr0, hts, hown, hlk, hml, hrf, hrl, hbs, hsp, -⟩ := id hc
  rw [show stM = [] from hs]
  refine W.widen (k := R.cells) (n := R.slots) (by omega) (by omega) ?_
  refine W.endD hd ?_
  exact W.vret hx hb (hr0.trans hr) (fun t ht hW => ⟨⟨none, none, l0, σ, I, F, rfl, rfl, h, by rw [ht]; exact wr_moved hW.alike hw⟩, hS.F ht⟩) hS.2.2 hdg
end PC

