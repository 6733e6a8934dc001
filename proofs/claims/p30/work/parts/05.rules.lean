/-! helpers -/
def up2 {α : Type} (f : Nat → Nat → α) (q k : Nat) (x : α) : Nat → Nat → α := fun i j => if i = q ∧ j = k then x else f i j
theorem up2_row {α : Type} {f : Nat → Nat → α} {q k : Nat} {x : α} {i : Nat} (h : i ≠ q) : up2 f q k x i = f i := by
  funext j
  simp [up2, h]
theorem up2_s {α : Type} {f : Nat → Nat → α} {q k : Nat} {x : α} : up2 f q k x q k = x := by simp [up2]
theorem up2_n {α : Type} {f : Nat → Nat → α} {q k i j : Nat} {x : α} (h : ¬ (i = q ∧ j = k)) : up2 f q k x i j = f i j := by simp [up2, h]
def isIt (t : FieldType) : Bool := match t with
  | .float => false
  | .object _ => false
  | .array _ => false
  | _ => true
def isRt (t : FieldType) : Bool := match t with
  | .object _ => true
  | .array _ => true
  | _ => false
theorem isRt_n {t : FieldType} {a : Nat} (h : isRt t = true) : narrow t (.ref a) = .ref a := by cases t <;> first | rfl | cases h
theorem isRt_f {t : FieldType} {a : Nat} (h : isRt t = true) : fits t (.ref a) = true := by cases t <;> first | rfl | cases h
theorem fv_I {σ : pT} {I : pI} {F : pF} {c q k : Nat} (h : isIt (fty c k) = true) : fv σ I F c q k = .int (I q k) := by
  unfold fv
  generalize fty c k = t at h
  cases t <;> first | rfl | cases h
theorem fv_F {σ : pT} {I : pI} {F : pF} {c q k : Nat} (h : fty c k = .float) : fv σ I F c q k = .float (F q k) := by
  unfold fv
  rw [h]
theorem fv_R {σ : pT} {I : pI} {F : pF} {c q k : Nat} (h : isRt (fty c k) = true) : fv σ I F c q k = rv (σ.2.2 q k) := by
  unfold fv
  generalize fty c k = t at h
  cases t <;> first | rfl | cases h
theorem fv_upI {σ : pT} {I : pI} {F : pF} {c q k j : Nat} {x : Int32} (h : j ≠ k) : fv σ (up2 I q k x) F c q j = fv σ I F c q j := by
  unfold fv
  rw [up2_n (f := I) (fun z => h z.2)]
theorem fv_upF {σ : pT} {I : pI} {F : pF} {c q k j : Nat} {x : UInt32} (h : j ≠ k) : fv σ I (up2 F q k x) c q j = fv σ I F c q j := by
  unfold fv
  rw [up2_n (f := F) (fun z => h z.2)]
theorem fv_upR {σ : pT} {I : pI} {F : pF} {c q k j : Nat} {x : Option Nat} (h : j ≠ k) : fv (σ.1, σ.2.1, up2 σ.2.2 q k x) I F c q j = fv σ I F c q j := by
  unfold fv
  dsimp only
  rw [up2_n (f := σ.2.2) (fun z => h z.2)]
def ffin (ci k : Nat) : Bool := match vwCl[ci]? with
  | some r => (r.2.1 k).2.2.2
  | none => true
def fdecl (ci k : Nat) : String := match vwCl[ci]? with
  | some r => (r.2.1 k).1
  | none => ""
theorem ffin_of {ci k : Nat} {C : String} {T : u_T} {N : Nat} (h : vwCl[ci]? = some (C, T, N)) : ffin ci k = (T k).2.2.2 := by
  unfold ffin
  rw [h]
theorem fdecl_of {ci k : Nat} {C : String} {T : u_T} {N : Nat} (h : vwCl[ci]? = some (C, T, N)) : fdecl ci k = (T k).1 := by
  unfold fdecl
  rw [h]
theorem vw_at {ci : Nat} (h : ci < 8) : ∃ rr : vw_C, vwCl[ci]? = some rr ∧ rr.1 = cnm ci := by
  match ci, h with
  | 0, _ => exact ⟨_, rfl, rfl⟩
  | 1, _ => exact ⟨_, rfl, rfl⟩
  | 2, _ => exact ⟨_, rfl, rfl⟩
  | 3, _ => exact ⟨_, rfl, rfl⟩
  | 4, _ => exact ⟨_, rfl, rfl⟩
  | 5, _ => exact ⟨_, rfl, rfl⟩
  | 6, _ => exact ⟨_, rfl, rfl⟩
  | 7, _ => exact ⟨_, rfl, rfl⟩
/-- a field's link, with all that the rows ask of its class -/
def fdOK (own : String) (idx ci k : Nat) : Prop := ∃ (C : String) (T : u_T), vwCl[ci]? = some (C, T, fN ci) ∧ (∀ w ∈ u_ws C T (fN ci), w ∈ wsA) ∧ k < fN ci ∧ (∀ j, j < fN ci → parseFieldDescriptor (T j).2.2.1 = some (fty ci j)) ∧ (∀ a, a < fN ci → ∀ b, b < fN ci → a ≠ b → (T a).2.1 ≠ (T b).2.1) ∧ Cond.fieldLink own idx (T k).1 (T k).2.1 (T k).2.2.1 ∈ wsA
section PR
variable {cc : ByteArray} {Y : mB} {Z : pZ} {pc : Nat} {ls st : List Value} {σ : pT} {I : pI} {F : pF} {β : Nat × Nat}
theorem pw_iconst {n : Int} {v : Int32} (hdg : decode cc pc = .ok (.iconst n, 1)) (hv : Int32.ofInt n = v) (k : PW cc Y Z (pc + 1) ls (.int v :: st) σ I F β) : PW cc Y Z pc ls st σ I F β := by
  intro p l e R s m args below meth c D base b al0 l0 d0 H locs cells slots lsM stM hc hd hls hs hw hS hk1 hk2
  obtain ⟨hx, hb, hr0, hts, hown, hlk, hml, hrf, hrl, hbs, hsp, -⟩ := id hc
  exact lv_iconst hx hb hdg hv (k p l e R s m args below meth c D base b al0 l0 d0 H locs cells slots lsM _ hc hd hls ⟨_, _, rfl, rfl, hs⟩ hw hS hk1 hk2)

theorem pw_bipush {n : Int} {v : Int32} (hdg : decode cc pc = .ok (.bipush n, 2)) (hv : (Int8.ofInt n).toInt32 = v) (k : PW cc Y Z (pc + 2) ls (.int v :: st) σ I F β) : PW cc Y Z pc ls st σ I F β := by
  intro p l e R s m args below meth c D base b al0 l0 d0 H locs cells slots lsM stM hc hd hls hs hw hS hk1 hk2
  obtain ⟨hx, hb, hr0, hts, hown, hlk, hml, hrf, hrl, hbs, hsp, -⟩ := id hc
  exact lv_bipush hx hb hdg hv (k p l e R s m args below meth c D base b al0 l0 d0 H locs cells slots lsM _ hc hd hls ⟨_, _, rfl, rfl, hs⟩ hw hS hk1 hk2)

theorem pw_sipush {n : Int} {v : Int32} (hdg : decode cc pc = .ok (.sipush n, 3)) (hv : (Int16.ofInt n).toInt32 = v) (k : PW cc Y Z (pc + 3) ls (.int v :: st) σ I F β) : PW cc Y Z pc ls st σ I F β := by
  intro p l e R s m args below meth c D base b al0 l0 d0 H locs cells slots lsM stM hc hd hls hs hw hS hk1 hk2
  obtain ⟨hx, hb, hr0, hts, hown, hlk, hml, hrf, hrl, hbs, hsp, -⟩ := id hc
  exact lv_sipush hx hb hdg hv (k p l e R s m args below meth c D base b al0 l0 d0 H locs cells slots lsM _ hc hd hls ⟨_, _, rfl, rfl, hs⟩ hw hS hk1 hk2)

-- FCONST
theorem pw_ldcf {idx : Nat} {v : UInt32} (hdg : decode cc pc = .ok (.ldc idx, 2)) (hw0 : Cond.constantFloat Y.1 idx v ∈ wsA) (k : PW cc Y Z (pc + 2) ls (.float v :: st) σ I F β) : PW cc Y Z pc ls st σ I F β := by
  intro p l e R s m args below meth c D base b al0 l0 d0 H locs cells slots lsM stM hc hd hls hs hw hS hk1 hk2
  obtain ⟨hx, hb, hr0, hts, hown, hlk, hml, hrf, hrl, hbs, hsp, -⟩ := id hc
  exact lv_ldcf hx hb hown (dr_words hts d0 _ hw0) hdg (k p l e R s m args below meth c D base b al0 l0 d0 H locs cells slots lsM _ hc hd hls ⟨_, _, rfl, ⟨_, rfl, alike32_refl _⟩, hs⟩ hw hS hk1 hk2)

theorem pw_ldcw {idx : Nat} {v : Int32} (hdg : decode cc pc = .ok (.ldc_w idx, 3)) (hw0 : Cond.constant Y.1 idx v ∈ wsA) (k : PW cc Y Z (pc + 3) ls (.int v :: st) σ I F β) : PW cc Y Z pc ls st σ I F β := by
  intro p l e R s m args below meth c D base b al0 l0 d0 H locs cells slots lsM stM hc hd hls hs hw hS hk1 hk2
  obtain ⟨hx, hb, hr0, hts, hown, hlk, hml, hrf, hrl, hbs, hsp, -⟩ := id hc
  exact lv_ldcw hx hb hown (dr_words hts d0 _ hw0) hdg (k p l e R s m args below meth c D base b al0 l0 d0 H locs cells slots lsM _ hc hd hls ⟨_, _, rfl, rfl, hs⟩ hw hS hk1 hk2)

theorem pw_iload_n {k0 : Fin 4} {i : Nat} {x : Int32} (hdg : decode cc pc = .ok (.iload_n k0, 1)) (hi : (k0 : Nat) = i) (hl : ls[i]? = some (.int x)) (k : PW cc Y Z (pc + 1) ls (.int x :: st) σ I F β) : PW cc Y Z pc ls st σ I F β := by
  intro p l e R s m args below meth c D base b al0 l0 d0 H locs cells slots lsM stM hc hd hls hs hw hS hk1 hk2
  obtain ⟨hx, hb, hr0, hts, hown, hlk, hml, hrf, hrl, hbs, hsp, -⟩ := id hc
  obtain ⟨_, rfl, h2⟩ := lr_get hls hl (by intro h; cases h)
  exact lv_iload_n hx hb hdg hi h2 (k p l e R s m args below meth c D base b al0 l0 d0 H locs cells slots lsM _ hc hd hls ⟨_, _, rfl, rfl, hs⟩ hw hS hk1 hk2)

theorem pw_iload {i : Nat} {x : Int32} (hdg : decode cc pc = .ok (.iload i, 2)) (hl : ls[i]? = some (.int x)) (k : PW cc Y Z (pc + 2) ls (.int x :: st) σ I F β) : PW cc Y Z pc ls st σ I F β := by
  intro p l e R s m args below meth c D base b al0 l0 d0 H locs cells slots lsM stM hc hd hls hs hw hS hk1 hk2
  obtain ⟨hx, hb, hr0, hts, hown, hlk, hml, hrf, hrl, hbs, hsp, -⟩ := id hc
  obtain ⟨_, rfl, h2⟩ := lr_get hls hl (by intro h; cases h)
  exact lv_iload hx hb hdg h2 (k p l e R s m args below meth c D base b al0 l0 d0 H locs cells slots lsM _ hc hd hls ⟨_, _, rfl, rfl, hs⟩ hw hS hk1 hk2)

theorem pw_fload_n {k0 : Fin 4} {i : Nat} {x : UInt32} (hdg : decode cc pc = .ok (.fload_n k0, 1)) (hi : (k0 : Nat) = i) (hl : ls[i]? = some (.float x)) (k : PW cc Y Z (pc + 1) ls (.float x :: st) σ I F β) : PW cc Y Z pc ls st σ I F β := by
  intro p l e R s m args below meth c D base b al0 l0 d0 H locs cells slots lsM stM hc hd hls hs hw hS hk1 hk2
  obtain ⟨hx, hb, hr0, hts, hown, hlk, hml, hrf, hrl, hbs, hsp, -⟩ := id hc
  obtain ⟨_, ⟨y, rfl, hy⟩, h2⟩ := lr_get hls hl (by intro h; cases h)
  exact lv_fload_n hx hb hdg hi h2 (k p l e R s m args below meth c D base b al0 l0 d0 H locs cells slots lsM _ hc hd hls ⟨_, _, rfl, ⟨y, rfl, hy⟩, hs⟩ hw hS hk1 hk2)

theorem pw_fload {i : Nat} {x : UInt32} (hdg : decode cc pc = .ok (.fload i, 2)) (hl : ls[i]? = some (.float x)) (k : PW cc Y Z (pc + 2) ls (.float x :: st) σ I F β) : PW cc Y Z pc ls st σ I F β := by
  intro p l e R s m args below meth c D base b al0 l0 d0 H locs cells slots lsM stM hc hd hls hs hw hS hk1 hk2
  obtain ⟨hx, hb, hr0, hts, hown, hlk, hml, hrf, hrl, hbs, hsp, -⟩ := id hc
  obtain ⟨_, ⟨y, rfl, hy⟩, h2⟩ := lr_get hls hl (by intro h; cases h)
  exact lv_fload hx hb hdg h2 (k p l e R s m args below meth c D base b al0 l0 d0 H locs cells slots lsM _ hc hd hls ⟨_, _, rfl, ⟨y, rfl, hy⟩, hs⟩ hw hS hk1 hk2)

theorem pw_aload_n {k0 : Fin 4} {i : Nat} {x : Nat} (hdg : decode cc pc = .ok (.aload_n k0, 1)) (hi : (k0 : Nat) = i) (hl : ls[i]? = some (.ref x)) (k : PW cc Y Z (pc + 1) ls (.ref x :: st) σ I F β) : PW cc Y Z pc ls st σ I F β := by
  intro p l e R s m args below meth c D base b al0 l0 d0 H locs cells slots lsM stM hc hd hls hs hw hS hk1 hk2
  obtain ⟨hx, hb, hr0, hts, hown, hlk, hml, hrf, hrl, hbs, hsp, -⟩ := id hc
  obtain ⟨_, ⟨a, ha, rfl⟩, h2⟩ := lr_get hls hl (by intro h; cases h)
  exact lv_aload_n hx hb hdg hi h2 (k p l e R s m args below meth c D base b al0 l0 d0 H locs cells slots lsM _ hc hd hls ⟨_, _, rfl, ⟨a, ha, rfl⟩, hs⟩ hw hS hk1 hk2)

theorem pw_aload {i : Nat} {x : Nat} (hdg : decode cc pc = .ok (.aload i, 2)) (hl : ls[i]? = some (.ref x)) (k : PW cc Y Z (pc + 2) ls (.ref x :: st) σ I F β) : PW cc Y Z pc ls st σ I F β := by
  intro p l e R s m args below meth c D base b al0 l0 d0 H locs cells slots lsM stM hc hd hls hs hw hS hk1 hk2
  obtain ⟨hx, hb, hr0, hts, hown, hlk, hml, hrf, hrl, hbs, hsp, -⟩ := id hc
  obtain ⟨_, ⟨a, ha, rfl⟩, h2⟩ := lr_get hls hl (by intro h; cases h)
  exact lv_aload hx hb hdg h2 (k p l e R s m args below meth c D base b al0 l0 d0 H locs cells slots lsM _ hc hd hls ⟨_, _, rfl, ⟨a, ha, rfl⟩, hs⟩ hw hS hk1 hk2)

theorem pw_dload {i : Nat} {x : UInt64} (hdg : decode cc pc = .ok (.dload i, 2)) (hl : ls[i]? = some (.double x)) (k : PW cc Y Z (pc + 2) ls (.double x :: st) σ I F β) : PW cc Y Z pc ls st σ I F β := by
  intro p l e R s m args below meth c D base b al0 l0 d0 H locs cells slots lsM stM hc hd hls hs hw hS hk1 hk2
  obtain ⟨hx, hb, hr0, hts, hown, hlk, hml, hrf, hrl, hbs, hsp, -⟩ := id hc
  obtain ⟨_, ⟨y, rfl, hy⟩, h2⟩ := lr_get hls hl (by intro h; cases h)
  exact lv_dload hx hb hdg h2 (k p l e R s m args below meth c D base b al0 l0 d0 H locs cells slots lsM _ hc hd hls ⟨_, _, rfl, ⟨y, rfl, hy⟩, hs⟩ hw hS hk1 hk2)

theorem pw_istore_n {k0 : Fin 4} {i : Nat} {x : Int32} (hdg : decode cc pc = .ok (.istore_n k0, 1)) (hi : (k0 : Nat) = i) (hn : i < Y.2.1) (ho : lo2 ls i = true) (k : PW cc Y Z (pc + 1) (ls.set i (.int x)) st σ I F β) : PW cc Y Z pc ls (.int x :: st) σ I F β := by
  intro p l e R s m args below meth c D base b al0 l0 d0 H locs cells slots lsM stM hc hd hls hs hw hS hk1 hk2
  obtain ⟨hx, hb, hr0, hts, hown, hlk, hml, hrf, hrl, hbs, hsp, -⟩ := id hc
  obtain ⟨_, t0, rfl, rfl, hs⟩ := hs
  refine lv_istore_n hx hb hdg hi (lr_has hls) hn rfl (fun ls1 hl1 => ?_)
  exact k p l e R s m args below meth c D base b al0 l0 d0 H locs cells slots ls1 _ hc hd (lr_set hls (rfl : vr _ (.int x) (.int x)) hl1 (lo2_ok ho)) hs hw hS hk1 hk2

theorem pw_istore {i : Nat} {x : Int32} (hdg : decode cc pc = .ok (.istore i, 2)) (hn : i < Y.2.1) (ho : lo2 ls i = true) (k : PW cc Y Z (pc + 2) (ls.set i (.int x)) st σ I F β) : PW cc Y Z pc ls (.int x :: st) σ I F β := by
  intro p l e R s m args below meth c D base b al0 l0 d0 H locs cells slots lsM stM hc hd hls hs hw hS hk1 hk2
  obtain ⟨hx, hb, hr0, hts, hown, hlk, hml, hrf, hrl, hbs, hsp, -⟩ := id hc
  obtain ⟨_, t0, rfl, rfl, hs⟩ := hs
  refine lv_istore hx hb hdg (lr_has hls) hn rfl (fun ls1 hl1 => ?_)
  exact k p l e R s m args below meth c D base b al0 l0 d0 H locs cells slots ls1 _ hc hd (lr_set hls (rfl : vr _ (.int x) (.int x)) hl1 (lo2_ok ho)) hs hw hS hk1 hk2

theorem pw_fstore_n {k0 : Fin 4} {i : Nat} {x : UInt32} (hdg : decode cc pc = .ok (.fstore_n k0, 1)) (hi : (k0 : Nat) = i) (hn : i < Y.2.1) (ho : lo2 ls i = true) (k : PW cc Y Z (pc + 1) (ls.set i (.float x)) st σ I F β) : PW cc Y Z pc ls (.float x :: st) σ I F β := by
  intro p l e R s m args below meth c D base b al0 l0 d0 H locs cells slots lsM stM hc hd hls hs hw hS hk1 hk2
  obtain ⟨hx, hb, hr0, hts, hown, hlk, hml, hrf, hrl, hbs, hsp, -⟩ := id hc
  obtain ⟨_, t0, rfl, ⟨x', rfl, hx'⟩, hs⟩ := hs
  refine lv_fstore_n hx hb hdg hi (lr_has hls) hn rfl (fun ls1 hl1 => ?_)
  exact k p l e R s m args below meth c D base b al0 l0 d0 H locs cells slots ls1 _ hc hd (lr_set hls (⟨x', rfl, hx'⟩ : vr _ (.float x) (.float x')) hl1 (lo2_ok ho)) hs hw hS hk1 hk2

theorem pw_fstore {i : Nat} {x : UInt32} (hdg : decode cc pc = .ok (.fstore i, 2)) (hn : i < Y.2.1) (ho : lo2 ls i = true) (k : PW cc Y Z (pc + 2) (ls.set i (.float x)) st σ I F β) : PW cc Y Z pc ls (.float x :: st) σ I F β := by
  intro p l e R s m args below meth c D base b al0 l0 d0 H locs cells slots lsM stM hc hd hls hs hw hS hk1 hk2
  obtain ⟨hx, hb, hr0, hts, hown, hlk, hml, hrf, hrl, hbs, hsp, -⟩ := id hc
  obtain ⟨_, t0, rfl, ⟨x', rfl, hx'⟩, hs⟩ := hs
  refine lv_fstore hx hb hdg (lr_has hls) hn rfl (fun ls1 hl1 => ?_)
  exact k p l e R s m args below meth c D base b al0 l0 d0 H locs cells slots ls1 _ hc hd (lr_set hls (⟨x', rfl, hx'⟩ : vr _ (.float x) (.float x')) hl1 (lo2_ok ho)) hs hw hS hk1 hk2

theorem pw_astore_n {k0 : Fin 4} {i : Nat} {x : Nat} (hdg : decode cc pc = .ok (.astore_n k0, 1)) (hi : (k0 : Nat) = i) (hn : i < Y.2.1) (ho : lo2 ls i = true) (k : PW cc Y Z (pc + 1) (ls.set i (.ref x)) st σ I F β) : PW cc Y Z pc ls (.ref x :: st) σ I F β := by
  intro p l e R s m args below meth c D base b al0 l0 d0 H locs cells slots lsM stM hc hd hls hs hw hS hk1 hk2
  obtain ⟨hx, hb, hr0, hts, hown, hlk, hml, hrf, hrl, hbs, hsp, -⟩ := id hc
  obtain ⟨_, t0, rfl, ⟨xa, hx', rfl⟩, hs⟩ := hs
  refine lv_astore_n hx hb hdg hi (lr_has hls) hn rfl (fun ls1 hl1 => ?_)
  exact k p l e R s m args below meth c D base b al0 l0 d0 H locs cells slots ls1 _ hc hd (lr_set hls (⟨xa, hx', rfl⟩ : vr _ (.ref x) (.ref xa)) hl1 (lo2_ok ho)) hs hw hS hk1 hk2

theorem pw_astore {i : Nat} {x : Nat} (hdg : decode cc pc = .ok (.astore i, 2)) (hn : i < Y.2.1) (ho : lo2 ls i = true) (k : PW cc Y Z (pc + 2) (ls.set i (.ref x)) st σ I F β) : PW cc Y Z pc ls (.ref x :: st) σ I F β := by
  intro p l e R s m args below meth c D base b al0 l0 d0 H locs cells slots lsM stM hc hd hls hs hw hS hk1 hk2
  obtain ⟨hx, hb, hr0, hts, hown, hlk, hml, hrf, hrl, hbs, hsp, -⟩ := id hc
  obtain ⟨_, t0, rfl, ⟨xa, hx', rfl⟩, hs⟩ := hs
  refine lv_astore hx hb hdg (lr_has hls) hn rfl (fun ls1 hl1 => ?_)
  exact k p l e R s m args below meth c D base b al0 l0 d0 H locs cells slots ls1 _ hc hd (lr_set hls (⟨xa, hx', rfl⟩ : vr _ (.ref x) (.ref xa)) hl1 (lo2_ok ho)) hs hw hS hk1 hk2

theorem pw_dstore {i : Nat} {x : UInt64} (hdg : decode cc pc = .ok (.dstore i, 2)) (hn : i + 1 < Y.2.1) (ho : lo2 ls i = true) (k : PW cc Y Z (pc + 2) ((ls.set i (.double x)).set (i + 1) pJ) st σ I F β) : PW cc Y Z pc ls (.double x :: st) σ I F β := by
  intro p l e R s m args below meth c D base b al0 l0 d0 H locs cells slots lsM stM hc hd hls hs hw hS hk1 hk2
  obtain ⟨hx, hb, hr0, hts, hown, hlk, hml, hrf, hrl, hbs, hsp, -⟩ := id hc
  obtain ⟨_, t0, rfl, ⟨x', rfl, hx'⟩, hs⟩ := hs
  refine lv_dstore hx hb hdg (lr_has hls) hn rfl (fun ls1 hl1 => ?_)
  exact k p l e R s m args below meth c D base b al0 l0 d0 H locs cells slots ls1 _ hc hd (lr_set2 hls (⟨_, rfl, hx'⟩ : vr _ (.double x) _) hl1 (lo2_ok ho)) hs hw hS hk1 hk2

theorem pw_iinc {i : Nat} {n : Int} {x v : Int32} (hdg : decode cc pc = .ok (.iinc i n, 3)) (hl : ls[i]? = some (.int x)) (hv : x + Int32.ofInt n = v) (ho : lo2 ls i = true) (k : PW cc Y Z (pc + 3) (ls.set i (.int v)) st σ I F β) : PW cc Y Z pc ls st σ I F β := by
  intro p l e R s m args below meth c D base b al0 l0 d0 H locs cells slots lsM stM hc hd hls hs hw hS hk1 hk2
  obtain ⟨hx, hb, hr0, hts, hown, hlk, hml, hrf, hrl, hbs, hsp, -⟩ := id hc
  obtain ⟨_, rfl, h2⟩ := lr_get hls hl (by intro h; cases h)
  obtain ⟨k9, hk9⟩ := List.getElem?_of_mem (lr_mem.mpr h2)
  have hn : i < Y.2.1 := by rw [← hls.2.2.1]; exact (List.getElem?_eq_some_iff.mp hl).1
  refine lv_iinc hx hb hdg (lr_has hls) hk9 hv hn rfl (fun ls1 hl1 => ?_)
  exact k p l e R s m args below meth c D base b al0 l0 d0 H locs cells slots ls1 _ hc hd (lr_set hls (rfl : vr _ (.int v) (.int v)) hl1 (lo2_ok ho)) hs hw hS hk1 hk2

theorem pw_iadd {x y : Int32} (hdg : decode cc pc = .ok (.iadd, 1)) (k : PW cc Y Z (pc + 1) ls (.int (x + y) :: st) σ I F β) : PW cc Y Z pc ls (.int y :: .int x :: st) σ I F β := by
  intro p l e R s m args below meth c D base b al0 l0 d0 H locs cells slots lsM stM hc hd hls hs hw hS hk1 hk2
  obtain ⟨hx, hb, hr0, hts, hown, hlk, hml, hrf, hrl, hbs, hsp, -⟩ := id hc
  obtain ⟨_, t0, rfl, rfl, hs⟩ := hs
  obtain ⟨_, t1, rfl, rfl, hs⟩ := hs
  exact lv_iadd hx hb hdg (k p l e R s m args below meth c D base b al0 l0 d0 H locs cells slots lsM _ hc hd hls ⟨_, _, rfl, rfl, hs⟩ hw hS hk1 hk2)

theorem pw_isub {x y : Int32} (hdg : decode cc pc = .ok (.isub, 1)) (k : PW cc Y Z (pc + 1) ls (.int (x - y) :: st) σ I F β) : PW cc Y Z pc ls (.int y :: .int x :: st) σ I F β := by
  intro p l e R s m args below meth c D base b al0 l0 d0 H locs cells slots lsM stM hc hd hls hs hw hS hk1 hk2
  obtain ⟨hx, hb, hr0, hts, hown, hlk, hml, hrf, hrl, hbs, hsp, -⟩ := id hc
  obtain ⟨_, t0, rfl, rfl, hs⟩ := hs
  obtain ⟨_, t1, rfl, rfl, hs⟩ := hs
  exact lv_isub hx hb hdg (k p l e R s m args below meth c D base b al0 l0 d0 H locs cells slots lsM _ hc hd hls ⟨_, _, rfl, rfl, hs⟩ hw hS hk1 hk2)

theorem pw_imul {x y : Int32} (hdg : decode cc pc = .ok (.imul, 1)) (k : PW cc Y Z (pc + 1) ls (.int (x * y) :: st) σ I F β) : PW cc Y Z pc ls (.int y :: .int x :: st) σ I F β := by
  intro p l e R s m args below meth c D base b al0 l0 d0 H locs cells slots lsM stM hc hd hls hs hw hS hk1 hk2
  obtain ⟨hx, hb, hr0, hts, hown, hlk, hml, hrf, hrl, hbs, hsp, -⟩ := id hc
  obtain ⟨_, t0, rfl, rfl, hs⟩ := hs
  obtain ⟨_, t1, rfl, rfl, hs⟩ := hs
  exact lv_imul hx hb hdg (k p l e R s m args below meth c D base b al0 l0 d0 H locs cells slots lsM _ hc hd hls ⟨_, _, rfl, rfl, hs⟩ hw hS hk1 hk2)

theorem pw_iand {x y : Int32} (hdg : decode cc pc = .ok (.iand, 1)) (k : PW cc Y Z (pc + 1) ls (.int (x &&& y) :: st) σ I F β) : PW cc Y Z pc ls (.int y :: .int x :: st) σ I F β := by
  intro p l e R s m args below meth c D base b al0 l0 d0 H locs cells slots lsM stM hc hd hls hs hw hS hk1 hk2
  obtain ⟨hx, hb, hr0, hts, hown, hlk, hml, hrf, hrl, hbs, hsp, -⟩ := id hc
  obtain ⟨_, t0, rfl, rfl, hs⟩ := hs
  obtain ⟨_, t1, rfl, rfl, hs⟩ := hs
  exact lv_iand hx hb hdg (k p l e R s m args below meth c D base b al0 l0 d0 H locs cells slots lsM _ hc hd hls ⟨_, _, rfl, rfl, hs⟩ hw hS hk1 hk2)

theorem pw_ixor {x y : Int32} (hdg : decode cc pc = .ok (.ixor, 1)) (k : PW cc Y Z (pc + 1) ls (.int (x ^^^ y) :: st) σ I F β) : PW cc Y Z pc ls (.int y :: .int x :: st) σ I F β := by
  intro p l e R s m args below meth c D base b al0 l0 d0 H locs cells slots lsM stM hc hd hls hs hw hS hk1 hk2
  obtain ⟨hx, hb, hr0, hts, hown, hlk, hml, hrf, hrl, hbs, hsp, -⟩ := id hc
  obtain ⟨_, t0, rfl, rfl, hs⟩ := hs
  obtain ⟨_, t1, rfl, rfl, hs⟩ := hs
  exact lv_ixor hx hb hdg (k p l e R s m args below meth c D base b al0 l0 d0 H locs cells slots lsM _ hc hd hls ⟨_, _, rfl, rfl, hs⟩ hw hS hk1 hk2)

theorem pw_ishl {x y : Int32} (hdg : decode cc pc = .ok (.ishl, 1)) (k : PW cc Y Z (pc + 1) ls (.int (x <<< (y &&& 31)) :: st) σ I F β) : PW cc Y Z pc ls (.int y :: .int x :: st) σ I F β := by
  intro p l e R s m args below meth c D base b al0 l0 d0 H locs cells slots lsM stM hc hd hls hs hw hS hk1 hk2
  obtain ⟨hx, hb, hr0, hts, hown, hlk, hml, hrf, hrl, hbs, hsp, -⟩ := id hc
  obtain ⟨_, t0, rfl, rfl, hs⟩ := hs
  obtain ⟨_, t1, rfl, rfl, hs⟩ := hs
  exact lv_ishl hx hb hdg (k p l e R s m args below meth c D base b al0 l0 d0 H locs cells slots lsM _ hc hd hls ⟨_, _, rfl, rfl, hs⟩ hw hS hk1 hk2)

theorem pw_ishr {x y : Int32} (hdg : decode cc pc = .ok (.ishr, 1)) (k : PW cc Y Z (pc + 1) ls (.int (x >>> (y &&& 31)) :: st) σ I F β) : PW cc Y Z pc ls (.int y :: .int x :: st) σ I F β := by
  intro p l e R s m args below meth c D base b al0 l0 d0 H locs cells slots lsM stM hc hd hls hs hw hS hk1 hk2
  obtain ⟨hx, hb, hr0, hts, hown, hlk, hml, hrf, hrl, hbs, hsp, -⟩ := id hc
  obtain ⟨_, t0, rfl, rfl, hs⟩ := hs
  obtain ⟨_, t1, rfl, rfl, hs⟩ := hs
  exact lv_ishr hx hb hdg (k p l e R s m args below meth c D base b al0 l0 d0 H locs cells slots lsM _ hc hd hls ⟨_, _, rfl, rfl, hs⟩ hw hS hk1 hk2)

theorem pw_irem {x y : Int32} (hdg : decode cc pc = .ok (.irem, 1)) (hne : ¬ y = 0) (k : PW cc Y Z (pc + 1) ls (.int (x - x / y * y) :: st) σ I F β) : PW cc Y Z pc ls (.int y :: .int x :: st) σ I F β := by
  intro p l e R s m args below meth c D base b al0 l0 d0 H locs cells slots lsM stM hc hd hls hs hw hS hk1 hk2
  obtain ⟨hx, hb, hr0, hts, hown, hlk, hml, hrf, hrl, hbs, hsp, -⟩ := id hc
  obtain ⟨_, t0, rfl, rfl, hs⟩ := hs
  obtain ⟨_, t1, rfl, rfl, hs⟩ := hs
  exact lv_irem hx hb hdg hne (k p l e R s m args below meth c D base b al0 l0 d0 H locs cells slots lsM _ hc hd hls ⟨_, _, rfl, rfl, hs⟩ hw hS hk1 hk2)

theorem pw_iushr {x y v : Int32} (hdg : decode cc pc = .ok (.iushr, 1)) (hv : (x.toUInt32 >>> (y.toUInt32 &&& Int32.toUInt32 31)).toInt32 = v) (k : PW cc Y Z (pc + 1) ls (.int v :: st) σ I F β) : PW cc Y Z pc ls (.int y :: .int x :: st) σ I F β := by
  intro p l e R s m args below meth c D base b al0 l0 d0 H locs cells slots lsM stM hc hd hls hs hw hS hk1 hk2
  obtain ⟨hx, hb, hr0, hts, hown, hlk, hml, hrf, hrl, hbs, hsp, -⟩ := id hc
  obtain ⟨_, t0, rfl, rfl, hs⟩ := hs
  obtain ⟨_, t1, rfl, rfl, hs⟩ := hs
  exact lv_iushr hx hb hdg hv (k p l e R s m args below meth c D base b al0 l0 d0 H locs cells slots lsM _ hc hd hls ⟨_, _, rfl, rfl, hs⟩ hw hS hk1 hk2)

theorem pw_fadd {x y : UInt32} (hdg : decode cc pc = .ok (.fadd, 1)) (k : PW cc Y Z (pc + 1) ls (.float (FP.fadd x y) :: st) σ I F β) : PW cc Y Z pc ls (.float y :: .float x :: st) σ I F β := by
  intro p l e R s m args below meth c D base b al0 l0 d0 H locs cells slots lsM stM hc hd hls hs hw hS hk1 hk2
  obtain ⟨hx, hb, hr0, hts, hown, hlk, hml, hrf, hrl, hbs, hsp, -⟩ := id hc
  obtain ⟨_, t0, rfl, ⟨y', rfl, hy'⟩, hs⟩ := hs
  obtain ⟨_, t1, rfl, ⟨x', rfl, hx'⟩, hs⟩ := hs
  refine lv_fadd_any hd lw_bits hx hb hdg (fun r d1 hal hd1 => ?_)
  exact k p l e R s m args below meth c D base b al0 l0 d1 H locs cells slots lsM _ hc hd1 hls ⟨_, _, rfl, ⟨r, rfl, by rw [← alike_fadd hx' hy']; exact hal⟩, hs⟩ hw hS hk1 hk2

theorem pw_fsub {x y : UInt32} (hdg : decode cc pc = .ok (.fsub, 1)) (k : PW cc Y Z (pc + 1) ls (.float (FP.fsub x y) :: st) σ I F β) : PW cc Y Z pc ls (.float y :: .float x :: st) σ I F β := by
  intro p l e R s m args below meth c D base b al0 l0 d0 H locs cells slots lsM stM hc hd hls hs hw hS hk1 hk2
  obtain ⟨hx, hb, hr0, hts, hown, hlk, hml, hrf, hrl, hbs, hsp, -⟩ := id hc
  obtain ⟨_, t0, rfl, ⟨y', rfl, hy'⟩, hs⟩ := hs
  obtain ⟨_, t1, rfl, ⟨x', rfl, hx'⟩, hs⟩ := hs
  refine lv_fsub_any hd lw_bits hx hb hdg (fun r d1 hal hd1 => ?_)
  exact k p l e R s m args below meth c D base b al0 l0 d1 H locs cells slots lsM _ hc hd1 hls ⟨_, _, rfl, ⟨r, rfl, by rw [← alike_fsub hx' hy']; exact hal⟩, hs⟩ hw hS hk1 hk2

theorem pw_fmul {x y : UInt32} (hdg : decode cc pc = .ok (.fmul, 1)) (k : PW cc Y Z (pc + 1) ls (.float (FP.fmul x y) :: st) σ I F β) : PW cc Y Z pc ls (.float y :: .float x :: st) σ I F β := by
  intro p l e R s m args below meth c D base b al0 l0 d0 H locs cells slots lsM stM hc hd hls hs hw hS hk1 hk2
  obtain ⟨hx, hb, hr0, hts, hown, hlk, hml, hrf, hrl, hbs, hsp, -⟩ := id hc
  obtain ⟨_, t0, rfl, ⟨y', rfl, hy'⟩, hs⟩ := hs
  obtain ⟨_, t1, rfl, ⟨x', rfl, hx'⟩, hs⟩ := hs
  refine lv_fmul_any hd lw_bits hx hb hdg (fun r d1 hal hd1 => ?_)
  exact k p l e R s m args below meth c D base b al0 l0 d1 H locs cells slots lsM _ hc hd1 hls ⟨_, _, rfl, ⟨r, rfl, by rw [← alike_fmul hx' hy']; exact hal⟩, hs⟩ hw hS hk1 hk2

theorem pw_fdiv {x y : UInt32} (hdg : decode cc pc = .ok (.fdiv, 1)) (k : PW cc Y Z (pc + 1) ls (.float (FP.fdiv x y) :: st) σ I F β) : PW cc Y Z pc ls (.float y :: .float x :: st) σ I F β := by
  intro p l e R s m args below meth c D base b al0 l0 d0 H locs cells slots lsM stM hc hd hls hs hw hS hk1 hk2
  obtain ⟨hx, hb, hr0, hts, hown, hlk, hml, hrf, hrl, hbs, hsp, -⟩ := id hc
  obtain ⟨_, t0, rfl, ⟨y', rfl, hy'⟩, hs⟩ := hs
  obtain ⟨_, t1, rfl, ⟨x', rfl, hx'⟩, hs⟩ := hs
  refine lv_fdiv_any hd lw_bits hx hb hdg (fun r d1 hal hd1 => ?_)
  exact k p l e R s m args below meth c D base b al0 l0 d1 H locs cells slots lsM _ hc hd1 hls ⟨_, _, rfl, ⟨r, rfl, by rw [← alike_fdiv hx' hy']; exact hal⟩, hs⟩ hw hS hk1 hk2

theorem pw_i2f {x : Int32} (hdg : decode cc pc = .ok (.i2f, 1)) (k : PW cc Y Z (pc + 1) ls (.float (FP.i2f x) :: st) σ I F β) : PW cc Y Z pc ls (.int x :: st) σ I F β := by
  intro p l e R s m args below meth c D base b al0 l0 d0 H locs cells slots lsM stM hc hd hls hs hw hS hk1 hk2
  obtain ⟨hx, hb, hr0, hts, hown, hlk, hml, hrf, hrl, hbs, hsp, -⟩ := id hc
  obtain ⟨_, t0, rfl, rfl, hs⟩ := hs
  exact lv_i2f hx hb hdg (k p l e R s m args below meth c D base b al0 l0 d0 H locs cells slots lsM _ hc hd hls ⟨_, _, rfl, ⟨_, rfl, alike32_refl _⟩, hs⟩ hw hS hk1 hk2)

theorem pw_f2i {x : UInt32} (hdg : decode cc pc = .ok (.f2i, 1)) (k : PW cc Y Z (pc + 1) ls (.int (FP.f2i x) :: st) σ I F β) : PW cc Y Z pc ls (.float x :: st) σ I F β := by
  intro p l e R s m args below meth c D base b al0 l0 d0 H locs cells slots lsM stM hc hd hls hs hw hS hk1 hk2
  obtain ⟨hx, hb, hr0, hts, hown, hlk, hml, hrf, hrl, hbs, hsp, -⟩ := id hc
  obtain ⟨_, t0, rfl, ⟨x', rfl, hx'⟩, hs⟩ := hs
  refine lv_f2i hx hb hdg ?_
  rw [alike_f2i hx']
  exact k p l e R s m args below meth c D base b al0 l0 d0 H locs cells slots lsM _ hc hd hls ⟨_, _, rfl, rfl, hs⟩ hw hS hk1 hk2

theorem pw_f2d {x : UInt32} (hdg : decode cc pc = .ok (.f2d, 1)) (k : PW cc Y Z (pc + 1) ls (.double (FP.f2d x) :: st) σ I F β) : PW cc Y Z pc ls (.float x :: st) σ I F β := by
  intro p l e R s m args below meth c D base b al0 l0 d0 H locs cells slots lsM stM hc hd hls hs hw hS hk1 hk2
  obtain ⟨hx, hb, hr0, hts, hown, hlk, hml, hrf, hrl, hbs, hsp, -⟩ := id hc
  obtain ⟨_, t0, rfl, ⟨x', rfl, hx'⟩, hs⟩ := hs
  refine lv_f2d_any hd lw_bits hx hb hdg (fun r d1 hal hd1 => ?_)
  exact k p l e R s m args below meth c D base b al0 l0 d1 H locs cells slots lsM _ hc hd1 hls ⟨_, _, rfl, ⟨r, rfl, alike64_trans hal (alike_f2d hx')⟩, hs⟩ hw hS hk1 hk2

theorem pw_i2c {x v : Int32} (hdg : decode cc pc = .ok (.i2c, 1)) (hv : (x.toUInt32 % 65536).toInt32 = v) (k : PW cc Y Z (pc + 1) ls (.int v :: st) σ I F β) : PW cc Y Z pc ls (.int x :: st) σ I F β := by
  intro p l e R s m args below meth c D base b al0 l0 d0 H locs cells slots lsM stM hc hd hls hs hw hS hk1 hk2
  obtain ⟨hx, hb, hr0, hts, hown, hlk, hml, hrf, hrl, hbs, hsp, -⟩ := id hc
  obtain ⟨_, t0, rfl, rfl, hs⟩ := hs
  exact lv_i2c hx hb hdg hv (k p l e R s m args below meth c D base b al0 l0 d0 H locs cells slots lsM _ hc hd hls ⟨_, _, rfl, rfl, hs⟩ hw hS hk1 hk2)

theorem pw_fcmp {x y : UInt32} {op : CmpOp} (hdg : decode cc pc = .ok (.fcmp op, 1)) (k : PW cc Y Z (pc + 1) ls (.int (Op.cmpValue (FP.fcmp x y) op) :: st) σ I F β) : PW cc Y Z pc ls (.float y :: .float x :: st) σ I F β := by
  intro p l e R s m args below meth c D base b al0 l0 d0 H locs cells slots lsM stM hc hd hls hs hw hS hk1 hk2
  obtain ⟨hx, hb, hr0, hts, hown, hlk, hml, hrf, hrl, hbs, hsp, -⟩ := id hc
  obtain ⟨_, t0, rfl, ⟨y', rfl, hy'⟩, hs⟩ := hs
  obtain ⟨_, t1, rfl, ⟨x', rfl, hx'⟩, hs⟩ := hs
  refine lv_fcmp hx hb hdg ?_
  rw [alike_fcmp hx' hy']
  exact k p l e R s m args below meth c D base b al0 l0 d0 H locs cells slots lsM _ hc hd hls ⟨_, _, rfl, rfl, hs⟩ hw hS hk1 hk2

theorem pw_dcmp {x y : UInt64} {op : CmpOp} (hdg : decode cc pc = .ok (.dcmp op, 1)) (k : PW cc Y Z (pc + 1) ls (.int (Op.cmpValue (FP.dcmp x y) op) :: st) σ I F β) : PW cc Y Z pc ls (.double y :: .double x :: st) σ I F β := by
  intro p l e R s m args below meth c D base b al0 l0 d0 H locs cells slots lsM stM hc hd hls hs hw hS hk1 hk2
  obtain ⟨hx, hb, hr0, hts, hown, hlk, hml, hrf, hrl, hbs, hsp, -⟩ := id hc
  obtain ⟨_, t0, rfl, ⟨y', rfl, hy'⟩, hs⟩ := hs
  obtain ⟨_, t1, rfl, ⟨x', rfl, hx'⟩, hs⟩ := hs
  refine lv_dcmp hx hb hdg ?_
  rw [alike_dcmp hx' hy']
  exact k p l e R s m args below meth c D base b al0 l0 d0 H locs cells slots lsM _ hc hd hls ⟨_, _, rfl, rfl, hs⟩ hw hS hk1 hk2

theorem pw_dup {v : Value} (hdg : decode cc pc = .ok (.dup, 1)) (hv : v.category = 1) (k : PW cc Y Z (pc + 1) ls (v :: v :: st) σ I F β) : PW cc Y Z pc ls (v :: st) σ I F β := by
  intro p l e R s m args below meth c D base b al0 l0 d0 H locs cells slots lsM stM hc hd hls hs hw hS hk1 hk2
  obtain ⟨hx, hb, hr0, hts, hown, hlk, hml, hrf, hrl, hbs, hsp, -⟩ := id hc
  obtain ⟨v', t0, rfl, h1, hs⟩ := hs
  exact lv_dup hx hb hdg (by rw [vr_cat h1]; exact hv) (k p l e R s m args below meth c D base b al0 l0 d0 H locs cells slots lsM _ hc hd hls ⟨_, _, rfl, h1, _, _, rfl, h1, hs⟩ hw hS hk1 hk2)

theorem pw_dup2 {v w : Value} (hdg : decode cc pc = .ok (.dup2, 1)) (hv : v.category = 1) (hw0 : w.category = 1) (k : PW cc Y Z (pc + 1) ls (v :: w :: v :: w :: st) σ I F β) : PW cc Y Z pc ls (v :: w :: st) σ I F β := by
  intro p l e R s m args below meth c D base b al0 l0 d0 H locs cells slots lsM stM hc hd hls hs hw hS hk1 hk2
  obtain ⟨hx, hb, hr0, hts, hown, hlk, hml, hrf, hrl, hbs, hsp, -⟩ := id hc
  obtain ⟨v', t0, rfl, h1, w', t1, rfl, h2, hs⟩ := hs
  exact lv_dup2_11 hx hb hdg (by rw [vr_cat h1]; exact hv) (by rw [vr_cat h2]; exact hw0) (k p l e R s m args below meth c D base b al0 l0 d0 H locs cells slots lsM _ hc hd hls ⟨_, _, rfl, h1, _, _, rfl, h2, _, _, rfl, h1, _, _, rfl, h2, hs⟩ hw hS hk1 hk2)

theorem pw_if_eq {x : Int32} {off : Int} {tgt : Nat} (hdg : decode cc pc = .ok (.ifCond .eq off, 3)) (ht : (pc : Int) + off = (tgt : Int)) (kt : x = 0 → PW cc Y Z tgt ls st σ I F β) (kf : ¬ x = 0 → PW cc Y Z (pc + 3) ls st σ I F β) : PW cc Y Z pc ls (.int x :: st) σ I F β := by
  intro p l e R s m args below meth c D base b al0 l0 d0 H locs cells slots lsM stM hc hd hls hs hw hS hk1 hk2
  obtain ⟨hx, hb, hr0, hts, hown, hlk, hml, hrf, hrl, hbs, hsp, -⟩ := id hc
  obtain ⟨_, t0, rfl, rfl, hs⟩ := hs
  exact lv_if_eq hx hb hdg ht (fun h9 => (kt h9) p l e R s m args below meth c D base b al0 l0 d0 H locs cells slots lsM _ hc hd hls hs hw hS hk1 hk2) (fun h9 => (kf h9) p l e R s m args below meth c D base b al0 l0 d0 H locs cells slots lsM _ hc hd hls hs hw hS hk1 hk2)

theorem pw_if_ne {x : Int32} {off : Int} {tgt : Nat} (hdg : decode cc pc = .ok (.ifCond .ne off, 3)) (ht : (pc : Int) + off = (tgt : Int)) (kt : ¬ x = 0 → PW cc Y Z tgt ls st σ I F β) (kf : x = 0 → PW cc Y Z (pc + 3) ls st σ I F β) : PW cc Y Z pc ls (.int x :: st) σ I F β := by
  intro p l e R s m args below meth c D base b al0 l0 d0 H locs cells slots lsM stM hc hd hls hs hw hS hk1 hk2
  obtain ⟨hx, hb, hr0, hts, hown, hlk, hml, hrf, hrl, hbs, hsp, -⟩ := id hc
  obtain ⟨_, t0, rfl, rfl, hs⟩ := hs
  exact lv_if_ne hx hb hdg ht (fun h9 => (kt h9) p l e R s m args below meth c D base b al0 l0 d0 H locs cells slots lsM _ hc hd hls hs hw hS hk1 hk2) (fun h9 => (kf h9) p l e R s m args below meth c D base b al0 l0 d0 H locs cells slots lsM _ hc hd hls hs hw hS hk1 hk2)

theorem pw_if_lt {x : Int32} {off : Int} {tgt : Nat} (hdg : decode cc pc = .ok (.ifCond .lt off, 3)) (ht : (pc : Int) + off = (tgt : Int)) (kt : x < 0 → PW cc Y Z tgt ls st σ I F β) (kf : ¬ x < 0 → PW cc Y Z (pc + 3) ls st σ I F β) : PW cc Y Z pc ls (.int x :: st) σ I F β := by
  intro p l e R s m args below meth c D base b al0 l0 d0 H locs cells slots lsM stM hc hd hls hs hw hS hk1 hk2
  obtain ⟨hx, hb, hr0, hts, hown, hlk, hml, hrf, hrl, hbs, hsp, -⟩ := id hc
  obtain ⟨_, t0, rfl, rfl, hs⟩ := hs
  exact lv_if_lt hx hb hdg ht (fun h9 => (kt h9) p l e R s m args below meth c D base b al0 l0 d0 H locs cells slots lsM _ hc hd hls hs hw hS hk1 hk2) (fun h9 => (kf h9) p l e R s m args below meth c D base b al0 l0 d0 H locs cells slots lsM _ hc hd hls hs hw hS hk1 hk2)

theorem pw_if_ge {x : Int32} {off : Int} {tgt : Nat} (hdg : decode cc pc = .ok (.ifCond .ge off, 3)) (ht : (pc : Int) + off = (tgt : Int)) (kt : 0 ≤ x → PW cc Y Z tgt ls st σ I F β) (kf : ¬ 0 ≤ x → PW cc Y Z (pc + 3) ls st σ I F β) : PW cc Y Z pc ls (.int x :: st) σ I F β := by
  intro p l e R s m args below meth c D base b al0 l0 d0 H locs cells slots lsM stM hc hd hls hs hw hS hk1 hk2
  obtain ⟨hx, hb, hr0, hts, hown, hlk, hml, hrf, hrl, hbs, hsp, -⟩ := id hc
  obtain ⟨_, t0, rfl, rfl, hs⟩ := hs
  exact lv_if_ge hx hb hdg ht (fun h9 => (kt h9) p l e R s m args below meth c D base b al0 l0 d0 H locs cells slots lsM _ hc hd hls hs hw hS hk1 hk2) (fun h9 => (kf h9) p l e R s m args below meth c D base b al0 l0 d0 H locs cells slots lsM _ hc hd hls hs hw hS hk1 hk2)

theorem pw_if_gt {x : Int32} {off : Int} {tgt : Nat} (hdg : decode cc pc = .ok (.ifCond .gt off, 3)) (ht : (pc : Int) + off = (tgt : Int)) (kt : 0 < x → PW cc Y Z tgt ls st σ I F β) (kf : ¬ 0 < x → PW cc Y Z (pc + 3) ls st σ I F β) : PW cc Y Z pc ls (.int x :: st) σ I F β := by
  intro p l e R s m args below meth c D base b al0 l0 d0 H locs cells slots lsM stM hc hd hls hs hw hS hk1 hk2
  obtain ⟨hx, hb, hr0, hts, hown, hlk, hml, hrf, hrl, hbs, hsp, -⟩ := id hc
  obtain ⟨_, t0, rfl, rfl, hs⟩ := hs
  exact lv_if_gt hx hb hdg ht (fun h9 => (kt h9) p l e R s m args below meth c D base b al0 l0 d0 H locs cells slots lsM _ hc hd hls hs hw hS hk1 hk2) (fun h9 => (kf h9) p l e R s m args below meth c D base b al0 l0 d0 H locs cells slots lsM _ hc hd hls hs hw hS hk1 hk2)

theorem pw_if_le {x : Int32} {off : Int} {tgt : Nat} (hdg : decode cc pc = .ok (.ifCond .le off, 3)) (ht : (pc : Int) + off = (tgt : Int)) (kt : x ≤ 0 → PW cc Y Z tgt ls st σ I F β) (kf : ¬ x ≤ 0 → PW cc Y Z (pc + 3) ls st σ I F β) : PW cc Y Z pc ls (.int x :: st) σ I F β := by
  intro p l e R s m args below meth c D base b al0 l0 d0 H locs cells slots lsM stM hc hd hls hs hw hS hk1 hk2
  obtain ⟨hx, hb, hr0, hts, hown, hlk, hml, hrf, hrl, hbs, hsp, -⟩ := id hc
  obtain ⟨_, t0, rfl, rfl, hs⟩ := hs
  exact lv_if_le hx hb hdg ht (fun h9 => (kt h9) p l e R s m args below meth c D base b al0 l0 d0 H locs cells slots lsM _ hc hd hls hs hw hS hk1 hk2) (fun h9 => (kf h9) p l e R s m args below meth c D base b al0 l0 d0 H locs cells slots lsM _ hc hd hls hs hw hS hk1 hk2)

theorem pw_icmp_eq {x y : Int32} {off : Int} {tgt : Nat} (hdg : decode cc pc = .ok (.if_icmp .eq off, 3)) (ht : (pc : Int) + off = (tgt : Int)) (kt : x = y → PW cc Y Z tgt ls st σ I F β) (kf : ¬ x = y → PW cc Y Z (pc + 3) ls st σ I F β) : PW cc Y Z pc ls (.int y :: .int x :: st) σ I F β := by
  intro p l e R s m args below meth c D base b al0 l0 d0 H locs cells slots lsM stM hc hd hls hs hw hS hk1 hk2
  obtain ⟨hx, hb, hr0, hts, hown, hlk, hml, hrf, hrl, hbs, hsp, -⟩ := id hc
  obtain ⟨_, t0, rfl, rfl, hs⟩ := hs
  obtain ⟨_, t1, rfl, rfl, hs⟩ := hs
  exact lv_icmp_eq hx hb hdg ht (fun h9 => (kt h9) p l e R s m args below meth c D base b al0 l0 d0 H locs cells slots lsM _ hc hd hls hs hw hS hk1 hk2) (fun h9 => (kf h9) p l e R s m args below meth c D base b al0 l0 d0 H locs cells slots lsM _ hc hd hls hs hw hS hk1 hk2)

theorem pw_icmp_ne {x y : Int32} {off : Int} {tgt : Nat} (hdg : decode cc pc = .ok (.if_icmp .ne off, 3)) (ht : (pc : Int) + off = (tgt : Int)) (kt : ¬ x = y → PW cc Y Z tgt ls st σ I F β) (kf : x = y → PW cc Y Z (pc + 3) ls st σ I F β) : PW cc Y Z pc ls (.int y :: .int x :: st) σ I F β := by
  intro p l e R s m args below meth c D base b al0 l0 d0 H locs cells slots lsM stM hc hd hls hs hw hS hk1 hk2
  obtain ⟨hx, hb, hr0, hts, hown, hlk, hml, hrf, hrl, hbs, hsp, -⟩ := id hc
  obtain ⟨_, t0, rfl, rfl, hs⟩ := hs
  obtain ⟨_, t1, rfl, rfl, hs⟩ := hs
  exact lv_icmp_ne hx hb hdg ht (fun h9 => (kt h9) p l e R s m args below meth c D base b al0 l0 d0 H locs cells slots lsM _ hc hd hls hs hw hS hk1 hk2) (fun h9 => (kf h9) p l e R s m args below meth c D base b al0 l0 d0 H locs cells slots lsM _ hc hd hls hs hw hS hk1 hk2)

theorem pw_icmp_lt {x y : Int32} {off : Int} {tgt : Nat} (hdg : decode cc pc = .ok (.if_icmp .lt off, 3)) (ht : (pc : Int) + off = (tgt : Int)) (kt : x < y → PW cc Y Z tgt ls st σ I F β) (kf : ¬ x < y → PW cc Y Z (pc + 3) ls st σ I F β) : PW cc Y Z pc ls (.int y :: .int x :: st) σ I F β := by
  intro p l e R s m args below meth c D base b al0 l0 d0 H locs cells slots lsM stM hc hd hls hs hw hS hk1 hk2
  obtain ⟨hx, hb, hr0, hts, hown, hlk, hml, hrf, hrl, hbs, hsp, -⟩ := id hc
  obtain ⟨_, t0, rfl, rfl, hs⟩ := hs
  obtain ⟨_, t1, rfl, rfl, hs⟩ := hs
  exact lv_icmp_lt hx hb hdg ht (fun h9 => (kt h9) p l e R s m args below meth c D base b al0 l0 d0 H locs cells slots lsM _ hc hd hls hs hw hS hk1 hk2) (fun h9 => (kf h9) p l e R s m args below meth c D base b al0 l0 d0 H locs cells slots lsM _ hc hd hls hs hw hS hk1 hk2)

theorem pw_icmp_ge {x y : Int32} {off : Int} {tgt : Nat} (hdg : decode cc pc = .ok (.if_icmp .ge off, 3)) (ht : (pc : Int) + off = (tgt : Int)) (kt : y ≤ x → PW cc Y Z tgt ls st σ I F β) (kf : ¬ y ≤ x → PW cc Y Z (pc + 3) ls st σ I F β) : PW cc Y Z pc ls (.int y :: .int x :: st) σ I F β := by
  intro p l e R s m args below meth c D base b al0 l0 d0 H locs cells slots lsM stM hc hd hls hs hw hS hk1 hk2
  obtain ⟨hx, hb, hr0, hts, hown, hlk, hml, hrf, hrl, hbs, hsp, -⟩ := id hc
  obtain ⟨_, t0, rfl, rfl, hs⟩ := hs
  obtain ⟨_, t1, rfl, rfl, hs⟩ := hs
  exact lv_icmp_ge hx hb hdg ht (fun h9 => (kt h9) p l e R s m args below meth c D base b al0 l0 d0 H locs cells slots lsM _ hc hd hls hs hw hS hk1 hk2) (fun h9 => (kf h9) p l e R s m args below meth c D base b al0 l0 d0 H locs cells slots lsM _ hc hd hls hs hw hS hk1 hk2)

theorem pw_icmp_gt {x y : Int32} {off : Int} {tgt : Nat} (hdg : decode cc pc = .ok (.if_icmp .gt off, 3)) (ht : (pc : Int) + off = (tgt : Int)) (kt : y < x → PW cc Y Z tgt ls st σ I F β) (kf : ¬ y < x → PW cc Y Z (pc + 3) ls st σ I F β) : PW cc Y Z pc ls (.int y :: .int x :: st) σ I F β := by
  intro p l e R s m args below meth c D base b al0 l0 d0 H locs cells slots lsM stM hc hd hls hs hw hS hk1 hk2
  obtain ⟨hx, hb, hr0, hts, hown, hlk, hml, hrf, hrl, hbs, hsp, -⟩ := id hc
  obtain ⟨_, t0, rfl, rfl, hs⟩ := hs
  obtain ⟨_, t1, rfl, rfl, hs⟩ := hs
  exact lv_icmp_gt hx hb hdg ht (fun h9 => (kt h9) p l e R s m args below meth c D base b al0 l0 d0 H locs cells slots lsM _ hc hd hls hs hw hS hk1 hk2) (fun h9 => (kf h9) p l e R s m args below meth c D base b al0 l0 d0 H locs cells slots lsM _ hc hd hls hs hw hS hk1 hk2)

theorem pw_icmp_le {x y : Int32} {off : Int} {tgt : Nat} (hdg : decode cc pc = .ok (.if_icmp .le off, 3)) (ht : (pc : Int) + off = (tgt : Int)) (kt : x ≤ y → PW cc Y Z tgt ls st σ I F β) (kf : ¬ x ≤ y → PW cc Y Z (pc + 3) ls st σ I F β) : PW cc Y Z pc ls (.int y :: .int x :: st) σ I F β := by
  intro p l e R s m args below meth c D base b al0 l0 d0 H locs cells slots lsM stM hc hd hls hs hw hS hk1 hk2
  obtain ⟨hx, hb, hr0, hts, hown, hlk, hml, hrf, hrl, hbs, hsp, -⟩ := id hc
  obtain ⟨_, t0, rfl, rfl, hs⟩ := hs
  obtain ⟨_, t1, rfl, rfl, hs⟩ := hs
  exact lv_icmp_le hx hb hdg ht (fun h9 => (kt h9) p l e R s m args below meth c D base b al0 l0 d0 H locs cells slots lsM _ hc hd hls hs hw hS hk1 hk2) (fun h9 => (kf h9) p l e R s m args below meth c D base b al0 l0 d0 H locs cells slots lsM _ hc hd hls hs hw hS hk1 hk2)

theorem pw_goto {off : Int} {tgt : Nat} (hdg : decode cc pc = .ok (.goto off, 3)) (ht : (pc : Int) + off = (tgt : Int)) (k : PW cc Y Z (tgt) ls st σ I F β) : PW cc Y Z pc ls st σ I F β := by
  intro p l e R s m args below meth c D base b al0 l0 d0 H locs cells slots lsM stM hc hd hls hs hw hS hk1 hk2
  obtain ⟨hx, hb, hr0, hts, hown, hlk, hml, hrf, hrl, hbs, hsp, -⟩ := id hc
  exact lv_goto hx hb hdg ht (k p l e R s m args below meth c D base b al0 l0 d0 H locs cells slots lsM _ hc hd hls hs hw hS hk1 hk2)

theorem pw_lookup {dflt : Int} {ps : Array (Int × Int)} {len : Nat} {x : Int32} {off : Int} {tgt : Nat} (hdg : decode cc pc = .ok (.lookupswitch dflt ps, len)) (hp : (ps.toList.zip (ps.toList.drop 1)).all (fun (a, next) => a.1 < next.1) = true) (ho : Op.lookupswitch.offset ps.toList dflt x.toInt = off) (ht : (pc : Int) + off = (tgt : Int)) (k : PW cc Y Z (tgt) ls st σ I F β) : PW cc Y Z pc ls (.int x :: st) σ I F β := by
  intro p l e R s m args below meth c D base b al0 l0 d0 H locs cells slots lsM stM hc hd hls hs hw hS hk1 hk2
  obtain ⟨hx, hb, hr0, hts, hown, hlk, hml, hrf, hrl, hbs, hsp, -⟩ := id hc
  obtain ⟨_, t0, rfl, rfl, hs⟩ := hs
  exact lv_lookup hx hb hdg hp ho ht (k p l e R s m args below meth c D base b al0 l0 d0 H locs cells slots lsM _ hc hd hls hs hw hS hk1 hk2)

theorem pw_tableOut {dflt lo hi : Int} {offs : Array Int} {len : Nat} {x : Int32} {tgt : Nat} (hdg : decode cc pc = .ok (.tableswitch dflt lo hi offs, len)) (h : x.toInt < lo ∨ hi < x.toInt) (ht : (pc : Int) + dflt = (tgt : Int)) (k : PW cc Y Z (tgt) ls st σ I F β) : PW cc Y Z pc ls (.int x :: st) σ I F β := by
  intro p l e R s m args below meth c D base b al0 l0 d0 H locs cells slots lsM stM hc hd hls hs hw hS hk1 hk2
  obtain ⟨hx, hb, hr0, hts, hown, hlk, hml, hrf, hrl, hbs, hsp, -⟩ := id hc
  obtain ⟨_, t0, rfl, rfl, hs⟩ := hs
  exact lv_tableOut hx hb hdg h ht (k p l e R s m args below meth c D base b al0 l0 d0 H locs cells slots lsM _ hc hd hls hs hw hS hk1 hk2)

theorem pw_tableIn {dflt lo hi : Int} {offs : Array Int} {len : Nat} {x : Int32} {off : Int} {tgt : Nat} (hdg : decode cc pc = .ok (.tableswitch dflt lo hi offs, len)) (h1 : ¬ x.toInt < lo) (h2 : ¬ hi < x.toInt) (ho : offs[(x.toInt - lo).toNat]? = some off) (ht : (pc : Int) + off = (tgt : Int)) (k : PW cc Y Z (tgt) ls st σ I F β) : PW cc Y Z pc ls (.int x :: st) σ I F β := by
  intro p l e R s m args below meth c D base b al0 l0 d0 H locs cells slots lsM stM hc hd hls hs hw hS hk1 hk2
  obtain ⟨hx, hb, hr0, hts, hown, hlk, hml, hrf, hrl, hbs, hsp, -⟩ := id hc
  obtain ⟨_, t0, rfl, rfl, hs⟩ := hs
  exact lv_tableIn hx hb hdg h1 h2 ho ht (k p l e R s m args below meth c D base b al0 l0 d0 H locs cells slots lsM _ hc hd hls hs hw hS hk1 hk2)

theorem pw_get {idx ci k q : Nat} {v : Value} (hdg : decode cc pc = .ok (.getfield idx, 3)) (hf : fdOK Y.1 idx ci k) (hci : ci < 8) (hq : (σ.2.1 q).1 = ci + 1) (hv : fv σ I F ci q k = v) (kk : PW cc Y Z (pc + 3) ls (v :: st) σ I F β) : PW cc Y Z pc ls (.ref q :: st) σ I F β := by
  intro p l e R s m args below meth c D base b al0 l0 d0 H locs cells slots lsM stM hc hd hls hs hw hS hk1 hk2
  obtain ⟨hx, hb, hr0, hts, hown, hlk, hml, hrf, hrl, hbs, hsp, -⟩ := id hc
  obtain ⟨_, t0, rfl, ⟨a, hqa, rfl⟩, hs⟩ := hs
  obtain ⟨ws, tys, g1, g2, g3, g4, g5, g6, g7, g8, g9, g10, g11⟩ := id hw
  obtain ⟨C, T, f1, f2, f3, f4, f5, f6⟩ := hf
  obtain ⟨j, en, hj, hjw, hce⟩ := wr_cell (D := D) (base := base) (b := b) (U := s) (H := H) g1 g6 g7 g8 (by rw [hq]; omega) (by rw [hq]; omega) hqa
  obtain ⟨fs, rfl, hfs⟩ := hce.1 ci hq hci
  obtain ⟨v', hv1, hv2⟩ := hfs k f3
  subst hv
  exact va_get (s := s.setDrawn d0) (D := D) hx hb (dr_words hts d0) f2 hown g4 g3 j hjw f1 k f3 (dr_words hts d0 _ f6) (fun _ h => h) hv1 hdg (kk p l e R s m args below meth c D base b al0 l0 d0 H locs cells slots lsM _ hc hd hls ⟨_, _, rfl, hv2, hs⟩ hw hS hk1 hk2)

/-- the field written: the pure world behind it -/
theorem ce_put {al : List Nat} {tys : List (ClassId × FieldType)} {σ σ' : pT} {I I' : pI} {F F' : pF} {q ci k : Nat} {fs : List Value} {v' : Value} (hq : (σ.2.1 q).1 = ci + 1) (hci : ci < 8) (hfs : ∀ k, k < fN ci → ∃ v', fs[k]? = some v' ∧ vr al (fv σ I F ci q k) v') (hK : σ'.2.1 q = σ.2.1 q) (hv : vr al (fv σ' I' F' ci q k) v') (ho : ∀ j, j ≠ k → fv σ' I' F' ci q j = fv σ I F ci q j) : ce al tys σ' I' F' q (.inr (ci, fs.set k v')) := by
  refine ⟨fun c h1 h2 => ?_, fun h1 => ?_, fun h1 => ?_, fun h1 => ?_, fun c h1 h2 => ?_⟩
  · rw [hK, hq] at h1
    have hcc : ci = c := by omega
    subst hcc
    refine ⟨_, rfl, fun j hj => ?_⟩
    by_cases hjk : k = j
    · subst hjk
      obtain ⟨w, hw1, -⟩ := hfs k hj
      exact ⟨v', List.getElem?_set_self (List.getElem?_eq_some_iff.mp hw1).1, hv⟩
    · obtain ⟨w, hw1, hw2⟩ := hfs j hj
      exact ⟨w, by rw [List.getElem?_set_ne hjk]; exact hw1, by rw [ho j (Ne.symm hjk)]; exact hw2⟩
  · rw [hK, hq] at h1; omega
  · rw [hK, hq] at h1; omega
  · rw [hK, hq] at h1; omega
  · rw [hK, hq] at h1; omega

-- PUTS
theorem pw_putI {idx ci k q : Nat} {x : Int32} (hdg : decode cc pc = .ok (.putfield idx, 3)) (hf : fdOK Y.1 idx ci k) (hci : ci < 8) (hfin : ffin ci k = false) (hnr : narrow (fty ci k) (.int x) = .int x ∧ fits (fty ci k) (.int x) = true ∧ isIt (fty ci k) = true) (hq : (σ.2.1 q).1 = ci + 1) (kk : PW cc Y Z (pc + 3) ls st σ (up2 I q k x) F β) : PW cc Y Z pc ls (.int x :: .ref q :: st) σ I F β := by
  intro p l e R s m args below meth c D base b al0 l0 d0 H locs cells slots lsM stM hc hd hls hs hw hS hk1 hk2
  obtain ⟨hx, hb, hr0, hts, hown, hlk, hml, hrf, hrl, hbs, hsp, -⟩ := id hc
  obtain ⟨_, t0, rfl, rfl, hs⟩ := hs
  obtain ⟨_, t1, rfl, ⟨a, hqa, rfl⟩, hs⟩ := hs
  obtain ⟨ws, tys, g1, g2, g3, g4, g5, g6, g7, g8, g9, g10, g11⟩ := id hw
  obtain ⟨C, T, f1, f2, f3, f4, f5, f6⟩ := hf
  obtain ⟨j, en, hj, hjw, hce⟩ := wr_cell (D := D) (base := base) (b := b) (U := s) (H := H) g1 g6 g7 g8 (by rw [hq]; omega) (by rw [hq]; omega) hqa
  obtain ⟨fs, rfl, hfs⟩ := hce.1 ci hq hci
  obtain ⟨v', hv1, hv2⟩ := hfs k f3
  have hfl : k < fs.length := (List.getElem?_eq_some_iff.mp hv1).1
  refine va_put (s := s.setDrawn d0) (D := D) hx hb (dr_words hts d0) f2 (fty ci) f4 f5 hown g4 g3 g5 hS j hjw f1 k f3 (dr_words hts d0 _ f6) (fun _ h => h) (by rw [← ffin_of f1]; exact hfin) (ty := fty ci k) (f4 k f3) hnr.1 hnr.2.1 hfl hdg (fun H1 locs1 hP1 hD1 hS1 => ?_)
  subst hj
  refine kk p l e R s m args below meth c D base b al0 l0 d0 H1 locs1 cells slots lsM _ hc hd hls hs (wr_set (σ' := σ) (I' := up2 I (j + 1) k x) (F' := F) g1 g2 g4 g6 g7 g8 g9 hbs g11 hjw hP1 hD1 hS hS1 rfl rfl ?_ ?_ ?_ ?_) hS1 hk1 hk2
  · intro q9 h9; rfl
  · intro q9 h9; exact up2_row h9
  · intro q9 h9; rfl
  · exact ce_put hq hci hfs rfl (by rw [fv_I hnr.2.2]; simp [up2]; rfl) (fun j9 h9 => fv_upI h9)

theorem pw_putF {idx ci k q : Nat} {x : UInt32} (hdg : decode cc pc = .ok (.putfield idx, 3)) (hf : fdOK Y.1 idx ci k) (hci : ci < 8) (hfin : ffin ci k = false) (hnr : fty ci k = .float) (hq : (σ.2.1 q).1 = ci + 1) (kk : PW cc Y Z (pc + 3) ls st σ I (up2 F q k x) β) : PW cc Y Z pc ls (.float x :: .ref q :: st) σ I F β := by
  intro p l e R s m args below meth c D base b al0 l0 d0 H locs cells slots lsM stM hc hd hls hs hw hS hk1 hk2
  obtain ⟨hx, hb, hr0, hts, hown, hlk, hml, hrf, hrl, hbs, hsp, -⟩ := id hc
  obtain ⟨_, t0, rfl, ⟨x', rfl, hx'⟩, hs⟩ := hs
  obtain ⟨_, t1, rfl, ⟨a, hqa, rfl⟩, hs⟩ := hs
  obtain ⟨ws, tys, g1, g2, g3, g4, g5, g6, g7, g8, g9, g10, g11⟩ := id hw
  obtain ⟨C, T, f1, f2, f3, f4, f5, f6⟩ := hf
  obtain ⟨j, en, hj, hjw, hce⟩ := wr_cell (D := D) (base := base) (b := b) (U := s) (H := H) g1 g6 g7 g8 (by rw [hq]; omega) (by rw [hq]; omega) hqa
  obtain ⟨fs, rfl, hfs⟩ := hce.1 ci hq hci
  obtain ⟨v', hv1, hv2⟩ := hfs k f3
  have hfl : k < fs.length := (List.getElem?_eq_some_iff.mp hv1).1
  refine va_put (s := s.setDrawn d0) (D := D) hx hb (dr_words hts d0) f2 (fty ci) f4 f5 hown g4 g3 g5 hS j hjw f1 k f3 (dr_words hts d0 _ f6) (fun _ h => h) (by rw [← ffin_of f1]; exact hfin) (ty := fty ci k) (f4 k f3) (by rw [hnr]; rfl) (by rw [hnr]; rfl) hfl hdg (fun H1 locs1 hP1 hD1 hS1 => ?_)
  subst hj
  refine kk p l e R s m args below meth c D base b al0 l0 d0 H1 locs1 cells slots lsM _ hc hd hls hs (wr_set (σ' := σ) (I' := I) (F' := up2 F (j + 1) k x) g1 g2 g4 g6 g7 g8 g9 hbs g11 hjw hP1 hD1 hS hS1 rfl rfl ?_ ?_ ?_ ?_) hS1 hk1 hk2
  · intro q9 h9; rfl
  · intro q9 h9; rfl
  · intro q9 h9; exact up2_row h9
  · exact ce_put hq hci hfs rfl (by rw [fv_F hnr]; exact ⟨x', rfl, by simp [up2]; exact hx'⟩) (fun j9 h9 => fv_upF h9)

theorem pw_putR {idx ci k q : Nat} {x : Nat} (hdg : decode cc pc = .ok (.putfield idx, 3)) (hf : fdOK Y.1 idx ci k) (hci : ci < 8) (hfin : ffin ci k = false) (hnr : isRt (fty ci k) = true) (hq : (σ.2.1 q).1 = ci + 1) (kk : PW cc Y Z (pc + 3) ls st (σ.1, σ.2.1, up2 σ.2.2 q k (some x)) I F β) : PW cc Y Z pc ls (.ref x :: .ref q :: st) σ I F β := by
  intro p l e R s m args below meth c D base b al0 l0 d0 H locs cells slots lsM stM hc hd hls hs hw hS hk1 hk2
  obtain ⟨hx, hb, hr0, hts, hown, hlk, hml, hrf, hrl, hbs, hsp, -⟩ := id hc
  obtain ⟨_, t0, rfl, ⟨xa, hx', rfl⟩, hs⟩ := hs
  obtain ⟨_, t1, rfl, ⟨a, hqa, rfl⟩, hs⟩ := hs
  obtain ⟨ws, tys, g1, g2, g3, g4, g5, g6, g7, g8, g9, g10, g11⟩ := id hw
  obtain ⟨C, T, f1, f2, f3, f4, f5, f6⟩ := hf
  obtain ⟨j, en, hj, hjw, hce⟩ := wr_cell (D := D) (base := base) (b := b) (U := s) (H := H) g1 g6 g7 g8 (by rw [hq]; omega) (by rw [hq]; omega) hqa
  obtain ⟨fs, rfl, hfs⟩ := hce.1 ci hq hci
  obtain ⟨v', hv1, hv2⟩ := hfs k f3
  have hfl : k < fs.length := (List.getElem?_eq_some_iff.mp hv1).1
  refine va_put (s := s.setDrawn d0) (D := D) hx hb (dr_words hts d0) f2 (fty ci) f4 f5 hown g4 g3 g5 hS j hjw f1 k f3 (dr_words hts d0 _ f6) (fun _ h => h) (by rw [← ffin_of f1]; exact hfin) (ty := fty ci k) (f4 k f3) (isRt_n hnr) (isRt_f hnr) hfl hdg (fun H1 locs1 hP1 hD1 hS1 => ?_)
  subst hj
  refine kk p l e R s m args below meth c D base b al0 l0 d0 H1 locs1 cells slots lsM _ hc hd hls hs (wr_set (σ' := (σ.1, σ.2.1, up2 σ.2.2 (j + 1) k (some x))) (I' := I) (F' := F) g1 g2 g4 g6 g7 g8 g9 hbs g11 hjw hP1 hD1 hS hS1 rfl rfl ?_ ?_ ?_ ?_) hS1 hk1 hk2
  · intro q9 h9; exact up2_row h9
  · intro q9 h9; rfl
  · intro q9 h9; rfl
  · exact ce_put hq hci hfs rfl (by rw [fv_R hnr]; simp only [up2, and_self, if_true]; exact ⟨xa, hx', rfl⟩) (fun j9 h9 => fv_upR h9)

theorem pw_putFI {idx ci k q : Nat} {x : Int32} (hdg : decode cc pc = .ok (.putfield idx, 3)) (hf : fdOK Y.1 idx ci k) (hci : ci < 8) (hfin : ffin ci k = true) (hini : Y.2.2.2.2.2 = true) (hdecl : fdecl ci k = Y.1) (hnr : narrow (fty ci k) (.int x) = .int x ∧ fits (fty ci k) (.int x) = true ∧ isIt (fty ci k) = true) (hq : (σ.2.1 q).1 = ci + 1) (kk : PW cc Y Z (pc + 3) ls st σ (up2 I q k x) F β) : PW cc Y Z pc ls (.int x :: .ref q :: st) σ I F β := by
  intro p l e R s m args below meth c D base b al0 l0 d0 H locs cells slots lsM stM hc hd hls hs hw hS hk1 hk2
  obtain ⟨hx, hb, hr0, hts, hown, hlk, hml, hrf, hrl, hbs, hsp, -⟩ := id hc
  obtain ⟨_, t0, rfl, rfl, hs⟩ := hs
  obtain ⟨_, t1, rfl, ⟨a, hqa, rfl⟩, hs⟩ := hs
  obtain ⟨ws, tys, g1, g2, g3, g4, g5, g6, g7, g8, g9, g10, g11⟩ := id hw
  obtain ⟨C, T, f1, f2, f3, f4, f5, f6⟩ := hf
  obtain ⟨j, en, hj, hjw, hce⟩ := wr_cell (D := D) (base := base) (b := b) (U := s) (H := H) g1 g6 g7 g8 (by rw [hq]; omega) (by rw [hq]; omega) hqa
  obtain ⟨fs, rfl, hfs⟩ := hce.1 ci hq hci
  obtain ⟨v', hv1, hv2⟩ := hfs k f3
  have hfl : k < fs.length := (List.getElem?_eq_some_iff.mp hv1).1
  refine va_putF (s := s.setDrawn d0) (D := D) hx hb (dr_words hts d0) f2 (fty ci) f4 f5 hown g4 g3 g5 hS j hjw f1 k f3 (dr_words hts d0 _ f6) (fun _ h => h) (by rw [← ffin_of f1]; exact hfin) (hc.2.2.2.2.2.2.2.2.2.2.2 hini) (by rw [← fdecl_of f1]; exact hdecl) (ty := fty ci k) (f4 k f3) hnr.1 hnr.2.1 hfl hdg (fun H1 locs1 hP1 hD1 hS1 => ?_)
  subst hj
  refine kk p l e R s m args below meth c D base b al0 l0 d0 H1 locs1 cells slots lsM _ hc hd hls hs (wr_set (σ' := σ) (I' := up2 I (j + 1) k x) (F' := F) g1 g2 g4 g6 g7 g8 g9 hbs g11 hjw hP1 hD1 hS hS1 rfl rfl ?_ ?_ ?_ ?_) hS1 hk1 hk2
  · intro q9 h9; rfl
  · intro q9 h9; exact up2_row h9
  · intro q9 h9; rfl
  · exact ce_put hq hci hfs rfl (by rw [fv_I hnr.2.2]; simp [up2]; rfl) (fun j9 h9 => fv_upI h9)

theorem pw_putFF {idx ci k q : Nat} {x : UInt32} (hdg : decode cc pc = .ok (.putfield idx, 3)) (hf : fdOK Y.1 idx ci k) (hci : ci < 8) (hfin : ffin ci k = true) (hini : Y.2.2.2.2.2 = true) (hdecl : fdecl ci k = Y.1) (hnr : fty ci k = .float) (hq : (σ.2.1 q).1 = ci + 1) (kk : PW cc Y Z (pc + 3) ls st σ I (up2 F q k x) β) : PW cc Y Z pc ls (.float x :: .ref q :: st) σ I F β := by
  intro p l e R s m args below meth c D base b al0 l0 d0 H locs cells slots lsM stM hc hd hls hs hw hS hk1 hk2
  obtain ⟨hx, hb, hr0, hts, hown, hlk, hml, hrf, hrl, hbs, hsp, -⟩ := id hc
  obtain ⟨_, t0, rfl, ⟨x', rfl, hx'⟩, hs⟩ := hs
  obtain ⟨_, t1, rfl, ⟨a, hqa, rfl⟩, hs⟩ := hs
  obtain ⟨ws, tys, g1, g2, g3, g4, g5, g6, g7, g8, g9, g10, g11⟩ := id hw
  obtain ⟨C, T, f1, f2, f3, f4, f5, f6⟩ := hf
  obtain ⟨j, en, hj, hjw, hce⟩ := wr_cell (D := D) (base := base) (b := b) (U := s) (H := H) g1 g6 g7 g8 (by rw [hq]; omega) (by rw [hq]; omega) hqa
  obtain ⟨fs, rfl, hfs⟩ := hce.1 ci hq hci
  obtain ⟨v', hv1, hv2⟩ := hfs k f3
  have hfl : k < fs.length := (List.getElem?_eq_some_iff.mp hv1).1
  refine va_putF (s := s.setDrawn d0) (D := D) hx hb (dr_words hts d0) f2 (fty ci) f4 f5 hown g4 g3 g5 hS j hjw f1 k f3 (dr_words hts d0 _ f6) (fun _ h => h) (by rw [← ffin_of f1]; exact hfin) (hc.2.2.2.2.2.2.2.2.2.2.2 hini) (by rw [← fdecl_of f1]; exact hdecl) (ty := fty ci k) (f4 k f3) (by rw [hnr]; rfl) (by rw [hnr]; rfl) hfl hdg (fun H1 locs1 hP1 hD1 hS1 => ?_)
  subst hj
  refine kk p l e R s m args below meth c D base b al0 l0 d0 H1 locs1 cells slots lsM _ hc hd hls hs (wr_set (σ' := σ) (I' := I) (F' := up2 F (j + 1) k x) g1 g2 g4 g6 g7 g8 g9 hbs g11 hjw hP1 hD1 hS hS1 rfl rfl ?_ ?_ ?_ ?_) hS1 hk1 hk2
  · intro q9 h9; rfl
  · intro q9 h9; rfl
  · intro q9 h9; exact up2_row h9
  · exact ce_put hq hci hfs rfl (by rw [fv_F hnr]; exact ⟨x', rfl, by simp [up2]; exact hx'⟩) (fun j9 h9 => fv_upF h9)

theorem pw_putFR {idx ci k q : Nat} {x : Nat} (hdg : decode cc pc = .ok (.putfield idx, 3)) (hf : fdOK Y.1 idx ci k) (hci : ci < 8) (hfin : ffin ci k = true) (hini : Y.2.2.2.2.2 = true) (hdecl : fdecl ci k = Y.1) (hnr : isRt (fty ci k) = true) (hq : (σ.2.1 q).1 = ci + 1) (kk : PW cc Y Z (pc + 3) ls st (σ.1, σ.2.1, up2 σ.2.2 q k (some x)) I F β) : PW cc Y Z pc ls (.ref x :: .ref q :: st) σ I F β := by
  intro p l e R s m args below meth c D base b al0 l0 d0 H locs cells slots lsM stM hc hd hls hs hw hS hk1 hk2
  obtain ⟨hx, hb, hr0, hts, hown, hlk, hml, hrf, hrl, hbs, hsp, -⟩ := id hc
  obtain ⟨_, t0, rfl, ⟨xa, hx', rfl⟩, hs⟩ := hs
  obtain ⟨_, t1, rfl, ⟨a, hqa, rfl⟩, hs⟩ := hs
  obtain ⟨ws, tys, g1, g2, g3, g4, g5, g6, g7, g8, g9, g10, g11⟩ := id hw
  obtain ⟨C, T, f1, f2, f3, f4, f5, f6⟩ := hf
  obtain ⟨j, en, hj, hjw, hce⟩ := wr_cell (D := D) (base := base) (b := b) (U := s) (H := H) g1 g6 g7 g8 (by rw [hq]; omega) (by rw [hq]; omega) hqa
  obtain ⟨fs, rfl, hfs⟩ := hce.1 ci hq hci
  obtain ⟨v', hv1, hv2⟩ := hfs k f3
  have hfl : k < fs.length := (List.getElem?_eq_some_iff.mp hv1).1
  refine va_putF (s := s.setDrawn d0) (D := D) hx hb (dr_words hts d0) f2 (fty ci) f4 f5 hown g4 g3 g5 hS j hjw f1 k f3 (dr_words hts d0 _ f6) (fun _ h => h) (by rw [← ffin_of f1]; exact hfin) (hc.2.2.2.2.2.2.2.2.2.2.2 hini) (by rw [← fdecl_of f1]; exact hdecl) (ty := fty ci k) (f4 k f3) (isRt_n hnr) (isRt_f hnr) hfl hdg (fun H1 locs1 hP1 hD1 hS1 => ?_)
  subst hj
  refine kk p l e R s m args below meth c D base b al0 l0 d0 H1 locs1 cells slots lsM _ hc hd hls hs (wr_set (σ' := (σ.1, σ.2.1, up2 σ.2.2 (j + 1) k (some x))) (I' := I) (F' := F) g1 g2 g4 g6 g7 g8 g9 hbs g11 hjw hP1 hD1 hS hS1 rfl rfl ?_ ?_ ?_ ?_) hS1 hk1 hk2
  · intro q9 h9; exact up2_row h9
  · intro q9 h9; rfl
  · intro q9 h9; rfl
  · exact ce_put hq hci hfs rfl (by rw [fv_R hnr]; simp only [up2, and_self, if_true]; exact ⟨xa, hx', rfl⟩) (fun j9 h9 => fv_upR h9)

/-! arrays -/
theorem pw_iald {q n : Nat} {i : Int32} (hdg : decode cc pc = .ok (.iaload, 1)) (hq : σ.2.1 q = (20, n)) (hin : vp_in i n) (kk : PW cc Y Z (pc + 1) ls (.int (I q i.toNatClampNeg) :: st) σ I F β) : PW cc Y Z pc ls (.int i :: .ref q :: st) σ I F β := by
  intro p l e R s m args below meth c D base b al0 l0 d0 H locs cells slots lsM stM hc hd hls hs hw hS hk1 hk2
  obtain ⟨hx, hb, hr0, hts, hown, hlk, hml, hrf, hrl, hbs, hsp, -⟩ := id hc
  obtain ⟨_, t0, rfl, rfl, hs⟩ := hs
  obtain ⟨_, t1, rfl, ⟨a, hqa, rfl⟩, hs⟩ := hs
  obtain ⟨ws, tys, g1, g2, g3, g4, g5, g6, g7, g8, g9, g10, g11⟩ := id hw
  obtain ⟨j, en, hj, hjw, hce⟩ := wr_cell (D := D) (base := base) (b := b) (U := s) (H := H) g1 g6 g7 g8 (by rw [hq]; show 20 ≠ 99; omega) (by rw [hq]; show 20 ≠ 0; omega) hqa
  have hlt : i.toNatClampNeg < n := Nat.not_le.mp fun q => hin (Or.inr q)
  obtain ⟨cA, f, rfl, ⟨t0', ht0⟩, hf⟩ := hce.2.1 (by rw [hq])
  rw [hq] at hjw hf
  refine va_iald (s := s.setDrawn d0) (D := D) hx hb g4 g3 j t0' hjw ht0 hin hdg ?_
  rw [hf _ hlt]
  exact kk p l e R s m args below meth c D base b al0 l0 d0 H locs cells slots lsM _ hc hd hls ⟨_, _, rfl, rfl, hs⟩ hw hS hk1 hk2

theorem pw_cald {q n : Nat} {i : Int32} (hdg : decode cc pc = .ok (.caload, 1)) (hq : σ.2.1 q = (21, n)) (hin : vp_in i n) (kk : PW cc Y Z (pc + 1) ls (.int (I q i.toNatClampNeg) :: st) σ I F β) : PW cc Y Z pc ls (.int i :: .ref q :: st) σ I F β := by
  intro p l e R s m args below meth c D base b al0 l0 d0 H locs cells slots lsM stM hc hd hls hs hw hS hk1 hk2
  obtain ⟨hx, hb, hr0, hts, hown, hlk, hml, hrf, hrl, hbs, hsp, -⟩ := id hc
  obtain ⟨_, t0, rfl, rfl, hs⟩ := hs
  obtain ⟨_, t1, rfl, ⟨a, hqa, rfl⟩, hs⟩ := hs
  obtain ⟨ws, tys, g1, g2, g3, g4, g5, g6, g7, g8, g9, g10, g11⟩ := id hw
  obtain ⟨j, en, hj, hjw, hce⟩ := wr_cell (D := D) (base := base) (b := b) (U := s) (H := H) g1 g6 g7 g8 (by rw [hq]; show 21 ≠ 99; omega) (by rw [hq]; show 21 ≠ 0; omega) hqa
  have hlt : i.toNatClampNeg < n := Nat.not_le.mp fun q => hin (Or.inr q)
  obtain ⟨cA, f, rfl, ⟨t0', ht0⟩, hf⟩ := hce.2.2.1 (by rw [hq])
  rw [hq] at hjw hf
  refine va_cald (s := s.setDrawn d0) (D := D) hx hb g4 g3 j t0' hjw ht0 hin hdg ?_
  rw [hf _ hlt]
  exact kk p l e R s m args below meth c D base b al0 l0 d0 H locs cells slots lsM _ hc hd hls ⟨_, _, rfl, rfl, hs⟩ hw hS hk1 hk2

theorem pw_fald {q n : Nat} {i : Int32} (hdg : decode cc pc = .ok (.faload, 1)) (hq : σ.2.1 q = (22, n)) (hin : vp_in i n) (kk : PW cc Y Z (pc + 1) ls (.float (F q i.toNatClampNeg) :: st) σ I F β) : PW cc Y Z pc ls (.int i :: .ref q :: st) σ I F β := by
  intro p l e R s m args below meth c D base b al0 l0 d0 H locs cells slots lsM stM hc hd hls hs hw hS hk1 hk2
  obtain ⟨hx, hb, hr0, hts, hown, hlk, hml, hrf, hrl, hbs, hsp, -⟩ := id hc
  obtain ⟨_, t0, rfl, rfl, hs⟩ := hs
  obtain ⟨_, t1, rfl, ⟨a, hqa, rfl⟩, hs⟩ := hs
  obtain ⟨ws, tys, g1, g2, g3, g4, g5, g6, g7, g8, g9, g10, g11⟩ := id hw
  obtain ⟨j, en, hj, hjw, hce⟩ := wr_cell (D := D) (base := base) (b := b) (U := s) (H := H) g1 g6 g7 g8 (by rw [hq]; show 22 ≠ 99; omega) (by rw [hq]; show 22 ≠ 0; omega) hqa
  have hlt : i.toNatClampNeg < n := Nat.not_le.mp fun q => hin (Or.inr q)
  obtain ⟨cA, f, rfl, ⟨t0', ht0⟩, hf⟩ := hce.2.2.2.1 (by rw [hq])
  rw [hq] at hjw hf
  refine va_fald (s := s.setDrawn d0) (D := D) hx hb g4 g3 j t0' hjw ht0 hin hdg ?_
  exact kk p l e R s m args below meth c D base b al0 l0 d0 H locs cells slots lsM _ hc hd hls ⟨_, _, rfl, ⟨_, rfl, hf _ hlt⟩, hs⟩ hw hS hk1 hk2

theorem pw_aald {q n : Nat} {i : Int32} {ci x : Nat} (hdg : decode cc pc = .ok (.aaload, 1)) (hq : σ.2.1 q = (ci + 30, n)) (hin : vp_in i n) (hci : ci < 8) (hx9 : σ.2.2 q i.toNatClampNeg = some x) (kk : PW cc Y Z (pc + 1) ls (.ref x :: st) σ I F β) : PW cc Y Z pc ls (.int i :: .ref q :: st) σ I F β := by
  intro p l e R s m args below meth c D base b al0 l0 d0 H locs cells slots lsM stM hc hd hls hs hw hS hk1 hk2
  obtain ⟨hx, hb, hr0, hts, hown, hlk, hml, hrf, hrl, hbs, hsp, -⟩ := id hc
  obtain ⟨_, t0, rfl, rfl, hs⟩ := hs
  obtain ⟨_, t1, rfl, ⟨a, hqa, rfl⟩, hs⟩ := hs
  obtain ⟨ws, tys, g1, g2, g3, g4, g5, g6, g7, g8, g9, g10, g11⟩ := id hw
  obtain ⟨j, en, hj, hjw, hce⟩ := wr_cell (D := D) (base := base) (b := b) (U := s) (H := H) g1 g6 g7 g8 (by rw [hq]; show ci + 30 ≠ 99; omega) (by rw [hq]; show ci + 30 ≠ 0; omega) hqa
  have hlt : i.toNatClampNeg < n := Nat.not_le.mp fun q => hin (Or.inr q)
  obtain ⟨cA, f, rfl, ⟨t0', ht0⟩, hf⟩ := hce.2.2.2.2 ci (by rw [hq]) hci
  rw [hq] at hjw hf
  refine va_aldq (s := s.setDrawn d0) (D := D) hx hb g4 g3 j t0' hjw ht0 hin hdg ?_
  have hfx := hf _ hlt
  rw [hx9] at hfx
  exact kk p l e R s m args below meth c D base b al0 l0 d0 H locs cells slots lsM _ hc hd hls ⟨_, _, rfl, hfx, hs⟩ hw hS hk1 hk2

theorem pw_sald {n : Nat} {i : Int32} (hdg : decode cc pc = .ok (.iaload, 1)) (hq : (σ.2.1 0).2 = n) (hin : vp_in i n) (kk : PW cc Y Z (pc + 1) ls (.int (I 0 i.toNatClampNeg) :: st) σ I F β) : PW cc Y Z pc ls (.int i :: .ref 0 :: st) σ I F β := by
  intro p l e R s m args below meth c D base b al0 l0 d0 H locs cells slots lsM stM hc hd hls hs hw hS hk1 hk2
  obtain ⟨hx, hb, hr0, hts, hown, hlk, hml, hrf, hrl, hbs, hsp, -⟩ := id hc
  obtain ⟨_, t0, rfl, rfl, hs⟩ := hs
  obtain ⟨_, t1, rfl, ⟨a, hqa, rfl⟩, hs⟩ := hs
  obtain ⟨ws, tys, g1, g2, g3, g4, g5, g6, g7, g8, g9, g10, g11⟩ := id hw
  have ha : a = b := by
    rw [g1, List.getElem?_cons_zero] at hqa
    exact (Option.some.inj hqa).symm
  subst ha
  have hS0 : va_S (fun q : Nat => base ≤ q) H H locs := ⟨Nat.le_refl _, fun _ _ _ => rfl, hS.2.2⟩
  have hbl : a < H.size := Nat.lt_of_lt_of_le g9 g10
  subst hq
  refine va_sld (s := s.setDrawn d0) (A := fun q : Nat => base ≤ q) hx hb (H0 := H) g11 hbl (Nat.not_le.mpr g9) hS0 hin hdg ?_
  exact kk p l e R s m args below meth c D base a al0 l0 d0 H locs cells slots lsM _ hc hd hls ⟨_, _, rfl, rfl, hs⟩ hw hS hk1 hk2

theorem pw_slen {n : Nat} (hdg : decode cc pc = .ok (.arraylength, 1)) (hq : (σ.2.1 0).2 = n) (kk : PW cc Y Z (pc + 1) ls (.int (Int32.ofNat n) :: st) σ I F β) : PW cc Y Z pc ls (.ref 0 :: st) σ I F β := by
  intro p l e R s m args below meth c D base b al0 l0 d0 H locs cells slots lsM stM hc hd hls hs hw hS hk1 hk2
  obtain ⟨hx, hb, hr0, hts, hown, hlk, hml, hrf, hrl, hbs, hsp, -⟩ := id hc
  obtain ⟨_, t1, rfl, ⟨a, hqa, rfl⟩, hs⟩ := hs
  obtain ⟨ws, tys, g1, g2, g3, g4, g5, g6, g7, g8, g9, g10, g11⟩ := id hw
  have ha : a = b := by
    rw [g1, List.getElem?_cons_zero] at hqa
    exact (Option.some.inj hqa).symm
  subst ha
  have hS0 : va_S (fun q : Nat => base ≤ q) H H locs := ⟨Nat.le_refl _, fun _ _ _ => rfl, hS.2.2⟩
  have hbl : a < H.size := Nat.lt_of_lt_of_le g9 g10
  subst hq
  refine va_slen (s := s.setDrawn d0) (A := fun q : Nat => base ≤ q) hx hb (H0 := H) g11 hbl (Nat.not_le.mpr g9) hS0 hdg ?_
  exact kk p l e R s m args below meth c D base a al0 l0 d0 H locs cells slots lsM _ hc hd hls ⟨_, _, rfl, rfl, hs⟩ hw hS hk1 hk2

theorem pw_alenI {q n : Nat} (hdg : decode cc pc = .ok (.arraylength, 1)) (hq : σ.2.1 q = (20, n)) (kk : PW cc Y Z (pc + 1) ls (.int (Int32.ofNat n) :: st) σ I F β) : PW cc Y Z pc ls (.ref q :: st) σ I F β := by
  intro p l e R s m args below meth c D base b al0 l0 d0 H locs cells slots lsM stM hc hd hls hs hw hS hk1 hk2
  obtain ⟨hx, hb, hr0, hts, hown, hlk, hml, hrf, hrl, hbs, hsp, -⟩ := id hc
  obtain ⟨_, t1, rfl, ⟨a, hqa, rfl⟩, hs⟩ := hs
  obtain ⟨ws, tys, g1, g2, g3, g4, g5, g6, g7, g8, g9, g10, g11⟩ := id hw
  obtain ⟨j, en, hj, hjw, hce⟩ := wr_cell (D := D) (base := base) (b := b) (U := s) (H := H) g1 g6 g7 g8 (by rw [hq]; show 20 ≠ 99; omega) (by rw [hq]; show 20 ≠ 0; omega) hqa
  obtain ⟨cA, f, rfl, ⟨t0', ht0⟩, hf⟩ := hce.2.1 (by rw [hq])
  rw [hq] at hjw
  refine va_alen (s := s.setDrawn d0) (D := D) hx hb g4 g3 j t0' hjw ht0 rfl hdg ?_
  exact kk p l e R s m args below meth c D base b al0 l0 d0 H locs cells slots lsM _ hc hd hls ⟨_, _, rfl, rfl, hs⟩ hw hS hk1 hk2

theorem pw_alenC {q n : Nat} (hdg : decode cc pc = .ok (.arraylength, 1)) (hq : σ.2.1 q = (21, n)) (kk : PW cc Y Z (pc + 1) ls (.int (Int32.ofNat n) :: st) σ I F β) : PW cc Y Z pc ls (.ref q :: st) σ I F β := by
  intro p l e R s m args below meth c D base b al0 l0 d0 H locs cells slots lsM stM hc hd hls hs hw hS hk1 hk2
  obtain ⟨hx, hb, hr0, hts, hown, hlk, hml, hrf, hrl, hbs, hsp, -⟩ := id hc
  obtain ⟨_, t1, rfl, ⟨a, hqa, rfl⟩, hs⟩ := hs
  obtain ⟨ws, tys, g1, g2, g3, g4, g5, g6, g7, g8, g9, g10, g11⟩ := id hw
  obtain ⟨j, en, hj, hjw, hce⟩ := wr_cell (D := D) (base := base) (b := b) (U := s) (H := H) g1 g6 g7 g8 (by rw [hq]; show 21 ≠ 99; omega) (by rw [hq]; show 21 ≠ 0; omega) hqa
  obtain ⟨cA, f, rfl, ⟨t0', ht0⟩, hf⟩ := hce.2.2.1 (by rw [hq])
  rw [hq] at hjw
  refine va_alen (s := s.setDrawn d0) (D := D) hx hb g4 g3 j t0' hjw ht0 rfl hdg ?_
  exact kk p l e R s m args below meth c D base b al0 l0 d0 H locs cells slots lsM _ hc hd hls ⟨_, _, rfl, rfl, hs⟩ hw hS hk1 hk2

theorem pw_alenF {q n : Nat} (hdg : decode cc pc = .ok (.arraylength, 1)) (hq : σ.2.1 q = (22, n)) (kk : PW cc Y Z (pc + 1) ls (.int (Int32.ofNat n) :: st) σ I F β) : PW cc Y Z pc ls (.ref q :: st) σ I F β := by
  intro p l e R s m args below meth c D base b al0 l0 d0 H locs cells slots lsM stM hc hd hls hs hw hS hk1 hk2
  obtain ⟨hx, hb, hr0, hts, hown, hlk, hml, hrf, hrl, hbs, hsp, -⟩ := id hc
  obtain ⟨_, t1, rfl, ⟨a, hqa, rfl⟩, hs⟩ := hs
  obtain ⟨ws, tys, g1, g2, g3, g4, g5, g6, g7, g8, g9, g10, g11⟩ := id hw
  obtain ⟨j, en, hj, hjw, hce⟩ := wr_cell (D := D) (base := base) (b := b) (U := s) (H := H) g1 g6 g7 g8 (by rw [hq]; show 22 ≠ 99; omega) (by rw [hq]; show 22 ≠ 0; omega) hqa
  obtain ⟨cA, f, rfl, ⟨t0', ht0⟩, hf⟩ := hce.2.2.2.1 (by rw [hq])
  rw [hq] at hjw
  refine va_alen (s := s.setDrawn d0) (D := D) hx hb g4 g3 j t0' hjw ht0 rfl hdg ?_
  exact kk p l e R s m args below meth c D base b al0 l0 d0 H locs cells slots lsM _ hc hd hls ⟨_, _, rfl, rfl, hs⟩ hw hS hk1 hk2

theorem pw_alenR {q n : Nat} {ci : Nat} (hdg : decode cc pc = .ok (.arraylength, 1)) (hq : σ.2.1 q = (ci + 30, n)) (hci : ci < 8) (kk : PW cc Y Z (pc + 1) ls (.int (Int32.ofNat n) :: st) σ I F β) : PW cc Y Z pc ls (.ref q :: st) σ I F β := by
  intro p l e R s m args below meth c D base b al0 l0 d0 H locs cells slots lsM stM hc hd hls hs hw hS hk1 hk2
  obtain ⟨hx, hb, hr0, hts, hown, hlk, hml, hrf, hrl, hbs, hsp, -⟩ := id hc
  obtain ⟨_, t1, rfl, ⟨a, hqa, rfl⟩, hs⟩ := hs
  obtain ⟨ws, tys, g1, g2, g3, g4, g5, g6, g7, g8, g9, g10, g11⟩ := id hw
  obtain ⟨j, en, hj, hjw, hce⟩ := wr_cell (D := D) (base := base) (b := b) (U := s) (H := H) g1 g6 g7 g8 (by rw [hq]; show ci + 30 ≠ 99; omega) (by rw [hq]; show ci + 30 ≠ 0; omega) hqa
  obtain ⟨cA, f, rfl, ⟨t0', ht0⟩, hf⟩ := hce.2.2.2.2 ci (by rw [hq]) hci
  rw [hq] at hjw
  refine va_alen (s := s.setDrawn d0) (D := D) hx hb g4 g3 j t0' hjw ht0 rfl hdg ?_
  exact kk p l e R s m args below meth c D base b al0 l0 d0 H locs cells slots lsM _ hc hd hls ⟨_, _, rfl, rfl, hs⟩ hw hS hk1 hk2

theorem pw_iast {q n : Nat} {i : Int32} {x : Int32} (hdg : decode cc pc = .ok (.iastore, 1)) (hq : σ.2.1 q = (20, n)) (hin : vp_in i n) (kk : PW cc Y Z (pc + 1) ls st σ (up2 I q i.toNatClampNeg x) F β) : PW cc Y Z pc ls (.int x :: .int i :: .ref q :: st) σ I F β := by
  intro p l e R s m args below meth c D base b al0 l0 d0 H locs cells slots lsM stM hc hd hls hs hw hS hk1 hk2
  obtain ⟨hx, hb, hr0, hts, hown, hlk, hml, hrf, hrl, hbs, hsp, -⟩ := id hc
  obtain ⟨_, t9, rfl, rfl, hs⟩ := hs
  obtain ⟨_, t0, rfl, rfl, hs⟩ := hs
  obtain ⟨_, t1, rfl, ⟨a, hqa, rfl⟩, hs⟩ := hs
  obtain ⟨ws, tys, g1, g2, g3, g4, g5, g6, g7, g8, g9, g10, g11⟩ := id hw
  obtain ⟨j, en, hj, hjw, hce⟩ := wr_cell (D := D) (base := base) (b := b) (U := s) (H := H) g1 g6 g7 g8 (by rw [hq]; show 20 ≠ 99; omega) (by rw [hq]; show 20 ≠ 0; omega) hqa
  obtain ⟨cA, f, rfl, ⟨t0', ht0⟩, hf⟩ := hce.2.1 (by rw [hq])
  rw [hq] at hjw hf
  refine va_iast (s := s.setDrawn d0) (D := D) hx hb g4 g3 g5 hS j t0' hjw ht0 hin hdg (fun H1 locs1 hP1 hD1 hS1 => ?_)
  subst hj
  refine kk p l e R s m args below meth c D base b al0 l0 d0 H1 locs1 cells slots lsM _ hc hd hls hs (wr_set (σ' := σ) (I' := up2 I (j + 1) i.toNatClampNeg x) (F' := F) g1 g2 g4 g6 g7 g8 g9 hbs g11 hjw hP1 hD1 hS hS1 rfl rfl ?_ ?_ ?_ ?_) hS1 hk1 hk2
  · intro q9 h9; rfl
  · intro q9 h9; exact up2_row h9
  · intro q9 h9; rfl
  · refine ⟨fun c h1 _ => by exfalso; (try dsimp only at h1); rw [hq] at h1; (try dsimp only at h1); omega, fun h1 => ?_, fun h1 => ?_, fun h1 => ?_, fun c h1 h2 => ?_⟩
    · rw [hq]; exact ⟨cA, _, rfl, ⟨t0', ht0⟩, fun k hk => by simp only [upd, up2, true_and]; split <;> first | rfl | exact hf k hk⟩
    · exfalso; (try dsimp only at h1); rw [hq] at h1; (try dsimp only at h1); omega
    · exfalso; (try dsimp only at h1); rw [hq] at h1; (try dsimp only at h1); omega
    · exfalso; (try dsimp only at h1); rw [hq] at h1; (try dsimp only at h1); omega


theorem pw_cast {q n : Nat} {i : Int32} {x : Int32} (hdg : decode cc pc = .ok (.castore, 1)) (hq : σ.2.1 q = (21, n)) (hin : vp_in i n) (kk : PW cc Y Z (pc + 1) ls st σ (up2 I q i.toNatClampNeg (vp_nar .char x)) F β) : PW cc Y Z pc ls (.int x :: .int i :: .ref q :: st) σ I F β := by
  intro p l e R s m args below meth c D base b al0 l0 d0 H locs cells slots lsM stM hc hd hls hs hw hS hk1 hk2
  obtain ⟨hx, hb, hr0, hts, hown, hlk, hml, hrf, hrl, hbs, hsp, -⟩ := id hc
  obtain ⟨_, t9, rfl, rfl, hs⟩ := hs
  obtain ⟨_, t0, rfl, rfl, hs⟩ := hs
  obtain ⟨_, t1, rfl, ⟨a, hqa, rfl⟩, hs⟩ := hs
  obtain ⟨ws, tys, g1, g2, g3, g4, g5, g6, g7, g8, g9, g10, g11⟩ := id hw
  obtain ⟨j, en, hj, hjw, hce⟩ := wr_cell (D := D) (base := base) (b := b) (U := s) (H := H) g1 g6 g7 g8 (by rw [hq]; show 21 ≠ 99; omega) (by rw [hq]; show 21 ≠ 0; omega) hqa
  obtain ⟨cA, f, rfl, ⟨t0', ht0⟩, hf⟩ := hce.2.2.1 (by rw [hq])
  rw [hq] at hjw hf
  refine va_cast (s := s.setDrawn d0) (D := D) hx hb g4 g3 g5 hS j t0' hjw ht0 hin hdg (fun H1 locs1 hP1 hD1 hS1 => ?_)
  subst hj
  refine kk p l e R s m args below meth c D base b al0 l0 d0 H1 locs1 cells slots lsM _ hc hd hls hs (wr_set (σ' := σ) (I' := up2 I (j + 1) i.toNatClampNeg (vp_nar .char x)) (F' := F) g1 g2 g4 g6 g7 g8 g9 hbs g11 hjw hP1 hD1 hS hS1 rfl rfl ?_ ?_ ?_ ?_) hS1 hk1 hk2
  · intro q9 h9; rfl
  · intro q9 h9; exact up2_row h9
  · intro q9 h9; rfl
  · refine ⟨fun c h1 _ => by exfalso; (try dsimp only at h1); rw [hq] at h1; (try dsimp only at h1); omega, fun h1 => ?_, fun h1 => ?_, fun h1 => ?_, fun c h1 h2 => ?_⟩
    · exfalso; (try dsimp only at h1); rw [hq] at h1; (try dsimp only at h1); omega
    · rw [hq]; exact ⟨cA, _, rfl, ⟨t0', ht0⟩, fun k hk => by simp only [upd, up2, true_and]; split <;> first | rfl | exact hf k hk⟩
    · exfalso; (try dsimp only at h1); rw [hq] at h1; (try dsimp only at h1); omega
    · exfalso; (try dsimp only at h1); rw [hq] at h1; (try dsimp only at h1); omega


theorem pw_fast {q n : Nat} {i : Int32} {x : UInt32} (hdg : decode cc pc = .ok (.fastore, 1)) (hq : σ.2.1 q = (22, n)) (hin : vp_in i n) (kk : PW cc Y Z (pc + 1) ls st σ I (up2 F q i.toNatClampNeg x) β) : PW cc Y Z pc ls (.float x :: .int i :: .ref q :: st) σ I F β := by
  intro p l e R s m args below meth c D base b al0 l0 d0 H locs cells slots lsM stM hc hd hls hs hw hS hk1 hk2
  obtain ⟨hx, hb, hr0, hts, hown, hlk, hml, hrf, hrl, hbs, hsp, -⟩ := id hc
  obtain ⟨_, t9, rfl, ⟨x', rfl, hx'⟩, hs⟩ := hs
  obtain ⟨_, t0, rfl, rfl, hs⟩ := hs
  obtain ⟨_, t1, rfl, ⟨a, hqa, rfl⟩, hs⟩ := hs
  obtain ⟨ws, tys, g1, g2, g3, g4, g5, g6, g7, g8, g9, g10, g11⟩ := id hw
  obtain ⟨j, en, hj, hjw, hce⟩ := wr_cell (D := D) (base := base) (b := b) (U := s) (H := H) g1 g6 g7 g8 (by rw [hq]; show 22 ≠ 99; omega) (by rw [hq]; show 22 ≠ 0; omega) hqa
  obtain ⟨cA, f, rfl, ⟨t0', ht0⟩, hf⟩ := hce.2.2.2.1 (by rw [hq])
  rw [hq] at hjw hf
  refine va_fast (s := s.setDrawn d0) (D := D) hx hb g4 g3 g5 hS j t0' hjw ht0 hin hdg (fun H1 locs1 hP1 hD1 hS1 => ?_)
  subst hj
  refine kk p l e R s m args below meth c D base b al0 l0 d0 H1 locs1 cells slots lsM _ hc hd hls hs (wr_set (σ' := σ) (I' := I) (F' := up2 F (j + 1) i.toNatClampNeg x) g1 g2 g4 g6 g7 g8 g9 hbs g11 hjw hP1 hD1 hS hS1 rfl rfl ?_ ?_ ?_ ?_) hS1 hk1 hk2
  · intro q9 h9; rfl
  · intro q9 h9; rfl
  · intro q9 h9; exact up2_row h9
  · refine ⟨fun c h1 _ => by exfalso; (try dsimp only at h1); rw [hq] at h1; (try dsimp only at h1); omega, fun h1 => ?_, fun h1 => ?_, fun h1 => ?_, fun c h1 h2 => ?_⟩
    · exfalso; (try dsimp only at h1); rw [hq] at h1; (try dsimp only at h1); omega
    · exfalso; (try dsimp only at h1); rw [hq] at h1; (try dsimp only at h1); omega
    · rw [hq]; exact ⟨cA, _, rfl, ⟨t0', ht0⟩, fun k hk => by simp only [vf_upd, up2, true_and]; split <;> first | exact hx' | exact hf k hk⟩
    · exfalso; (try dsimp only at h1); rw [hq] at h1; (try dsimp only at h1); omega


theorem pw_aast {q n : Nat} {i : Int32} {x : Nat} {ci : Nat} (hdg : decode cc pc = .ok (.aastore, 1)) (hq : σ.2.1 q = (ci + 30, n)) (hin : vp_in i n) (hci : ci < 8) (hxk : (σ.2.1 x).1 = ci + 1) (kk : PW cc Y Z (pc + 1) ls st (σ.1, σ.2.1, up2 σ.2.2 q i.toNatClampNeg (some x)) I F β) : PW cc Y Z pc ls (.ref x :: .int i :: .ref q :: st) σ I F β := by
  intro p l e R s m args below meth c D base b al0 l0 d0 H locs cells slots lsM stM hc hd hls hs hw hS hk1 hk2
  obtain ⟨hx, hb, hr0, hts, hown, hlk, hml, hrf, hrl, hbs, hsp, -⟩ := id hc
  obtain ⟨_, t9, rfl, ⟨xa, hxa, rfl⟩, hs⟩ := hs
  obtain ⟨_, t0, rfl, rfl, hs⟩ := hs
  obtain ⟨_, t1, rfl, ⟨a, hqa, rfl⟩, hs⟩ := hs
  obtain ⟨ws, tys, g1, g2, g3, g4, g5, g6, g7, g8, g9, g10, g11⟩ := id hw
  obtain ⟨j, en, hj, hjw, hce⟩ := wr_cell (D := D) (base := base) (b := b) (U := s) (H := H) g1 g6 g7 g8 (by rw [hq]; show ci + 30 ≠ 99; omega) (by rw [hq]; show ci + 30 ≠ 0; omega) hqa
  obtain ⟨cA, f, rfl, ⟨t0', ht0⟩, hf⟩ := hce.2.2.2.2 ci (by rw [hq]) hci
  rw [hq] at hjw hf
  obtain ⟨jx, enx, hjx, hjwx, hcex⟩ := wr_cell (D := D) (base := base) (b := b) (U := s) (H := H) g1 g6 g7 g8 (by rw [hxk]; omega) (by rw [hxk]; omega) hxa
  obtain ⟨fsx, rfl, -⟩ := hcex.1 ci hxk hci
  obtain ⟨rr, hrr, hrn⟩ : ∃ rr : vw_C, vwCl[ci]? = some rr ∧ rr.1 = cnm ci := vw_at hci
  refine va_astq (s := s.setDrawn d0) (D := D) hx hb g4 g3 g5 hS j t0' jx ci (r := rr) hjw (by rw [hrn]; exact ht0) hjwx hrr hin hdg (fun H1 locs1 hP1 hD1 hS1 => ?_)
  subst hj
  refine kk p l e R s m args below meth c D base b al0 l0 d0 H1 locs1 cells slots lsM _ hc hd hls hs (wr_set (σ' := (σ.1, σ.2.1, up2 σ.2.2 (j + 1) i.toNatClampNeg (some x))) (I' := I) (F' := F) g1 g2 g4 g6 g7 g8 g9 hbs g11 hjw hP1 hD1 hS hS1 rfl rfl ?_ ?_ ?_ ?_) hS1 hk1 hk2
  · intro q9 h9; exact up2_row h9
  · intro q9 h9; rfl
  · intro q9 h9; rfl
  · refine ⟨fun c h1 _ => by exfalso; (try dsimp only at h1); rw [hq] at h1; (try dsimp only at h1); omega, fun h1 => ?_, fun h1 => ?_, fun h1 => ?_, fun c h1 h2 => ?_⟩
    · exfalso; (try dsimp only at h1); rw [hq] at h1; (try dsimp only at h1); omega
    · exfalso; (try dsimp only at h1); rw [hq] at h1; (try dsimp only at h1); omega
    · exfalso; (try dsimp only at h1); rw [hq] at h1; (try dsimp only at h1); omega
    · (try dsimp only at h1); rw [hq] at h1; (try dsimp only at h1)
      have hcc : ci = c := by omega
      subst hcc
      (try dsimp only); rw [hq]
      exact ⟨cA, _, rfl, ⟨t0', ht0⟩, fun k hk => by simp only [va_up, up2, true_and]; split <;> first | exact ⟨xa, hxa, rfl⟩ | exact hf k hk⟩


end PR

