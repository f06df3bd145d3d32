/-! constructors: over a world that grows -/
def tblB (w : Cond) : Bool := lw_tbl.any fun z => decide (z = w)
theorem tblB_in {w : Cond} (h : tblB w = true) : w ∈ lw_tbl := by
  obtain ⟨z, hz, e⟩ := List.any_eq_true.mp h
  rw [← of_decide_eq_true e]
  exact hz
theorem tblB_bw {w : Cond} (h : (tblB w && goodWord w) = true) : w ∈ BW := by
  rw [Bool.and_eq_true] at h
  exact List.mem_filter.mpr ⟨tblB_in h.1, h.2⟩
section
variable {A : AC} {D : va_G} {Ba : Nat → Prop}
def TN (A : AC) (D : va_G) (Ba : Nat → Prop) (s : State) : Prop := va_K D vwCl (tys A) s ∧ va_AO "HotPanLocks$State" s ∧ (∀ q, s.heap.size ≤ q → Ba q) ∧ ∀ w ∈ NW, va_Nw w s
theorem tn_calling {U : State} {g : JFrame} {mk : MethodId} {a : Array Value} (h : TN A D Ba U) : TN A D Ba (U.calling g mk a) := ⟨va_K.moved (u := U) (U := U.calling g mk a) (Vm.Alike.refl U.vm) h.1, va_AO.moved (u := U) (U := U.calling g mk a) (Vm.Alike.refl U.vm) h.2.1, h.2.2.1, fun w hw => by
  obtain ⟨_, _, _, _, rfl⟩ := nw_nest hw
  exact va_Nw.same rfl (u := U) rfl (h.2.2.2 _ hw)⟩
theorem tn_moved {s U : State} {H : Heap} {locs : List Loc} (h : TN A D Ba s) (hS : va_S Ba s.heap H locs) (hU : U.heap = H) (hW : s.WarmedH U.vm) : TN A D Ba U := ⟨va_K.moved hW.alike h.1, va_AO.moved hW.alike h.2.1, fun q hq => h.2.2.1 q (by rw [hU] at hq; exact Nat.le_trans hS.1 hq), fun w hw => by
  obtain ⟨_, _, _, _, rfl⟩ := nw_nest hw
  exact va_Nw.warmM hW (h.2.2.2 _ hw)⟩
def CxC (A : AC) (D : va_G) (Ba : Nat → Prop) (M : MI) (p : Program) (s : State) (mi : MethodId) (args : Array Value) (meth : Method) (c : Code) : Prop :=
  p.tables.exec = Jvm.exec ∧ c.code = mB M ∧ c.maxLocals = mN M ∧ s.vm.findClass (RO (mO M)) = some mi.cls ∧ (∀ w ∈ BW, w.before args s = true) ∧ (mO M = 6 ∨ meth.sig.returnType = none) ∧ meth.locks = false ∧ (mO M = 6 ∨ meth.name = "<init>") ∧ dcG M ∧ TN A D Ba s
def cPw (A : AC) (D : va_G) (Ba : Nat → Prop) (as : List Value) (ws : va_W) : Array Value → State → Prop := va_Pc as (fun U => va_P D vwCl ws U.heap ∧ TN A D Ba U)
def cQw (D : va_G) (Ba : Nat → Prop) (P : va_W → Prop) : Array Value → State → Outcome → State → Prop := fun _ st oc t => oc = .returned none ∧ (∃ ws, P ws ∧ va_P D vwCl ws t.heap ∧ va_D Ba ws) ∧ va_F Ba st t
theorem ra_int {s : State} {c1 c2 : ClassId} (h1 : va_RA s c1 .int) (h2 : va_RA s c2 .int) : c1 = c2 := Option.some.inj ((show s.vm.findClass _ = some c1 from h1).symm.trans (show s.vm.findClass _ = some c2 from h2))
theorem ra_obj {s : State} {C : String} {c1 c2 : ClassId} (h1 : va_RA s c1 (.object C)) (h2 : va_RA s c2 (.object C)) : c1 = c2 := by
  obtain ⟨_, _, _, _, _, e1⟩ := h1
  obtain ⟨_, _, _, _, _, e2⟩ := h2
  exact Option.some.inj (e1.symm.trans e2)
section
variable {p : Program} {l : Launch} {e : Env} {R : Room} {s : State} {mi : MethodId} {args : Array Value} {below : List Frame} {meth : Method} {c : Code} {H : Heap} {locs : List Loc} {cells slots : Nat} {Q : State → Prop}
variable {M M2 : MI} {ws : va_W} {pc x a : Nat} {ls : Array Slot} {rest : List Value}
def oiB (o x : Nat) : Bool := (tblB (Cond.methodLink (RO o) x Lib.objectInit) && goodWord (Cond.methodLink (RO o) x Lib.objectInit)) && (tblB (Cond.instanceMethod Lib.objectInit) && goodWord (Cond.instanceMethod Lib.objectInit)) && (tblB (Cond.code Lib.objectInit ⟨#[0xb1]⟩ 1 none) && goodWord (Cond.code Lib.objectInit ⟨#[0xb1]⟩ 1 none))
theorem k_oinit (C0 : CxC A D Ba M p s mi args meth c) (hB : oiB (mO M) x = true) (h : asc (mT M) pc = some (.invokespecial x, 3)) (hsz : ls.size = mN M) (hf : 1 ≤ R.frames) (hlo : (rest.map fun v => v.category).sum + 12 ≤ R.locals)
    (kk : W p l e R s mi args below meth c H locs cells slots Q (F0 mi (pc + 3) ls rest)) : W p l e R s mi args below meth c H locs cells slots Q (F0 mi pc ls (.ref a :: rest)) := by
  obtain ⟨hx, hb, hml, hown, hts, hr, hlk, hnm, hdc, hT⟩ := C0
  unfold oiB at hB
  rw [Bool.and_eq_true, Bool.and_eq_true] at hB
  obtain ⟨⟨b1, b2⟩, b3⟩ := hB
  refine W.objInit hx hb hown (hts _ (tblB_bw b1)) (hts _ (tblB_bw b2)) (hts _ (tblB_bw b3)) rfl (by rw [hml]; exact hsz) rfl (dc_at hdc h) hf ?_ kk
  exact Nat.le_trans (Nat.le_of_eq (by show 0 + _ + 12 = _; omega)) hlo
theorem k_put (hw : WOK) (C0 : CxC A D Ba M p s mi args meth c) (hP : va_P D vwCl ws H) (hD : va_D Ba ws) (hS : va_S Ba s.heap H locs) (q0 : Nat) {ci k : Nat} {fs : List Value} {v : Value} (ty : FieldType) (he : ws[q0]? = some (a, .inr (ci, fs))) (hx9 : asc (flk (mO M)) x = some (ci, k)) (ho : (vwCl[ci]?.map fun q => q.1) = some (RO (mO M)))
    (hty : (vwCl[ci]?.map fun q => parseFieldDescriptor (q.2.1 k).2.2.1) = some (some ty)) (hn : narrow ty v = v) (hfit : fits ty v = true) (hl : k < fs.length) (h : asc (mT M) pc = some (.putfield x, 3))
    (kk : ∀ (H1 : Heap) (locs1 : List Loc), va_P D vwCl (ws.set q0 (a, .inr (ci, fs.set k v))) H1 → va_D Ba (ws.set q0 (a, .inr (ci, fs.set k v))) → va_S Ba s.heap H1 locs1 → W p l e R s mi args below meth c H1 locs1 cells slots Q (F0 mi (pc + 3) ls rest)) : W p l e R s mi args below meth c H locs cells slots Q (F0 mi pc ls (v :: .ref a :: rest)) := by
  obtain ⟨hx, hb, hml, hown, hts, hr, hlk, hnm, hdc, hT⟩ := C0
  obtain ⟨q, g1, g2, g3, g4⟩ := hw.1 (mO M) _ (asc_mem hx9)
  obtain ⟨w1, ty0, w2, w3⟩ := hw.2.2.2.2.2.2.2.1 ci q g1
  obtain ⟨C, T, N⟩ := q
  have hd2 : parseFieldDescriptor (T k).2.2.1 = some ty := by
    rw [g1] at hty
    exact Option.some.inj hty
  have hC : C = RO (mO M) := by
    rw [g1] at ho
    exact Option.some.inj ho
  have hnm := hnm.resolve_left (fun q => by rw [q] at hx9; cases hx9)
  by_cases hf : (T k).2.2.2 = false
  · exact va_put (D := D) (ci := ci) (v := v) (ty := ty) (C := C) (T := T) (N := N) hx hb hts w1 ty0 w2 w3 hown hT.1 hP hD hS q0 he g1 k g2 (hts _ g4) (fun y hy => by rw [← g3]; exact hy) hf hd2 hn hfit hl (dc_at hdc h) kk
  · exact va_putF (D := D) (ci := ci) (v := v) (ty := ty) (C := C) (T := T) (N := N) hx hb hts w1 ty0 w2 w3 hown hT.1 hP hD hS q0 he g1 k g2 (hts _ g4) (fun y hy => by rw [← g3]; exact hy) (by cases hq : (T k).2.2.2 <;> simp_all) hnm (g3.trans hC) hd2 hn hfit hl (dc_at hdc h) kk
theorem k_get (hw : WOK) (C0 : CxC A D Ba M p s mi args meth c) (hP : va_P D vwCl ws H) (q0 : Nat) {ci k : Nat} {fs : List Value} {v : Value} (he : ws[q0]? = some (a, .inr (ci, fs))) (hx9 : asc (flk (mO M)) x = some (ci, k)) (hv : fs[k]? = some v) (h : asc (mT M) pc = some (.getfield x, 3))
    (kk : W p l e R s mi args below meth c H locs cells slots Q (F0 mi (pc + 3) ls (v :: rest))) : W p l e R s mi args below meth c H locs cells slots Q (F0 mi pc ls (.ref a :: rest)) := by
  obtain ⟨hx, hb, hml, hown, hts, hr, hlk, hnm, hdc, hT⟩ := C0
  obtain ⟨q, g1, g2, g3, g4⟩ := hw.1 (mO M) _ (asc_mem hx9)
  obtain ⟨w1, ty0, w2, w3⟩ := hw.2.2.2.2.2.2.2.1 ci q g1
  obtain ⟨C, T, N⟩ := q
  exact va_get (C := C) (T := T) (N := N) hx hb hts w1 hown hT.1 hP q0 he g1 k g2 (hts _ g4) (fun y hy => by rw [← g3]; exact hy) hv (dc_at hdc h) kk
def nwB (o x ci : Nat) : Bool := match vwCl[ci]? with
  | some (C, _, N) => (tblB (Cond.classLink (RO o) x C) && goodWord (Cond.classLink (RO o) x C)) && (tblB (Cond.instantiable C N) && goodWord (Cond.instantiable C N)) && (tblB (Cond.initialized C) && goodWord (Cond.initialized C))
  | none => false
theorem k_new (hw : WOK) (C0 : CxC A D Ba M p s mi args meth c) (hP : va_P D vwCl ws H) (hD : va_D Ba ws) (hS : va_S Ba s.heap H locs) {ci N : Nat} {C : String} {T : u_T} (hc : vwCl[ci]? = some (C, T, N)) (hB : nwB (mO M) x ci = true) (ty : Nat → FieldType) (hty : ∀ k, k < N → parseFieldDescriptor (T k).2.2.1 = some (ty k)) (fs : List Value) (hfs : ∀ j, j < N → defaultValue (ty j) = vp_V fs j) (hcells : cells + 1 ≤ R.cells) (hslots : slots + N ≤ R.slots) (h : asc (mT M) pc = some (.new x, 3))
    (kk : ∀ (q : Nat) (H1 : Heap), va_P D vwCl (ws ++ [(q, .inr (ci, fs))]) H1 → va_D Ba (ws ++ [(q, .inr (ci, fs))]) → va_S Ba s.heap H1 locs → W p l e R s mi args below meth c H1 locs (cells + 1) (slots + N) Q (F0 mi (pc + 3) ls (.ref q :: rest))) : W p l e R s mi args below meth c H locs cells slots Q (F0 mi pc ls rest) := by
  obtain ⟨hx, hb, hml, hown, hts, hr, hlk, hnm, hdc, hT⟩ := C0
  obtain ⟨w1, ty0, w2, w3⟩ := hw.2.2.2.2.2.2.2.1 ci _ hc
  unfold nwB at hB
  rw [hc] at hB
  dsimp only at hB
  rw [Bool.and_eq_true, Bool.and_eq_true] at hB
  obtain ⟨⟨b1, b2⟩, b3⟩ := hB
  exact va_new (ci := ci) (fs := fs) (C := C) (T := T) (N := N) hx hb hts w1 ty hty hown (hts _ (tblB_bw b1)) (hts _ (tblB_bw b2)) (hts _ (tblB_bw b3)) hT.1 hP hD hS hT.2.2.1 hc hfs hcells hslots (dc_at hdc h) kk
theorem k_newa (C0 : CxC A D Ba M p s mi args meth c) (hB : (tblB (Cond.arrayClass .int) && goodWord (Cond.arrayClass .int)) = true) (hP : va_P D vwCl ws H) (hD : va_D Ba ws) (hS : va_S Ba s.heap H locs) {n : Int32} {N : Nat} (hn : n = nI N) (hN : N < 65536) (hcells : cells + 1 ≤ R.cells) (hslots : slots + N ≤ R.slots) (h : asc (mT M) pc = some (.newarray .int, 2))
    (kk : ∀ (q : Nat) (H1 : Heap), va_P D vwCl (ws ++ [(q, .inl (A.1, N, .inl (fun _ => 0)))]) H1 → va_D Ba (ws ++ [(q, .inl (A.1, N, .inl (fun _ => 0)))]) → va_S Ba s.heap H1 locs → W p l e R s mi args below meth c H1 locs (cells + 1) (slots + N) Q (F0 mi (pc + 2) ls (.ref q :: rest))) : W p l e R s mi args below meth c H locs cells slots Q (F0 mi pc ls (.int n :: rest)) := by
  obtain ⟨hx, hb, hml, hown, hts, hr, hlk, hnm, hdc, hT⟩ := C0
  subst hn
  refine va_newa (atype := .int) (ty := .int) (N' := N) (a0 := (N, .inl (fun _ => 0))) hx hb (hts _ (tblB_bw hB)) rfl hT.1 hP hD hS hT.2.2.1 (fun cA => rfl) (nI_pos (by omega)) (nI_clamp (by omega)) (by show N * 4 ≤ _; omega) hcells hslots (dc_at hdc h) (fun q cA H1 k1 k2 k3 k4 => ?_)
  have e1 := (k1.2 2 (cA, .int) rfl).2
  have e2 := (hT.1.2 0 (A.1, .int) rfl).2
  have e3 := ra_int e1 e2
  subst e3
  exact kk q H1 k2 k3 k4
theorem ccall_row {P : va_W → Prop} {a9 : Array Value} {mc ms : Nat} {st0 : List Value} (hr : va_Run p l e R s mi args below meth c H locs cells slots mc ms (F0 mi pc ls st0) rest (cQw D Ba P a9) Ba) (hS : va_S Ba s.heap H locs)
    (kk : ∀ (ws1 : va_W) (H1 : Heap) (locs1 : List Loc), P ws1 → va_P D vwCl ws1 H1 → va_D Ba ws1 → va_S Ba s.heap H1 locs1 → W p l e R s mi args below meth c H1 locs1 (cells + mc) (slots + ms) Q (F0 mi (pc + 3) ls rest)) : W p l e R s mi args below meth c H locs cells slots Q (F0 mi pc ls st0) := by
  intro T hT X
  obtain ⟨v2, st₀, t, T', L, h0, X', hL, e1, e2, ⟨hv, ⟨ws1, hp1, hb, hd9⟩, hz, hk⟩, st⟩ := hr T hT X
  cases hv
  rw [h0] at hz hk
  obtain ⟨t2, a1, b1⟩ := kk ws1 T'.heap (locs ++ L) hp1 (by rw [e1]; exact hb) hd9
    ⟨Nat.le_trans hS.1 (by rw [e1]; exact hz), fun q h1 h2 => by rw [e1, hk q (Nat.lt_of_lt_of_le h1 hS.1) h2]; exact hS.2.1 q h1 h2, fun q hq => by
      rcases List.mem_append.mp hq with h | h
      · exact hS.2.2 q h
      · exact hL q h⟩ T' rfl X'
  exact ⟨t2, st t2 a1, b1⟩
/-- a constructor's words -/
def ciB (o x : Nat) (M : MI) : Bool := (tblB (Cond.methodLink (RO o) x (mY M)) && goodWord (Cond.methodLink (RO o) x (mY M))) && (tblB (Cond.instanceMethod (mY M)) && goodWord (Cond.instanceMethod (mY M))) && (tblB (Cond.initialized (mY M).cls) && goodWord (Cond.initialized (mY M).cls)) && (tblB (Cond.code (mY M) (mB M) (mN M) none) && goodWord (Cond.code (mY M) (mB M) (mN M) none)) && decide ((mY M).name = "<init>") && decide ((mY M).cls ≠ "java/lang/invoke/MethodHandle" ∧ (mY M).cls ≠ "java/lang/invoke/VarHandle" ∧ (parseMethodDescriptor (mY M).desc).map (fun d => d.parameters.length) = some (mPar M))
def cWs (M : MI) : List Cond := Cond.code (mY M) (mB M) (mN M) none :: BW
def cRm (M : MI) (mc ms : Nat) : Room := { frames := mFr M, cells := mc, slots := ms, locals := mLo M }
theorem k_ctor (C0 : CxC A D Ba M p s mi args meth c) (hP : va_P D vwCl ws H) (hS : va_S Ba s.heap H locs) {P : va_W → Prop} {mc ms : Nat} {As : List Value} (hM : Met l (mY M2) (cWs M2) (cRm M2 mc ms) (cPw A D Ba (.ref a :: As) ws) (cQw D Ba P) mc ms Ba) (hB : ciB (mO M) x M2 = true) (hn : As.length = mPar M2) (hfr : mFr M2 + 1 ≤ R.frames ∧ 8 + (mN M2 + 11) + mLo M2 ≤ R.locals) (hsz : ls.size = mN M) (hroom : (rest.map fun v => v.category).sum ≤ 8) (hcs : cells + mc ≤ R.cells ∧ slots + ms ≤ R.slots) (h : asc (mT M) pc = some (.invokespecial x, 3))
    (kk : ∀ (ws1 : va_W) (H1 : Heap) (locs1 : List Loc), P ws1 → va_P D vwCl ws1 H1 → va_D Ba ws1 → va_S Ba s.heap H1 locs1 → W p l e R s mi args below meth c H1 locs1 (cells + mc) (slots + ms) Q (F0 mi (pc + 3) ls rest)) : W p l e R s mi args below meth c H locs cells slots Q (F0 mi pc ls (As.reverse ++ .ref a :: rest)) := by
  obtain ⟨hx, hb, hml, hown, hts, hr, hlk, hnm, hdc, hT⟩ := C0
  unfold ciB at hB
  simp only [Bool.and_eq_true, decide_eq_true_eq] at hB
  obtain ⟨⟨⟨⟨⟨g1, g2⟩, g3⟩, g4⟩, g5⟩, g6⟩ := hB
  have b1 := tblB_bw (w := Cond.methodLink (RO (mO M)) x (mY M2)) (by rw [g1.1, g1.2]; rfl)
  have b2 := tblB_bw (w := Cond.instanceMethod (mY M2)) (by rw [g2.1, g2.2]; rfl)
  have b3 := tblB_bw (w := Cond.initialized (mY M2).cls) (by rw [g3.1, g3.2]; rfl)
  have b4 := tblB_bw (w := Cond.code (mY M2) (mB M2) (mN M2) none) (by rw [g4.1, g4.2]; rfl)
  have hG : GoodIn BW (cWs M2) := good_in (fun w hw2 => by
    rcases List.mem_cons.mp hw2 with rfl | q
    · exact b4
    · exact q)
  refine ccall_row (va_runI (b := a) (As := As) (rest := rest) ⟨hx, hb, hml, hown, hts⟩ hM (cwI (mPar M2) hts hG rfl rfl rfl (hts _ b3) (hts _ b1) (hts _ b2) g5 g6 hfr) ⟨fun a U g mk q => ⟨q.1, q.2.1, tn_calling q.2.2⟩, fun U hU hW => ⟨rfl, by rw [hU]; exact hP, tn_moved hT hS hU hW⟩⟩ rfl hn hsz rfl (lv_room hroom) (dc_at hdc h) hcs) hS kk
def cnB (o x : Nat) (M : MI) : Bool := (lw_tbl.any fun w => match w with
  | .methodLinkNest a i y _ => decide (a = RO o) && Nat.beq i x && decide (y = mY M)
  | _ => false) && (tblB (Cond.instanceMethod (mY M)) && goodWord (Cond.instanceMethod (mY M))) && (tblB (Cond.initialized (mY M).cls) && goodWord (Cond.initialized (mY M).cls)) && (tblB (Cond.code (mY M) (mB M) (mN M) none) && goodWord (Cond.code (mY M) (mB M) (mN M) none)) && decide ((mY M).name = "<init>") && decide ((mY M).cls ≠ "java/lang/invoke/MethodHandle" ∧ (mY M).cls ≠ "java/lang/invoke/VarHandle" ∧ (parseMethodDescriptor (mY M).desc).map (fun d => d.parameters.length) = some (mPar M))
theorem k_ctorN (C0 : CxC A D Ba M p s mi args meth c) (hP : va_P D vwCl ws H) (hS : va_S Ba s.heap H locs) {P : va_W → Prop} {mc ms : Nat} {As : List Value} (hM : Met l (mY M2) (cWs M2) (cRm M2 mc ms) (cPw A D Ba (.ref a :: As) ws) (cQw D Ba P) mc ms Ba) (hB : cnB (mO M) x M2 = true) (hn : As.length = mPar M2) (hfr : mFr M2 + 1 ≤ R.frames ∧ 8 + (mN M2 + 11) + mLo M2 ≤ R.locals) (hsz : ls.size = mN M) (hroom : (rest.map fun v => v.category).sum ≤ 8) (hcs : cells + mc ≤ R.cells ∧ slots + ms ≤ R.slots) (h : asc (mT M) pc = some (.invokespecial x, 3))
    (kk : ∀ (ws1 : va_W) (H1 : Heap) (locs1 : List Loc), P ws1 → va_P D vwCl ws1 H1 → va_D Ba ws1 → va_S Ba s.heap H1 locs1 → W p l e R s mi args below meth c H1 locs1 (cells + mc) (slots + ms) Q (F0 mi (pc + 3) ls rest)) : W p l e R s mi args below meth c H locs cells slots Q (F0 mi pc ls (As.reverse ++ .ref a :: rest)) := by
  obtain ⟨hx, hb, hml, hown, hts, hr, hlk, hnm, hdc, hT⟩ := C0
  unfold cnB at hB
  simp only [Bool.and_eq_true, decide_eq_true_eq] at hB
  obtain ⟨⟨⟨⟨⟨g1, g2⟩, g3⟩, g4⟩, g5⟩, g6⟩ := hB
  obtain ⟨w, hw, hw2⟩ := List.any_eq_true.mp g1
  have b2 := tblB_bw (w := Cond.instanceMethod (mY M2)) (by rw [g2.1, g2.2]; rfl)
  have b3 := tblB_bw (w := Cond.initialized (mY M2).cls) (by rw [g3.1, g3.2]; rfl)
  have b4 := tblB_bw (w := Cond.code (mY M2) (mB M2) (mN M2) none) (by rw [g4.1, g4.2]; rfl)
  have hG : GoodIn BW (cWs M2) := good_in (fun w hw2 => by
    rcases List.mem_cons.mp hw2 with rfl | q
    · exact b4
    · exact q)
  split at hw2
  · next ax ix yx hx9 =>
    simp only [Bool.and_eq_true, decide_eq_true_eq] at hw2
    obtain ⟨⟨rfl, u2⟩, rfl⟩ := hw2
    cases Nat.eq_of_beq_eq_true u2
    have hlk9 := hT.2.2.2 _ (List.mem_filter.mpr ⟨hw, rfl⟩)
    refine ccall_row (va_runIN (b := a) (As := As) (rest := rest) ⟨hx, hb, hml, hown, hts⟩ hM ⟨va_cnB (mPar M2) hts hG rfl rfl rfl hlk9 (hts _ b3) g6 hfr, g5, hts _ b2⟩ ⟨fun a U g mk q => ⟨q.1, q.2.1, tn_calling q.2.2⟩, fun U hU hW => ⟨rfl, by rw [hU]; exact hP, tn_moved hT hS hU hW⟩⟩ rfl hn hsz rfl (lv_room hroom) (dc_at hdc h) hcs) hS kk
  · cases hw2
end
end
