def BW : List Cond := lw_tbl.filter goodWord
def isNest (w : Cond) : Bool := match w with
  | .methodLinkNest _ _ _ _ => true
  | _ => false
def NW : List Cond := lw_tbl.filter isNest
theorem bw_of (i : Nat) {w : Cond} (h : lw_tbl[i]? = some w) (g : goodWord w = true) : w ∈ BW := List.mem_filter.mpr ⟨List.mem_of_getElem? h, g⟩
theorem nw_of (i : Nat) {w : Cond} (h : lw_tbl[i]? = some w) (g : isNest w = true) : w ∈ NW := List.mem_filter.mpr ⟨List.mem_of_getElem? h, g⟩
theorem bw_all (ws : List Cond) (ps : List Nat) (h : ps.map (fun i => lw_tbl[i]?) = ws.map some) (g : ws.all goodWord = true) : ∀ w ∈ ws, w ∈ BW := by
  intro w hw
  have h1 : some w ∈ ps.map (fun i => lw_tbl[i]?) := by rw [h]; exact List.mem_map.mpr ⟨w, hw, rfl⟩
  obtain ⟨i, -, hi⟩ := List.mem_map.mp h1
  exact bw_of i hi (List.all_eq_true.mp g w hw)
theorem bw_good : GoodIn lw_tbl BW := fun w h => ⟨(List.mem_filter.mp h).1, good_of_word (List.mem_filter.mp h).2⟩
theorem bw_tbl {w : Cond} (h : w ∈ BW) : w ∈ lw_tbl := (List.mem_filter.mp h).1
theorem bw_gw {w : Cond} (h : w ∈ BW) : goodWord w = true := (List.mem_filter.mp h).2
def flG (o x ci s : Nat) : Prop := ∃ q : vw_C, vwCl[ci]? = some q ∧ s < q.2.2 ∧ (q.2.1 s).1 = q.1 ∧ Cond.fieldLink (RO o) x q.1 (q.2.1 s).2.1 (q.2.1 s).2.2.1 ∈ BW
def clG (q : vw_C) : Prop := (∀ w ∈ u_ws q.1 q.2.1 q.2.2, w ∈ BW) ∧ ∃ ty0 : Nat → FieldType, (∀ k, k < q.2.2 → parseFieldDescriptor (q.2.1 k).2.2.1 = some (ty0 k)) ∧ ∀ a, a < q.2.2 → ∀ b, b < q.2.2 → a ≠ b → (q.2.1 a).2.1 ≠ (q.2.1 b).2.1
/-- a method's own words -/
def miG (M : MI) : Prop := plainName (mY M).cls = true ∧ Cond.code (mY M) (mB M) (mN M) (mRet M) ∈ BW ∧ Cond.initialized (mY M).cls ∈ BW ∧ ((mY M).cls ≠ "java/lang/invoke/MethodHandle" ∧ (mY M).cls ≠ "java/lang/invoke/VarHandle" ∧ (parseMethodDescriptor (mY M).desc).map (fun d => d.parameters.length) = some (mPar M)) ∧ RO (mO M) = (mY M).cls
/-- a call's words -/
def lkG (o x k : Nat) (M : MI) : Prop := match k with
  | 0 => Cond.methodLink (RO o) x (mY M) ∈ BW ∧ Cond.static (mY M) ∈ BW
  | 1 => Cond.methodLink (RO o) x (mY M) ∈ BW ∧ Cond.instanceMethod (mY M) ∈ BW ∧ Cond.selects (mY M).cls (mY M) (mY M) ∈ BW ∧ (vwCl[mO M]?).map (fun q => q.1) = some (mY M).cls
  | _ => (∃ host, Cond.methodLinkNest (RO o) x (mY M) host ∈ NW) ∧ Cond.static (mY M) ∈ BW
def dcG (M : MI) : Prop := ∀ e ∈ mT M, decode (mB M) e.1 = .ok (e.2.1, e.2.2)
/-- all that the tables must say -/
def WOK : Prop := (∀ o, ∀ q ∈ flk o, flG o q.1 q.2.1 q.2.2) ∧ (∀ o, ∀ q ∈ llk o, Cond.constantLong (RO o) q.1 q.2 ∈ BW) ∧ (∀ o, ∀ q ∈ dlk o, Cond.constantDouble (RO o) q.1 q.2 ∈ BW) ∧
  (∀ o x, (x, 0) ∈ nlk o → Cond.methodLink (RO o) x arraycopyName ∈ BW ∧ Cond.native arraycopyName ∈ BW ∧ Cond.static arraycopyName ∈ BW ∧ Cond.initialized "java/lang/System" ∈ BW) ∧
  (∀ o x, (x, 1) ∈ nlk o → Cond.methodLink (RO o) x ⟨"java/lang/Double", "doubleToRawLongBits", "(D)J"⟩ ∈ BW ∧ Cond.native ⟨"java/lang/Double", "doubleToRawLongBits", "(D)J"⟩ ∈ BW ∧ Cond.static ⟨"java/lang/Double", "doubleToRawLongBits", "(D)J"⟩ ∈ BW ∧ Cond.initialized "java/lang/Double" ∈ BW) ∧
  (∀ o x, (x, 2) ∈ nlk o → Cond.methodLink (RO o) x Lib.Math.max.name ∈ BW ∧ Cond.static Lib.Math.max.name ∈ BW ∧ Cond.initialized "java/lang/Math" ∈ BW ∧ Cond.code Lib.Math.max.name Lib.Math.max.code 2 (some .int) ∈ BW) ∧
  (∀ o x, (x, 3) ∈ nlk o → Cond.methodLink (RO o) x Lib.Math.min.name ∈ BW ∧ Cond.static Lib.Math.min.name ∈ BW ∧ Cond.initialized "java/lang/Math" ∈ BW ∧ Cond.code Lib.Math.min.name Lib.Math.min.code 2 (some .int) ∈ BW) ∧
  (∀ (ci : Nat) (q : vw_C), vwCl[ci]? = some q → clG q) ∧
  (∀ z ∈ ipl, (vwCl[z.1]?.map fun q => decide ((q.2.1 z.2).2.2.2 = false) && decide ((q.2.1 z.2).2.2.1 = "I")) = some true) ∧
  (∀ o, ∀ q ∈ ilk o, Cond.constant (RO o) q.1 q.2 ∈ BW) ∧
  (∀ o, ∀ q ∈ clk o, lkG o q.1 q.2.1 q.2.2 ∧ miG q.2.2)
