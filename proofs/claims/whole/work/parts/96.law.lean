/-! the law's own rows: LW n pc L st m = from there the walk comes to its end, n throws allowed -/
abbrev LC : Type _ := (AC) × (va_G) × (PR → Nat) × (Nat → Prop) × (Nat) × (Nat) × (Nat → Int32) × (Program) × (Launch) × (Env) × (Room) × (State) × (MethodId) × (Array Value) × (List Frame) × (Method) × (Code) × (State → Prop)
def zA (Z : LC) : AC := Z.1
def zD (Z : LC) : va_G := Z.2.1
def zad (Z : LC) : PR → Nat := Z.2.2.1
def zBa (Z : LC) : Nat → Prop := Z.2.2.2.1
def zbs (Z : LC) : Nat := Z.2.2.2.2.1
def zL9 (Z : LC) : Nat := Z.2.2.2.2.2.1
def zxs (Z : LC) : Nat → Int32 := Z.2.2.2.2.2.2.1
def zp (Z : LC) : Program := Z.2.2.2.2.2.2.2.1
def zl (Z : LC) : Launch := Z.2.2.2.2.2.2.2.2.1
def ze (Z : LC) : Env := Z.2.2.2.2.2.2.2.2.2.1
def zR (Z : LC) : Room := Z.2.2.2.2.2.2.2.2.2.2.1
def zst (Z : LC) : State := Z.2.2.2.2.2.2.2.2.2.2.2.1
def zmi (Z : LC) : MethodId := Z.2.2.2.2.2.2.2.2.2.2.2.2.1
def zargs (Z : LC) : Array Value := Z.2.2.2.2.2.2.2.2.2.2.2.2.2.1
def zbelow (Z : LC) : List Frame := Z.2.2.2.2.2.2.2.2.2.2.2.2.2.2.1
def zmeth (Z : LC) : Method := Z.2.2.2.2.2.2.2.2.2.2.2.2.2.2.2.1
def zc (Z : LC) : Code := Z.2.2.2.2.2.2.2.2.2.2.2.2.2.2.2.2.1
def zQ (Z : LC) : State → Prop := Z.2.2.2.2.2.2.2.2.2.2.2.2.2.2.2.2.2
section
def LW (Z : LC) (n pc : Nat) (L : List (Option PV)) (st : List PV) (m : PM) : Prop := ∀ (H : Heap) (locs : List Loc) (ls : Array Slot) (cells slots : Nat), cells + n ≤ (zR Z).cells → slots + 6 * n ≤ (zR Z).slots → HR (zA Z) (zD Z) (zad Z) (zL9 Z) (zxs Z) m H → va_D (zBa Z) (wd (zA Z) (zad Z) m) → va_S (zBa Z) (zst Z).heap H locs → LR (zad Z) 9 L ls → SV st → W (zp Z) (zl Z) (ze Z) (zR Z) (zst Z) (zmi Z) (zargs Z) (zbelow Z) (zmeth Z) (zc Z) H locs cells slots (zQ Z) (F0 (zmi Z) pc ls (st.map (toV (zad Z))))
def LOK (Z : LC) : Prop := WOK ∧ (∀ o, ∀ q ∈ clk o, dcG q.2.2) ∧ zad Z (10, 0, 0) = (zbs Z) ∧ (zl Z).stackTraces = false ∧ Cx (zA Z) (zD Z) (zBa Z) (zbs Z) (zL9 Z) (zxs Z) ML_law (zp Z) (zR Z) (zst Z) (zmi Z) (zargs Z) (zmeth Z) (zc Z) ∧ EX (zBa Z) (zst Z)
variable {Z : LC} {n pc pc2 : Nat} {L L2 : List (Option PV)} {st st2 : List PV} {m m2 : PM}
theorem lw_b (hZ : LOK Z) (k : Nat) (h : sm_many k ML_law (pc, L, st, m) = some (pc2, L2, st2, m2)) (kk : LW Z n pc2 L2 st2 m2) : LW Z n pc L st m := by
  intro H locs ls cells slots h1 h2 hP hD hS hl hs
  exact many_ok hZ.1 hZ.2.2.1 hZ.2.2.2.2.1 (by omega) (by omega) k h hP hD hS hl hs (fun H1 locs1 ls1 a1 a2 a3 a4 a5 => kk H1 locs1 ls1 cells slots h1 h2 a1 a2 a3 a4 a5)
theorem lw_hr (kk : (m.1 10 0 1 0 = nI (zL9 Z) ∧ (zL9 Z) < 2 ^ 31 ∧ ∀ i, i < (zL9 Z) → m.1 10 0 0 i = (zxs Z) i) → LW Z n pc L st m) : LW Z n pc L st m := fun H locs ls cells slots h1 h2 hP => kk hP.2 H locs ls cells slots h1 h2 hP
theorem lw_t {c : Prop} [Decidable c] {t f : Nat} (h : c) (k : LW Z n t L st m) : LW Z n (if c then t else f) L st m := by rw [if_pos h]; exact k
theorem lw_f {c : Prop} [Decidable c] {t f : Nat} (h : ¬ c) (k : LW Z n f L st m) : LW Z n (if c then t else f) L st m := by rw [if_neg h]; exact k
theorem lw_le {k : Nat} (h : k ≤ n) (kk : LW Z k pc L st m) : LW Z n pc L st m := fun H locs ls cells slots h1 h2 => kk H locs ls cells slots (by omega) (by omega)
theorem lw_iald (hZ : LOK Z) {r : List PV} {t k g : Nat} {j : Int32} (N : Nat) (h : asc (mT ML_law) pc = some (.iaload, 1)) (hN : ilen m t k = some N) (hj : ¬ (j < 0 ∨ N ≤ j.toNatClampNeg)) (kk : LW Z n (pc + 1) L (vI (m.1 t k g j.toNatClampNeg) :: r) m) : LW Z n pc L (vI j :: vR t k g :: r) m := by
  refine lw_b hZ 1 (pc2 := pc + 1) (L2 := L) (st2 := vI (m.1 t k g j.toNatClampNeg) :: r) (m2 := m) ?_ kk
  have e : sm_one ML_law pc L (vI j :: vR t k g :: r) m = some (pc + 1, L, vI (m.1 t k g j.toNatClampNeg) :: r, m) := by
    unfold sm_one
    rw [h]
    have e2 : sm_e (mO ML_law) .iaload 1 pc L (vI j :: vR t k g :: r) m = some (pc + 1, L, vI (m.1 t k g j.toNatClampNeg) :: r, m) := by
      unfold sm_e
      simp only [hN, if_neg hj]
    exact e2
  show (match sm_one ML_law pc L (vI j :: vR t k g :: r) m with | some s2 => sm_many 0 ML_law s2 | none => none) = _
  rw [e]
  rfl
/-- a number of the script -/
theorem lw_scr (hZ : LOK Z) {r : List PV} {j : Nat} (h : asc (mT ML_law) pc = some (.iaload, 1)) (hj : j < (zL9 Z)) (kk : LW Z n (pc + 1) L (vI (zxs Z j) :: r) m) : LW Z n pc L (vI (nI j) :: vR 10 0 0 :: r) m := by
  refine lw_hr (fun ⟨e1, e2, e3⟩ => ?_)
  have hc : (nI j).toNatClampNeg = j := nI_clamp (by omega)
  refine lw_iald hZ (zL9 Z) h (show some (m.1 10 0 1 0).toNatClampNeg = some (zL9 Z) by rw [e1, nI_clamp e2]) ?_ ?_
  · rw [hc]
    rintro (q | q)
    · exact nI_pos (by omega) q
    · omega
  · rw [hc, e3 j hj]
    exact kk
theorem lw_call (hZ : LOK Z) {M2 : MI} {x t k g0 : Nat} (as : List PV) {rest : List PV} {v : Option PV} (hr : Rn M2 (vR t k g0 :: as) m v m2) (h1 : asc (mT ML_law) pc = some (.invokevirtual x, 3)) (hc : asc (clk 6) x = some (1, M2)) (ht : tcl t = some (mO M2)) (hn : as.length = mPar M2) (hfit : sm_fit ML_law M2 (vR t k g0 :: as) rest = true)
    (hst : st = as.reverse ++ vR t k g0 :: rest) (kk : LW Z n (pc + 3) L (v.toList ++ rest) m2) : LW Z n pc L st m := by
  subst hst
  intro H locs ls cells slots q1 q2 hP hD hS hl hs
  exact cal_ok (M := ML_law) hZ.1 hZ.2.1 hZ.2.2.1 hZ.2.2.2.2.1 (by omega) (by omega) hP hD hS hl hs h1 (asc_mem hc) ht hn hfit hr (fun H1 locs1 a1 a2 a3 a4 => kk H1 locs1 ls cells slots q1 q2 a1 a2 a3 hl a4)
/-- a wrapper called -/
def wlG (x : Nat) (M : MI) (hh : List (Nat × Nat × Nat × Nat)) : Bool := (tblB (Cond.codeWith (mY M) (mB M) (mN M) (mRet M) hh) && goodWord (Cond.codeWith (mY M) (mB M) (mN M) (mRet M) hh)) && (tblB (Cond.methodLink "HotPanLocksLaw" x (mY M)) && goodWord (Cond.methodLink "HotPanLocksLaw" x (mY M))) && (tblB (Cond.static (mY M)) && goodWord (Cond.static (mY M))) && (tblB (Cond.initialized (mY M).cls) && goodWord (Cond.initialized (mY M).cls)) && decide ((mY M).cls ≠ "java/lang/invoke/MethodHandle" ∧ (mY M).cls ≠ "java/lang/invoke/VarHandle" ∧ (parseMethodDescriptor (mY M).desc).map (fun d => d.parameters.length) = some (mPar M))
theorem lw_wrap (hZ : LOK Z) {M : MI} {hh : List (Nat × Nat × Nat × Nat)} {x : Nat} {as : List PV} {m3 : PM} {r : Int32} (hg : wlG x M hh = true) (hsa : SV as) (hn : as.length = mPar M) (hfr : mFr M + 1 ≤ 11 ∧ 8 + (mN M + 11) + mLo M ≤ 267)
    (hM : va_D (zBa Z) (wd (zA Z) (zad Z) m) → vx_Met (zl Z) (mY M) (mWsW M hh) (mRmX M) (mPcX (zA Z) (zD Z) (zad Z) (zBa Z) (zbs Z) (zL9 Z) (zxs Z) as m) (Qc0 (zA Z) (zD Z) (zad Z) (zBa Z) (zL9 Z) (zxs Z) (some (vI r)) m3) (fun _ _ _ => False) 1 6 (zBa Z)) (h1 : asc (mT ML_law) pc = some (.invokestatic x, 3)) (hst : st = as.reverse)
    (kk : LW Z n (pc + 3) L [vI r] m3) : LW Z (n + 1) pc L st m := by
  subst hst
  intro H locs ls cells slots q1 q2 hP hD hS hl hs
  obtain ⟨hw, hdcs, had, hlt, C0, hE⟩ := id hZ
  obtain ⟨hx, hb, hml, hown, hts, hr, hlk, hRf, hRl, h1f, h30, hdc, hT⟩ := id C0
  unfold wlG at hg
  simp only [Bool.and_eq_true, decide_eq_true_eq] at hg
  obtain ⟨⟨⟨⟨g1, g2⟩, g3⟩, g4⟩, g5⟩ := hg
  have b1 := tblB_bw (w := Cond.codeWith (mY M) (mB M) (mN M) (mRet M) hh) (by rw [g1.1, g1.2]; rfl)
  have b2 := tblB_bw (w := Cond.methodLink "HotPanLocksLaw" x (mY M)) (by rw [g2.1, g2.2]; rfl)
  have b3 := tblB_bw (w := Cond.static (mY M)) (by rw [g3.1, g3.2]; rfl)
  have b4 := tblB_bw (w := Cond.initialized (mY M).cls) (by rw [g4.1, g4.2]; rfl)
  have Sx : CallFix (zp Z) (zmi Z) (zc Z) (mB ML_law) (mN ML_law) (zst Z) (zargs Z) BW "HotPanLocksLaw" := ⟨hx, hb, hml, hown, hts⟩
  have hp := pcx_pre (as := as) hT hE hS hP
  have hRR : (mRmX M).frames + 1 ≤ (zR Z).frames ∧ 8 + (mN M + 11) + (mRmX M).locals ≤ (zR Z).locals := ⟨Nat.le_trans hfr.1 hRf, Nat.le_trans hfr.2 hRl⟩
  have hgood : GoodIn BW (va_wsS "HotPanLocksLaw" x (mY M) (mWsW M hh)) := good_in (fun w hw2 => by
    unfold va_wsS at hw2
    rcases List.mem_append.mp hw2 with q | q
    · simp only [List.mem_cons, List.not_mem_nil, or_false] at q
      rcases q with rfl | rfl | rfl
      · exact b2
      · exact b3
      · exact b4
    · rcases List.mem_cons.mp q with rfl | q
      · exact b1
      · exact q)
  have cw := vx_cwSW (R := (zR Z)) (own := "HotPanLocksLaw") (index := x) (y := mY M) (bytes := mB M) (maxL := mN M) (ret := mRet M) (hh := hh) (ws := mWsW M hh) (rm := mRmX M) (mc := 1) (ms := 6) (mPar M) hts hgood rfl rfl rfl g5 hRR
  have hroom : 2 * (F0 (zmi Z) pc ls (as.reverse.map (toV (zad Z)))).monitorRoom + ((([] : List PV).map (toV (zad Z))).map fun v => v.category).sum ≤ 8 := lv_room (by rw [map_cat]; decide)
  refine xcall_row (A := zA Z) (D := zD Z) (ad := zad Z) (Ba := zBa Z) (L9 := zL9 Z) (xs := zxs Z) (o := .inl (some (vI r))) (m2 := m3) (a := (as.map (toV (zad Z))).toArray) (rest := []) (mc := 1) (ms := 6) (vx_runSX (As := as.map (toV (zad Z))) (rest := []) Sx (hM hD) cw hp rfl ?_ hl.2.1.1 ?_ hroom (dc_at hdc h1) ⟨by omega, by omega⟩) hS ?_ ?_
  · rw [List.length_map]; exact hn
  · show as.reverse.map (toV (zad Z)) = (as.map (toV (zad Z))).reverse ++ []
    rw [List.append_nil, List.map_reverse]
  · intro v hv H1 locs1 a1 a2 a6 a3
    cases hv
    exact kk H1 locs1 ls (cells + 1) (slots + 6) (by omega) (by omega) a1 a2 a3 hl (fun u hu => by rw [List.mem_singleton.mp hu]; rfl)
  · intro y hy
    cases hy
end
