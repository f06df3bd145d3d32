/-! the law's first rows: class, model and the cell for answers are made -/
section
variable {A : AC} {D : va_G} {Ba : Nat → Prop}
variable {p : Program} {l : Launch} {e : Env} {R : Room} {s : State} {mi : MethodId} {args : Array Value} {below : List Frame} {meth : Method} {c : Code} {H : Heap} {locs : List Loc} {cells slots : Nat} {Q : State → Prop} {ls : Array Slot}
theorem k_newl {M : MI} {ws : va_W} {pc : Nat} {rest : List Value} (C0 : CxC A D Ba M p s mi args meth c) (hB : (tblB (Cond.arrayClass .long) && goodWord (Cond.arrayClass .long)) = true) (hP : va_P D vwCl ws H) (hD : va_D Ba ws) (hS : va_S Ba s.heap H locs) {n : Int32} {N : Nat} (hn : n = nI N) (hN : N < 65536) (hcells : cells + 1 ≤ R.cells) (hslots : slots + N ≤ R.slots) (h : asc (mT M) pc = some (.newarray .long, 2))
    (kk : ∀ (q : Nat) (H1 : Heap), va_P D vwCl (ws ++ [(q, .inl (A.2.1, N, .inr (.inl (fun _ => 0))))]) H1 → va_D Ba (ws ++ [(q, .inl (A.2.1, N, .inr (.inl (fun _ => 0))))]) → va_S Ba s.heap H1 locs → W p l e R s mi args below meth c H1 locs (cells + 1) (slots + N) Q (F0 mi (pc + 2) ls (.ref q :: rest))) : W p l e R s mi args below meth c H locs cells slots Q (F0 mi pc ls (.int n :: rest)) := by
  obtain ⟨hx, hb, hml, hown, hts, hr, hlk, hnm, hdc, hT⟩ := C0
  subst hn
  refine va_newa (atype := .long) (ty := .long) (N' := N) (a0 := (N, .inr (.inl (fun _ => 0)))) hx hb (hts _ (tblB_bw hB)) rfl hT.1 hP hD hS hT.2.2.1 (fun cA => rfl) (nI_pos (by omega)) (nI_clamp (by omega)) (by show N * 8 ≤ _; omega) hcells hslots (dc_at hdc h) (fun q cA H1 k1 k2 k3 k4 => ?_)
  have e1 := (k1.2 3 (cA, .long) rfl).2
  have e2 := (hT.1.2 1 (A.2.1, .long) rfl).2
  have e3 := ra_long e1 e2
  subst e3
  exact kk q H1 k2 k3 k4
set_option maxRecDepth 100000 in
theorem ar_long : (tblB (Cond.arrayClass .long) && goodWord (Cond.arrayClass .long)) = true := by decide +kernel
set_option maxRecDepth 100000 in
theorem nw_6 : (nwB 6 8 4 && nwB 6 81 5) = true := by decide +kernel
set_option maxRecDepth 100000 in
theorem ci_6 : (ciB 6 80 MX4_init && ciB 6 83 MX5_init) = true := by decide +kernel
def alW (A : AC) (x s0 : Nat) (n0 b0 : Nat → Nat) (s1 : Nat) (n1 b1 : Nat → Nat) (h ha : Nat) (L : List ST3) (t tq tb md z0 z1 z2 z3 z4 out : Nat) : va_W := hpW A x s0 n0 b0 s1 n1 b1 h ha L t tq tb ++ (mdW A md z0 z1 z2 z3 z4 ++ [(out, .inl (A.2.1, 1, .inr (.inl (fun _ => 0))))])
set_option maxHeartbeats 4000000 in
theorem law_made (hw : WOK) (hdcs : ∀ o, ∀ q ∈ clk o, dcG q.2.2) (hdc1 : dcG MX1_init) (hdc2 : dcG MX2_init) (hdc0 : dcG MX0_init) (hdc3 : dcG MX3_init) (hdc4 : dcG MX4_init) (hdc5 : dcG MX5_init) (C0 : CxC A D Ba ML_law p s mi args meth c) (hR : 12 ≤ R.frames ∧ 300 ≤ R.locals ∧ 200 ≤ R.cells ∧ 5000 ≤ R.slots) {b : Nat} (hl : lv_has ls 9 [(0, .ref b)])
    (kk : ∀ (x s0 : Nat) (n0 b0 : Nat → Nat) (s1 : Nat) (n1 b1 : Nat → Nat) (h ha : Nat) (L : List ST3) (t tq tb md z0 z1 z2 z3 z4 out : Nat) (H1 : Heap) (locs1 : List Loc) (ls1 : Array Slot), L.length = 6 → va_P D vwCl (alW A x s0 n0 b0 s1 n1 b1 h ha L t tq tb md z0 z1 z2 z3 z4 out) H1 → va_D Ba (alW A x s0 n0 b0 s1 n1 b1 h ha L t tq tb md z0 z1 z2 z3 z4 out) → va_S Ba s.heap H1 locs1 → lv_has ls1 9 [(4, .int 0), (3, .ref out), (2, .ref md), (1, .ref x), (0, .ref b)] → W p l e R s mi args below meth c H1 locs1 197 4713 Q (F0 mi 23 ls1 [])) : W p l e R s mi args below meth c s.heap [] 0 0 Q (F0 mi 0 ls []) := by
  obtain ⟨hx, hb, hml, hown, hts, hr, hlk, hnm, hdc, hT⟩ := id C0
  have hS : va_S Ba s.heap s.heap [] := va_S.rf
  have hP : va_P D vwCl [] s.heap := fun k q h => by simp at h
  have hD : va_D Ba [] := ⟨fun i j p q h => by simp at h, fun k q h => by simp at h⟩
  have nw := nw_6
  have ci := ci_6
  rw [Bool.and_eq_true] at nw ci
  refine k_new hw C0 hP hD hS (ci := 4) (show vwCl[4]? = some (RX4, TX4, 4) from rfl) nw.1 tyX4 tyX4_ok [.null, .null, .null, .null] (fun j hj => by rcases (show j = 0 ∨ j = 1 ∨ j = 2 ∨ j = 3 by omega) with rfl | rfl | rfl | rfl <;> rfl) (by omega) (by omega) rfl (fun x H1 hP hD hS => ?_)
  refine lv_dup hx hb (dc_at hdc rfl) rfl ?_
  refine k_ctor (M2 := MX4_init) (As := []) (rest := [.ref x]) C0 hP hS (met_hot (l := l) hw hdcs hdc1 hdc2 hdc0 hdc3 hdc4 hD) ci.1 rfl ⟨Nat.le_trans (show (5 : Nat) ≤ 12 by decide) hR.1, Nat.le_trans (show (140 : Nat) ≤ 300 by decide) hR.2.1⟩ hl.1 (show (1 : Nat) ≤ 8 by decide) ⟨by omega, by omega⟩ rfl (fun ws1 H2 locs2 ⟨s0, n0, b0, s1, n1, b1, h, ha, L, t, tq, tb, hL, e1⟩ hP hD hS => ?_)
  subst e1
  refine lv_astore_n (k := 1) (lv' := [(1, .ref x), (0, .ref b)]) hx hb (dc_at hdc rfl) rfl hl (by decide) rfl (fun ls hl => ?_)
  refine k_new hw C0 hP hD hS (ci := 5) (show vwCl[5]? = some (RX5, TX5, 12) from rfl) nw.2 tyX5 tyX5_ok mdF (fun j hj => by rcases (show j = 0 ∨ j = 1 ∨ j = 2 ∨ j = 3 ∨ j = 4 ∨ j = 5 ∨ j = 6 ∨ j = 7 ∨ j = 8 ∨ j = 9 ∨ j = 10 ∨ j = 11 by omega) with rfl | rfl | rfl | rfl | rfl | rfl | rfl | rfl | rfl | rfl | rfl | rfl <;> rfl) (by omega) (by omega) rfl (fun md H3 hP hD hS => ?_)
  refine lv_dup hx hb (dc_at hdc rfl) rfl ?_
  refine k_ctor (M2 := MX5_init) (As := []) (rest := [.ref md]) C0 hP hS (met_model (l := l) hw hdc5 hD) ci.2 rfl ⟨Nat.le_trans (show (2 : Nat) ≤ 12 by decide) hR.1, Nat.le_trans (show (50 : Nat) ≤ 300 by decide) hR.2.1⟩ hl.1 (show (1 : Nat) ≤ 8 by decide) ⟨by omega, by omega⟩ rfl (fun ws1 H4 locs4 ⟨z0, z1, z2, z3, z4, e1⟩ hP hD hS => ?_)
  subst e1
  refine lv_astore_n (k := 2) (lv' := [(2, .ref md), (1, .ref x), (0, .ref b)]) hx hb (dc_at hdc rfl) rfl hl (by decide) rfl (fun ls hl => ?_)
  refine lv_iconst (n := 1) (v := nI 1) hx hb (dc_at hdc rfl) rfl ?_
  refine k_newl C0 ar_long hP hD hS (N := 1) rfl (by decide) (by omega) (by omega) rfl (fun out H5 hP hD hS => ?_)
  refine lv_astore_n (k := 3) (lv' := [(3, .ref out), (2, .ref md), (1, .ref x), (0, .ref b)]) hx hb (dc_at hdc rfl) rfl hl (by decide) rfl (fun ls hl => ?_)
  refine lv_iconst (n := 0) (v := 0) hx hb (dc_at hdc rfl) rfl ?_
  refine lv_istore (i := 4) (lv' := [(4, .int 0), (3, .ref out), (2, .ref md), (1, .ref x), (0, .ref b)]) hx hb (dc_at hdc rfl) hl (by decide) rfl (fun ls hl => ?_)
  rw [List.append_assoc] at hP hD
  exact kk x s0 n0 b0 s1 n1 b1 h ha L t tq tb md z0 z1 z2 z3 z4 out H5 locs4 ls hL hP hD hS hl
end
