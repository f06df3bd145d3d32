/-! the law's first rows: class and arrays are made -/
section
variable {A : AC} {D : va_G} {Ba : Nat → Prop}
variable {p : Program} {l : Launch} {e : Env} {R : Room} {s : State} {mi : MethodId} {args : Array Value} {below : List Frame} {meth : Method} {c : Code} {H : Heap} {locs : List Loc} {cells slots : Nat} {Q : State → Prop} {ls : Array Slot}
set_option maxRecDepth 100000 in
theorem nw_6 : nwB 6 42 4 = true := by decide +kernel
set_option maxRecDepth 100000 in
theorem ci_6 : ciB 6 88 MX4_init = true := by decide +kernel
def arW (A : AC) (q0 q1 q2 q3 q4 q5 q6 q7 q8 : Nat) : va_W := [(q0, .inl (A.1, 7, .inl (fun _ => 0))), (q1, .inl (A.1, 30, .inl (fun _ => 0))), (q2, .inl (A.1, 36, .inl (fun _ => 0))), (q3, .inl (A.1, 6, .inl (fun _ => 0))), (q4, .inl (A.1, 6, .inl (fun _ => 0))), (q5, .inl (A.1, 5, .inl (fun _ => 0))), (q6, .inl (A.1, 5, .inl (fun _ => 0))), (q7, .inl (A.1, 5, .inl (fun _ => 0))), (q8, .inl (A.1, 5, .inl (fun _ => 0)))]
def alW (A : AC) (x s0 : Nat) (n0 b0 : Nat → Nat) (s1 : Nat) (n1 b1 : Nat → Nat) (h ha : Nat) (L : List ST3) (t tq tb q0 q1 q2 q3 q4 q5 q6 q7 q8 : Nat) : va_W := hpW A x s0 n0 b0 s1 n1 b1 h ha L t tq tb ++ arW A q0 q1 q2 q3 q4 q5 q6 q7 q8
set_option maxHeartbeats 4000000 in
theorem law_made (hw : WOK) (hdcs : ∀ o, ∀ q ∈ clk o, dcG q.2.2) (hdc1 : dcG MX1_init) (hdc2 : dcG MX2_init) (hdc0 : dcG MX0_init) (hdc3 : dcG MX3_init) (hdc4 : dcG MX4_init) (C0 : CxC A D Ba ML_law p s mi args meth c) (hR : 10 ≤ R.frames ∧ 300 ≤ R.locals ∧ 300 ≤ R.cells ∧ 5000 ≤ R.slots) {b : Nat} (hl : lv_has ls 12 [(0, .ref b)])
    (kk : ∀ (x s0 : Nat) (n0 b0 : Nat → Nat) (s1 : Nat) (n1 b1 : Nat → Nat) (h ha : Nat) (L : List ST3) (t tq tb q0 q1 q2 q3 q4 q5 q6 q7 q8 : Nat) (H1 : Heap) (locs1 : List Loc) (ls1 : Array Slot), L.length = 6 → va_P D vwCl (alW A x s0 n0 b0 s1 n1 b1 h ha L t tq tb q0 q1 q2 q3 q4 q5 q6 q7 q8) H1 → va_D Ba (alW A x s0 n0 b0 s1 n1 b1 h ha L t tq tb q0 q1 q2 q3 q4 q5 q6 q7 q8) → va_S Ba s.heap H1 locs1 → lv_has ls1 12 [(10, .ref q8), (9, .ref q7), (8, .ref q6), (7, .ref q5), (6, .ref q4), (5, .ref q3), (4, .ref q2), (3, .ref q1), (2, .ref q0), (1, .ref x), (0, .ref b)] → W p l e R s mi args below meth c H1 locs1 199 1797 Q (F0 mi 56 ls1 [])) : W p l e R s mi args below meth c s.heap [] 0 0 Q (F0 mi 0 ls []) := by
  obtain ⟨hx, hb, hml, hown, hts, hr, hlk, hnm, hdc, hT⟩ := id C0
  have hS : va_S Ba s.heap s.heap [] := va_S.rf
  have hP : va_P D vwCl [] s.heap := fun k q h => by simp at h
  have hD : va_D Ba [] := ⟨fun i j p q h => by simp at h, fun k q h => by simp at h⟩
  refine k_new hw C0 hP hD hS (ci := 4) (show vwCl[4]? = some (RX4, TX4, 4) from rfl) nw_6 tyX4 tyX4_ok [.null, .null, .null, .null] (fun j hj => by rcases (show j = 0 ∨ j = 1 ∨ j = 2 ∨ j = 3 by omega) with rfl | rfl | rfl | rfl <;> rfl) (by omega) (by omega) rfl (fun x H1 hP hD hS => ?_)
  refine lv_dup hx hb (dc_at hdc rfl) rfl ?_
  refine k_ctor (M2 := MX4_init) (As := []) (rest := [.ref x]) C0 hP hS (met_hot (l := l) hw hdcs hdc1 hdc2 hdc0 hdc3 hdc4 hD) ci_6 rfl ⟨Nat.le_trans (show (5 : Nat) ≤ 10 by decide) hR.1, Nat.le_trans (show (140 : Nat) ≤ 300 by decide) hR.2.1⟩ hl.1 (show (1 : Nat) ≤ 8 by decide) ⟨by omega, by omega⟩ rfl (fun ws1 H2 locs2 ⟨s0, n0, b0, s1, n1, b1, h, ha, L, t, tq, tb, hL, e1⟩ hP hD hS => ?_)
  subst e1
  refine lv_astore_n (k := 1) (lv' := [(1, .ref x), (0, .ref b)]) hx hb (dc_at hdc rfl) rfl hl (by decide) rfl (fun ls hl => ?_)
  refine lv_bipush (n := 7) (v := nI 7) hx hb (dc_at hdc rfl) rfl ?_
  refine k_newa C0 ar_int hP hD hS (N := 7) rfl (by decide) (by omega) (by omega) rfl (fun q0 H3 hP hD hS => ?_)
  refine lv_astore_n (k := 2) (lv' := [(2, .ref q0), (1, .ref x), (0, .ref b)]) hx hb (dc_at hdc rfl) rfl hl (by decide) rfl (fun ls hl => ?_)
  refine lv_bipush (n := 30) (v := nI 30) hx hb (dc_at hdc rfl) rfl ?_
  refine k_newa C0 ar_int hP hD hS (N := 30) rfl (by decide) (by omega) (by omega) rfl (fun q1 H4 hP hD hS => ?_)
  refine lv_astore_n (k := 3) (lv' := [(3, .ref q1), (2, .ref q0), (1, .ref x), (0, .ref b)]) hx hb (dc_at hdc rfl) rfl hl (by decide) rfl (fun ls hl => ?_)
  refine lv_bipush (n := 36) (v := nI 36) hx hb (dc_at hdc rfl) rfl ?_
  refine k_newa C0 ar_int hP hD hS (N := 36) rfl (by decide) (by omega) (by omega) rfl (fun q2 H5 hP hD hS => ?_)
  refine lv_astore (i := 4) (lv' := [(4, .ref q2), (3, .ref q1), (2, .ref q0), (1, .ref x), (0, .ref b)]) hx hb (dc_at hdc rfl) hl (by decide) rfl (fun ls hl => ?_)
  refine lv_bipush (n := 6) (v := nI 6) hx hb (dc_at hdc rfl) rfl ?_
  refine k_newa C0 ar_int hP hD hS (N := 6) rfl (by decide) (by omega) (by omega) rfl (fun q3 H6 hP hD hS => ?_)
  refine lv_astore (i := 5) (lv' := [(5, .ref q3), (4, .ref q2), (3, .ref q1), (2, .ref q0), (1, .ref x), (0, .ref b)]) hx hb (dc_at hdc rfl) hl (by decide) rfl (fun ls hl => ?_)
  refine lv_bipush (n := 6) (v := nI 6) hx hb (dc_at hdc rfl) rfl ?_
  refine k_newa C0 ar_int hP hD hS (N := 6) rfl (by decide) (by omega) (by omega) rfl (fun q4 H7 hP hD hS => ?_)
  refine lv_astore (i := 6) (lv' := [(6, .ref q4), (5, .ref q3), (4, .ref q2), (3, .ref q1), (2, .ref q0), (1, .ref x), (0, .ref b)]) hx hb (dc_at hdc rfl) hl (by decide) rfl (fun ls hl => ?_)
  refine lv_iconst (n := 5) (v := nI 5) hx hb (dc_at hdc rfl) rfl ?_
  refine k_newa C0 ar_int hP hD hS (N := 5) rfl (by decide) (by omega) (by omega) rfl (fun q5 H8 hP hD hS => ?_)
  refine lv_astore (i := 7) (lv' := [(7, .ref q5), (6, .ref q4), (5, .ref q3), (4, .ref q2), (3, .ref q1), (2, .ref q0), (1, .ref x), (0, .ref b)]) hx hb (dc_at hdc rfl) hl (by decide) rfl (fun ls hl => ?_)
  refine lv_iconst (n := 5) (v := nI 5) hx hb (dc_at hdc rfl) rfl ?_
  refine k_newa C0 ar_int hP hD hS (N := 5) rfl (by decide) (by omega) (by omega) rfl (fun q6 H9 hP hD hS => ?_)
  refine lv_astore (i := 8) (lv' := [(8, .ref q6), (7, .ref q5), (6, .ref q4), (5, .ref q3), (4, .ref q2), (3, .ref q1), (2, .ref q0), (1, .ref x), (0, .ref b)]) hx hb (dc_at hdc rfl) hl (by decide) rfl (fun ls hl => ?_)
  refine lv_iconst (n := 5) (v := nI 5) hx hb (dc_at hdc rfl) rfl ?_
  refine k_newa C0 ar_int hP hD hS (N := 5) rfl (by decide) (by omega) (by omega) rfl (fun q7 H10 hP hD hS => ?_)
  refine lv_astore (i := 9) (lv' := [(9, .ref q7), (8, .ref q6), (7, .ref q5), (6, .ref q4), (5, .ref q3), (4, .ref q2), (3, .ref q1), (2, .ref q0), (1, .ref x), (0, .ref b)]) hx hb (dc_at hdc rfl) hl (by decide) rfl (fun ls hl => ?_)
  refine lv_iconst (n := 5) (v := nI 5) hx hb (dc_at hdc rfl) rfl ?_
  refine k_newa C0 ar_int hP hD hS (N := 5) rfl (by decide) (by omega) (by omega) rfl (fun q8 H11 hP hD hS => ?_)
  refine lv_astore (i := 10) (lv' := [(10, .ref q8), (9, .ref q7), (8, .ref q6), (7, .ref q5), (6, .ref q4), (5, .ref q3), (4, .ref q2), (3, .ref q1), (2, .ref q0), (1, .ref x), (0, .ref b)]) hx hb (dc_at hdc rfl) hl (by decide) rfl (fun ls hl => ?_)
  simp only [List.append_assoc, List.cons_append, List.nil_append] at hP hD
  exact kk x s0 n0 b0 s1 n1 b1 h ha L t tq tb q0 q1 q2 q3 q4 q5 q6 q7 q8 H11 locs2 ls hL hP hD hS hl
end
