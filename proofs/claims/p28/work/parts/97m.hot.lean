/-! HotPanLocks made -/
section
variable {A : AC} {D : va_G} {Ba : Nat → Prop} {l : Launch}
def MX4_init : MI := (yX4_init, cX4_init, 1, none, 4, 0, 4, 120, TX4_init)
set_option maxRecDepth 100000 in
theorem oi_4 : oiB 4 1 = true := by decide +kernel
set_option maxRecDepth 100000 in
theorem nw_4 : (nwB 4 7 2 && nwB 4 19 0 && nwB 4 26 3) = true := by decide +kernel
set_option maxRecDepth 100000 in
theorem ci_4 : (ciB 4 9 MX2_init && ciB 4 21 MX0_init && cnB 4 28 MX3_init) = true := by decide +kernel
def hpW (A : AC) (a s0 : Nat) (n0 b0 : Nat → Nat) (s1 : Nat) (n1 b1 : Nat → Nat) (h ha : Nat) (L : List ST3) (t tq tb : Nat) : va_W := (a, .inr (4, [.ref s0, .ref s1, .ref h, .ref t])) :: (stW A s0 n0 b0 ++ (stW A s1 n1 b1 ++ ((h, .inr (0, [.ref ha, .int 0, .int 0])) :: (ha, .inl (A.2.2, 6, .inr (.inr (.inr (.inr (stF L)))))) :: (stL A L ++ [(t, .inr (3, [.ref tq, .int 0])), (tq, .inr (1, [.ref tb])), (tb, .inl (A.1, 60, .inl (fun _ => 0)))]))))
set_option maxHeartbeats 4000000 in
theorem met_hot (hw : WOK) (hdcs : ∀ o, ∀ q ∈ clk o, dcG q.2.2) (hdc1 : dcG MX1_init) (hdc2 : dcG MX2_init) (hdc0 : dcG MX0_init) (hdc3 : dcG MX3_init) (hdc : dcG MX4_init) {a : Nat} {w : va_W} (hD : va_D Ba (w ++ [(a, .inr (4, [.null, .null, .null, .null]))])) : Met l (mY MX4_init) (cWs MX4_init) (cRm MX4_init 189 1688) (cPw A D Ba [.ref a] (w ++ [(a, .inr (4, [.null, .null, .null, .null]))])) (cQw D Ba (fun ws => ∃ s0 n0 b0 s1 n1 b1 h ha L t tq tb, L.length = 6 ∧ ws = w ++ hpW A a s0 n0 b0 s1 n1 b1 h ha L t tq tb)) 189 1688 Ba := by
  refine met_ctor (M := MX4_init) rfl rfl hdc (show (1 : Nat) ≤ 1 by decide) rfl ?_
  intro p e s mi below meth c ls C0 hP hl
  obtain ⟨hx, hb, hml, hown, hts, hr, hlk, hnm, _, hT⟩ := id C0
  have hl : lv_has ls 1 [(0, .ref a)] := hl
  have hS : va_S Ba s.heap s.heap [] := va_S.rf
  have nw := nw_4
  have ci := ci_4
  rw [Bool.and_eq_true, Bool.and_eq_true] at nw ci
  have hfs : ∀ j, j < 12 → defaultValue (tyX2 j) = vp_V [.null, .null, .null, .null, .null, .null, .null, .null, .null, .null, .null, .int 0] j := fun j hj => by rcases (show j = 0 ∨ j = 1 ∨ j = 2 ∨ j = 3 ∨ j = 4 ∨ j = 5 ∨ j = 6 ∨ j = 7 ∨ j = 8 ∨ j = 9 ∨ j = 10 ∨ j = 11 by omega) with rfl | rfl | rfl | rfl | rfl | rfl | rfl | rfl | rfl | rfl | rfl | rfl <;> rfl
  refine lv_aload_n (k := 0) hx hb (dc_at hdc rfl) rfl (lv_at hl 0 rfl) ?_
  refine k_oinit C0 (x := 1) oi_4 rfl hl.1 (show (1 : Nat) ≤ 4 by decide) (show (0 + 12 : Nat) ≤ 120 by decide) ?_
  -- the state
  refine lv_aload_n (k := 0) hx hb (dc_at hdc rfl) rfl (lv_at hl 0 rfl) ?_
  refine k_new hw C0 hP hD hS (ci := 2) (show vwCl[2]? = some (RX2, TX2, 12) from rfl) nw.1.1 tyX2 tyX2_ok [.null, .null, .null, .null, .null, .null, .null, .null, .null, .null, .null, .int 0] hfs (show (1 : Nat) ≤ 189 by decide) (show (12 : Nat) ≤ 1688 by decide) rfl (fun s0 H2 hP hD hS => ?_)
  refine lv_dup hx hb (dc_at hdc rfl) rfl ?_
  refine k_ctor (M2 := MX2_init) (As := []) (rest := [.ref s0, .ref a]) C0 hP hS (met_state (l := l) hw hdcs hdc1 hdc2 hD) ci.1.1 rfl ⟨show (3 : Nat) ≤ 4 by decide, show (81 : Nat) ≤ 120 by decide⟩ hl.1 (show (2 : Nat) ≤ 8 by decide) ⟨show (23 : Nat) ≤ 189 by decide, show (202 : Nat) ≤ 1688 by decide⟩ rfl (fun ws1 H3 locs3 ⟨n0, b0, e1⟩ hP hD hS => ?_)
  subst e1
  rw [List.append_assoc] at hP hD
  refine k_put hw C0 hP hD hS (w.length + 0) (ci := 4) (k := 0) (.object "HotPanLocks$State") (get_off rfl) (show asc (flk 4) 10 = some (4, 0) from rfl) rfl (by decide +kernel) rfl rfl (Nat.le_of_ble_eq_true rfl) rfl (fun H4 locs4 hP hD hS => ?_)
  rw [set_off] at hP hD
  have hP : va_P D vwCl (w ++ ((a, .inr (4, [.ref s0, .null, .null, .null])) :: stW A s0 n0 b0)) H4 := hP
  have hD : va_D Ba (w ++ ((a, .inr (4, [.ref s0, .null, .null, .null])) :: stW A s0 n0 b0)) := hD
  -- the trial
  refine lv_aload_n (k := 0) hx hb (dc_at hdc rfl) rfl (lv_at hl 0 rfl) ?_
  refine k_new hw C0 hP hD hS (ci := 2) (show vwCl[2]? = some (RX2, TX2, 12) from rfl) nw.1.1 tyX2 tyX2_ok [.null, .null, .null, .null, .null, .null, .null, .null, .null, .null, .null, .int 0] hfs (show (24 : Nat) ≤ 189 by decide) (show (214 : Nat) ≤ 1688 by decide) rfl (fun s1 H5 hP hD hS => ?_)
  refine lv_dup hx hb (dc_at hdc rfl) rfl ?_
  refine k_ctor (M2 := MX2_init) (As := []) (rest := [.ref s1, .ref a]) C0 hP hS (met_state (l := l) hw hdcs hdc1 hdc2 hD) ci.1.1 rfl ⟨show (3 : Nat) ≤ 4 by decide, show (81 : Nat) ≤ 120 by decide⟩ hl.1 (show (2 : Nat) ≤ 8 by decide) ⟨show (46 : Nat) ≤ 189 by decide, show (404 : Nat) ≤ 1688 by decide⟩ rfl (fun ws1 H6 locs6 ⟨n1, b1, e1⟩ hP hD hS => ?_)
  subst e1
  rw [List.append_assoc] at hP hD
  refine k_put hw C0 hP hD hS (w.length + 0) (ci := 4) (k := 1) (.object "HotPanLocks$State") (get_off rfl) (show asc (flk 4) 16 = some (4, 1) from rfl) rfl (by decide +kernel) rfl rfl (Nat.le_of_ble_eq_true rfl) rfl (fun H7 locs7 hP hD hS => ?_)
  rw [set_off] at hP hD
  have hP : va_P D vwCl (w ++ ((a, .inr (4, [.ref s0, .ref s1, .null, .null])) :: (stW A s0 n0 b0 ++ stW A s1 n1 b1))) H7 := hP
  have hD : va_D Ba (w ++ ((a, .inr (4, [.ref s0, .ref s1, .null, .null])) :: (stW A s0 n0 b0 ++ stW A s1 n1 b1))) := hD
  -- the history
  refine lv_aload_n (k := 0) hx hb (dc_at hdc rfl) rfl (lv_at hl 0 rfl) ?_
  refine k_new hw C0 hP hD hS (ci := 0) (show vwCl[0]? = some (RX0, TX0, 3) from rfl) nw.1.2 tyX0 tyX0_ok [.null, .int 0, .int 0] (fun j hj => by rcases (show j = 0 ∨ j = 1 ∨ j = 2 by omega) with rfl | rfl | rfl <;> rfl) (show (47 : Nat) ≤ 189 by decide) (show (407 : Nat) ≤ 1688 by decide) rfl (fun h H8 hP hD hS => ?_)
  refine lv_dup hx hb (dc_at hdc rfl) rfl ?_
  refine k_ctor (M2 := MX0_init) (As := []) (rest := [.ref h, .ref a]) C0 hP hS (met_hist (l := l) hw hdcs hdc1 hdc2 hdc0 hD) ci.1.2 rfl ⟨show (4 : Nat) ≤ 4 by decide, show (111 : Nat) ≤ 120 by decide⟩ hl.1 (show (2 : Nat) ≤ 8 by decide) ⟨show (186 : Nat) ≤ 189 by decide, show (1625 : Nat) ≤ 1688 by decide⟩ rfl (fun ws1 H9 locs9 ⟨ha, L, hL, e1⟩ hP hD hS => ?_)
  subst e1
  rw [List.append_assoc] at hP hD
  refine k_put hw C0 hP hD hS (w.length + 0) (ci := 4) (k := 2) (.object "HotPanLocks$History") (get_off rfl) (show asc (flk 4) 22 = some (4, 2) from rfl) rfl (by decide +kernel) rfl rfl (Nat.le_of_ble_eq_true rfl) rfl (fun H10 locs10 hP hD hS => ?_)
  rw [set_off] at hP hD
  have eX : ∀ (x : Nat × va_E) (r2 : va_W), ((a, .inr (4, [.ref s0, .ref s1, .null, .null])) :: (stW A s0 n0 b0 ++ stW A s1 n1 b1) ++ (h, .inr (0, [.ref ha, .int 0, .int 0])) :: r2).set 0 x = x :: (stW A s0 n0 b0 ++ (stW A s1 n1 b1 ++ (h, .inr (0, [.ref ha, .int 0, .int 0])) :: r2)) := fun x r2 => by
    show x :: ((stW A s0 n0 b0 ++ stW A s1 n1 b1) ++ _) = _
    rw [List.append_assoc]
  rw [eX] at hP hD
  have hP : va_P D vwCl (w ++ ((a, .inr (4, [.ref s0, .ref s1, .ref h, .null])) :: (stW A s0 n0 b0 ++ (stW A s1 n1 b1 ++ ((h, .inr (0, [.ref ha, .int 0, .int 0])) :: (ha, .inl (A.2.2, 6, .inr (.inr (.inr (.inr (stF L)))))) :: stL A L))))) H10 := hP
  have hD : va_D Ba (w ++ ((a, .inr (4, [.ref s0, .ref s1, .ref h, .null])) :: (stW A s0 n0 b0 ++ (stW A s1 n1 b1 ++ ((h, .inr (0, [.ref ha, .int 0, .int 0])) :: (ha, .inl (A.2.2, 6, .inr (.inr (.inr (.inr (stF L)))))) :: stL A L))))) := hD
  -- the text
  refine lv_aload_n (k := 0) hx hb (dc_at hdc rfl) rfl (lv_at hl 0 rfl) ?_
  refine k_new hw C0 hP hD hS (ci := 3) (show vwCl[3]? = some (RX3, TX3, 2) from rfl) nw.2 tyX3 tyX3_ok [.null, .int 0] (fun j hj => by rcases (show j = 0 ∨ j = 1 by omega) with rfl | rfl <;> rfl) (show (187 : Nat) ≤ 189 by decide) (show (1627 : Nat) ≤ 1688 by decide) rfl (fun t H11 hP hD hS => ?_)
  refine lv_dup hx hb (dc_at hdc rfl) rfl ?_
  refine k_ctorN (M2 := MX3_init) (As := []) (rest := [.ref t, .ref a]) C0 hP hS (met_text (l := l) hw hdc1 hdc3 hD) ci.2 rfl ⟨show (3 : Nat) ≤ 4 by decide, show (80 : Nat) ≤ 120 by decide⟩ hl.1 (show (2 : Nat) ≤ 8 by decide) ⟨show (189 : Nat) ≤ 189 by decide, show (1688 : Nat) ≤ 1688 by decide⟩ rfl (fun ws1 H12 locs12 ⟨tq, tb, e1⟩ hP hD hS => ?_)
  subst e1
  rw [List.append_assoc] at hP hD
  refine k_put hw C0 hP hD hS (w.length + 0) (ci := 4) (k := 3) (.object "HotPanLocks$Text") (get_off rfl) (show asc (flk 4) 29 = some (4, 3) from rfl) rfl (by decide +kernel) rfl rfl (Nat.le_of_ble_eq_true rfl) rfl (fun H13 locs13 hP hD hS => ?_)
  rw [set_off] at hP hD
  refine k_end C0 hP hD hS ⟨s0, n0, b0, s1, n1, b1, h, ha, L, t, tq, tb, hL, ?_⟩ rfl
  unfold hpW
  show w ++ ((a, _) :: ((stW A s0 n0 b0 ++ (stW A s1 n1 b1 ++ ((h, _) :: (ha, _) :: stL A L))) ++ [(t, _), (tq, _), (tb, _)])) = _
  rw [List.append_assoc, List.append_assoc]
  rfl
end
