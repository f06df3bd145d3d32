/-! Text and History made -/
section
variable {A : AC} {D : va_G} {Ba : Nat → Prop} {l : Launch}
def MX3_init : MI := (yX3_init, cX3_init, 1, none, 3, 0, 2, 60, TX3_init)
set_option maxRecDepth 100000 in
theorem oi_3 : oiB 3 3 = true := by decide +kernel
set_option maxRecDepth 100000 in
theorem nw_3 : nwB 3 9 1 = true := by decide +kernel
set_option maxRecDepth 100000 in
theorem ci_3 : ciB 3 11 MX1_init = true := by decide +kernel
theorem met_text (hw : WOK) (hdc1 : dcG MX1_init) (hdc : dcG MX3_init) {a : Nat} {w : va_W} (hD : va_D Ba (w ++ [(a, .inr (3, [.null, .int 0]))])) : Met l (mY MX3_init) (cWs MX3_init) (cRm MX3_init 2 61) (cPw A D Ba [.ref a] (w ++ [(a, .inr (3, [.null, .int 0]))])) (cQw D Ba (fun ws => ∃ q b, ws = w ++ [(a, .inr (3, [.ref q, .int 0])), (q, .inr (1, [.ref b])), (b, .inl (A.1, 60, .inl (fun _ => 0)))])) 2 61 Ba := by
  refine met_ctor (M := MX3_init) rfl rfl hdc (show (1 : Nat) ≤ 1 by decide) rfl ?_
  intro p e s mi below meth c ls C0 hP hl
  obtain ⟨hx, hb, hml, hown, hts, hr, hlk, hnm, _, hT⟩ := id C0
  have hl : lv_has ls 1 [(0, .ref a)] := hl
  have hS : va_S Ba s.heap s.heap [] := va_S.rf
  refine lv_aload_n (k := 0) hx hb (dc_at hdc rfl) rfl (lv_at hl 0 rfl) ?_
  refine k_oinit C0 (x := 3) oi_3 rfl hl.1 (show (1 : Nat) ≤ 2 by decide) (show (0 + 12 : Nat) ≤ 60 by decide) ?_
  refine lv_aload_n (k := 0) hx hb (dc_at hdc rfl) rfl (lv_at hl 0 rfl) ?_
  refine k_new hw C0 hP hD hS (ci := 1) (show vwCl[1]? = some (RX1, TX1, 1) from rfl) nw_3 tyX1 tyX1_ok [.null] (fun j hj => by rcases (show j = 0 by omega) with rfl; rfl) (show (1 : Nat) ≤ 2 by decide) (show (1 : Nat) ≤ 61 by decide) rfl (fun q H1 hP hD hS => ?_)
  refine lv_dup hx hb (dc_at hdc rfl) rfl ?_
  refine lv_bipush (n := 60) (v := nI 60) hx hb (dc_at hdc rfl) rfl ?_
  refine k_ctor (M2 := MX1_init) (As := [.int (nI 60)]) (rest := [.ref q, .ref a]) C0 hP hS (met_num (l := l) hw hdc1 (by decide) (by decide) hD) ci_3 rfl ⟨show (2 : Nat) ≤ 2 by decide, show (51 : Nat) ≤ 60 by decide⟩ hl.1 (show (2 : Nat) ≤ 8 by decide) ⟨show (2 : Nat) ≤ 2 by decide, show (61 : Nat) ≤ 61 by decide⟩ rfl (fun ws1 H2 locs2 ⟨b, e1⟩ hP hD hS => ?_)
  subst e1
  rw [List.append_assoc] at hP hD
  refine k_put hw C0 hP hD hS (w.length + 0) (ci := 3) (k := 0) (.object "HotPanLocks$Numbers") (get_off rfl) (show asc (flk 3) 14 = some (3, 0) from rfl) rfl (by decide +kernel) rfl rfl (Nat.le_of_ble_eq_true rfl) rfl (fun H3 locs3 hP hD hS => ?_)
  rw [set_off] at hP hD
  refine lv_aload_n (k := 0) hx hb (dc_at hdc rfl) rfl (lv_at hl 0 rfl) ?_
  refine lv_iconst (n := 0) (v := 0) hx hb (dc_at hdc rfl) rfl ?_
  refine k_put hw C0 hP hD hS (w.length + 0) (ci := 3) (k := 1) (v := .int 0) .int (get_off rfl) (show asc (flk 3) 20 = some (3, 1) from rfl) rfl (by decide +kernel) rfl rfl (Nat.le_of_ble_eq_true rfl) rfl (fun H4 locs4 hP hD hS => ?_)
  rw [set_off] at hP hD
  exact k_end C0 hP hD hS ⟨q, b, rfl⟩ rfl
abbrev ST3 : Type := Nat × (Nat → Nat) × (Nat → Nat)
def stL (A : AC) (L : List ST3) : va_W := L.flatMap fun t => stW A t.1 t.2.1 t.2.2
def stF (L : List ST3) : Nat → Option Nat := fun j => (L[j]?).map fun t => t.1
theorem stF_up (L : List ST3) (t : ST3) : va_up (stF L) L.length (some t.1) = stF (L ++ [t]) := by
  funext j
  unfold va_up stF
  by_cases h : j = L.length
  · subst h
    simp
  · rw [if_neg h]
    by_cases h2 : j < L.length
    · rw [List.getElem?_append_left h2]
    · rw [List.getElem?_eq_none (by omega), List.getElem?_eq_none (by rw [List.length_append]; show L.length + 1 ≤ j; omega)]
def MX0_init : MI := (yX0_init, cX0_init, 2, none, 0, 0, 3, 90, TX0_init)
set_option maxRecDepth 100000 in
theorem oi_0 : oiB 0 3 = true := by decide +kernel
set_option maxRecDepth 100000 in
theorem nw_0 : nwB 0 9 2 = true := by decide +kernel
set_option maxRecDepth 100000 in
theorem ci_0 : ciB 0 24 MX2_init = true := by decide +kernel
set_option maxRecDepth 100000 in
theorem clk_h0 : (tblB (Cond.classLink "HotPanLocks$History" 9 "HotPanLocks$State") && goodWord (Cond.classLink "HotPanLocks$History" 9 "HotPanLocks$State")) = true := by decide +kernel
set_option maxHeartbeats 4000000 in
theorem met_hist (hw : WOK) (hdcs : ∀ o, ∀ q ∈ clk o, dcG q.2.2) (hdc1 : dcG MX1_init) (hdc2 : dcG MX2_init) (hdc : dcG MX0_init) {a : Nat} {w : va_W} (hD : va_D Ba (w ++ [(a, .inr (0, [.null, .int 0, .int 0]))])) : Met l (mY MX0_init) (cWs MX0_init) (cRm MX0_init 139 1218) (cPw A D Ba [.ref a] (w ++ [(a, .inr (0, [.null, .int 0, .int 0]))])) (cQw D Ba (fun ws => ∃ h L, L.length = 6 ∧ ws = w ++ (a, .inr (0, [.ref h, .int 0, .int 0])) :: (h, .inl (A.2.2, 6, .inr (.inr (.inr (.inr (stF L)))))) :: stL A L)) 139 1218 Ba := by
  refine met_ctor (M := MX0_init) rfl rfl hdc (show (1 : Nat) ≤ 2 by decide) rfl ?_
  intro p e s mi below meth c ls C0 hP hl
  obtain ⟨hx, hb, hml, hown, hts, hr, hlk, hnm, _, hT⟩ := id C0
  have hl : lv_has ls 2 [(0, .ref a)] := hl
  have hS : va_S Ba s.heap s.heap [] := va_S.rf
  refine lv_aload_n (k := 0) hx hb (dc_at hdc rfl) rfl (lv_at hl 0 rfl) ?_
  refine k_oinit C0 (x := 3) oi_0 rfl hl.1 (show (1 : Nat) ≤ 3 by decide) (show (0 + 12 : Nat) ≤ 90 by decide) ?_
  refine lv_aload_n (k := 0) hx hb (dc_at hdc rfl) rfl (lv_at hl 0 rfl) ?_
  refine lv_bipush (n := 6) (v := nI 6) hx hb (dc_at hdc rfl) rfl ?_
  refine va_newq (C := "HotPanLocks$State") (N' := 6) hx hb hown (hts _ (tblB_bw clk_h0)) hT.2.1 hT.1 hP hD hS hT.2.2.1 (by decide) (by decide) (by decide) (show (1 : Nat) ≤ 139 by decide) (show (6 : Nat) ≤ 1218 by decide) (dc_at hdc rfl) (fun h cA H1 k1 hP hD hS => ?_)
  have e3 := ra_obj (k1.2 2 (cA, .object "HotPanLocks$State") rfl).2 (hT.1.2 1 (A.2.2, .object "HotPanLocks$State") rfl).2
  subst e3
  rw [List.append_assoc] at hP hD
  refine k_put hw C0 hP hD hS (w.length + 0) (ci := 0) (k := 0) (.array (.object "HotPanLocks$State")) (get_off rfl) (show asc (flk 0) 11 = some (0, 0) from rfl) rfl (by decide +kernel) rfl rfl (Nat.le_of_ble_eq_true rfl) rfl (fun H3 locs3 hP hD hS => ?_)
  rw [set_off] at hP hD
  refine lv_aload_n (k := 0) hx hb (dc_at hdc rfl) rfl (lv_at hl 0 rfl) ?_
  refine lv_iconst (n := 0) (v := 0) hx hb (dc_at hdc rfl) rfl ?_
  refine k_put hw C0 hP hD hS (w.length + 0) (ci := 0) (k := 1) (v := .int 0) .int (get_off rfl) (show asc (flk 0) 17 = some (0, 1) from rfl) rfl (by decide +kernel) rfl rfl (Nat.le_of_ble_eq_true rfl) rfl (fun H4 locs4 hP hD hS => ?_)
  rw [set_off] at hP hD
  refine lv_aload_n (k := 0) hx hb (dc_at hdc rfl) rfl (lv_at hl 0 rfl) ?_
  refine lv_iconst (n := 0) (v := 0) hx hb (dc_at hdc rfl) rfl ?_
  refine k_put hw C0 hP hD hS (w.length + 0) (ci := 0) (k := 2) (v := .int 0) .int (get_off rfl) (show asc (flk 0) 21 = some (0, 2) from rfl) rfl (by decide +kernel) rfl rfl (Nat.le_of_ble_eq_true rfl) rfl (fun H5 locs5 hP hD hS => ?_)
  rw [set_off] at hP hD
  have e0 : (fun _ => none) = stF [] := by
    funext j
    rfl
  rw [e0] at hP hD
  have hP : va_P D vwCl (w ++ ((a, .inr (0, [.ref h, .int 0, .int 0])) :: (h, .inl (A.2.2, 6, .inr (.inr (.inr (.inr (stF [])))))) :: stL A [])) H5 := hP
  have hD : va_D Ba (w ++ ((a, .inr (0, [.ref h, .int 0, .int 0])) :: (h, .inl (A.2.2, 6, .inr (.inr (.inr (.inr (stF [])))))) :: stL A [])) := hD
  refine lv_iconst (n := 0) (v := nI 0) hx hb (dc_at hdc rfl) rfl ?_
  refine lv_istore_n (k := 1) (lv' := [(1, .int (nI 0)), (0, .ref a)]) hx hb (dc_at hdc rfl) rfl hl (by decide) rfl (fun ls hl => ?_)
  suffices K : ∀ (n i : Nat) (L : List ST3) (H1 : Heap) (locs : List Loc) (ls : Array Slot), i + n = 6 → L.length = i → va_P D vwCl (w ++ ((a, .inr (0, [.ref h, .int 0, .int 0])) :: (h, .inl (A.2.2, 6, .inr (.inr (.inr (.inr (stF L)))))) :: stL A L)) H1 → va_D Ba (w ++ ((a, .inr (0, [.ref h, .int 0, .int 0])) :: (h, .inl (A.2.2, 6, .inr (.inr (.inr (.inr (stF L)))))) :: stL A L)) → va_S Ba s.heap H1 locs → lv_has ls 2 [(1, .int (nI i)), (0, .ref a)] → W p l e (cRm MX0_init 139 1218) s mi [Value.ref a].toArray below meth c H1 locs (1 + 23 * i) (6 + 202 * i) (MQ below (cQw D Ba (fun ws => ∃ h L, L.length = 6 ∧ ws = w ++ (a, .inr (0, [.ref h, .int 0, .int 0])) :: (h, .inl (A.2.2, 6, .inr (.inr (.inr (.inr (stF L)))))) :: stL A L)) [Value.ref a].toArray s 139 1218 Ba) (F0 mi 25 ls []) by
    exact K 6 0 [] H5 locs5 ls rfl rfl hP hD hS hl
  clear hP hD hS hl
  have hcl : (cRm MX0_init 139 1218).cells = 139 := rfl
  have hsl : (cRm MX0_init 139 1218).slots = 1218 := rfl
  intro n
  induction n with
  | zero =>
    intro i L H1 locs ls hi hL hP hD hS hl
    have hi : i = 6 := by omega
    subst hi
    refine lv_iload_n (k := 1) hx hb (dc_at hdc rfl) rfl (lv_at hl 0 rfl) ?_
    refine lv_aload_n (k := 0) hx hb (dc_at hdc rfl) rfl (lv_at hl 1 rfl) ?_
    refine k_get hw C0 hP (w.length + 0) (ci := 0) (k := 0) (get_off rfl) (show asc (flk 0) 11 = some (0, 0) from rfl) rfl rfl ?_
    refine va_alen (v := nI 6) hx hb hT.1 hP (w.length + 1) 1 (get_off rfl) (ty := .object "HotPanLocks$State") rfl rfl (dc_at hdc rfl) ?_
    refine lv_icmp_ge (tgt := 53) (off := 22) hx hb (dc_at hdc rfl) (by decide) (fun _ => ?_) (fun q => absurd (show nI 6 ≤ nI 6 by decide) q)
    exact k_end C0 hP hD hS ⟨h, L, hL, rfl⟩ rfl
  | succ n ih =>
    intro i L H1 locs ls hi hL hP hD hS hl
    refine lv_iload_n (k := 1) hx hb (dc_at hdc rfl) rfl (lv_at hl 0 rfl) ?_
    refine lv_aload_n (k := 0) hx hb (dc_at hdc rfl) rfl (lv_at hl 1 rfl) ?_
    refine k_get hw C0 hP (w.length + 0) (ci := 0) (k := 0) (get_off rfl) (show asc (flk 0) 11 = some (0, 0) from rfl) rfl rfl ?_
    refine va_alen (v := nI 6) hx hb hT.1 hP (w.length + 1) 1 (get_off rfl) (ty := .object "HotPanLocks$State") rfl rfl (dc_at hdc rfl) ?_
    refine lv_icmp_ge (tgt := 53) (off := 22) hx hb (dc_at hdc rfl) (by decide) (fun q => absurd q (nI_ge (a := i) (b := 6) (by omega) (by omega))) (fun _ => ?_)
    refine lv_aload_n (k := 0) hx hb (dc_at hdc rfl) rfl (lv_at hl 1 rfl) ?_
    refine k_get hw C0 hP (w.length + 0) (ci := 0) (k := 0) (get_off rfl) (show asc (flk 0) 11 = some (0, 0) from rfl) rfl rfl ?_
    refine lv_iload_n (k := 1) hx hb (dc_at hdc rfl) rfl (lv_at hl 0 rfl) ?_
    refine k_new hw C0 hP hD hS (ci := 2) (show vwCl[2]? = some (RX2, TX2, 12) from rfl) nw_0 tyX2 tyX2_ok [.null, .null, .null, .null, .null, .null, .null, .null, .null, .null, .null, .int 0] (fun j hj => by rcases (show j = 0 ∨ j = 1 ∨ j = 2 ∨ j = 3 ∨ j = 4 ∨ j = 5 ∨ j = 6 ∨ j = 7 ∨ j = 8 ∨ j = 9 ∨ j = 10 ∨ j = 11 by omega) with rfl | rfl | rfl | rfl | rfl | rfl | rfl | rfl | rfl | rfl | rfl | rfl <;> rfl) (by omega) (by omega) rfl (fun q H2 hP hD hS => ?_)
    refine lv_dup hx hb (dc_at hdc rfl) rfl ?_
    refine k_ctor (M2 := MX2_init) (As := []) (rest := [.ref q, .int (nI i), .ref h]) C0 hP hS (met_state (l := l) hw hdcs hdc1 hdc2 hD) ci_0 rfl ⟨show (3 : Nat) ≤ 3 by decide, show (81 : Nat) ≤ 90 by decide⟩ hl.1 (show (3 : Nat) ≤ 8 by decide) ⟨by omega, by omega⟩ rfl (fun ws1 H3 locs3 ⟨nn, bb, e1⟩ hP hD hS => ?_)
    subst e1
    have eW : (w ++ ((a, .inr (0, [.ref h, .int 0, .int 0])) :: (h, .inl (A.2.2, 6, .inr (.inr (.inr (.inr (stF L)))))) :: stL A L)) ++ stW A q nn bb = w ++ ((a, .inr (0, [.ref h, .int 0, .int 0])) :: (h, .inl (A.2.2, 6, .inr (.inr (.inr (.inr (stF L)))))) :: stL A (L ++ [(q, nn, bb)])) := by
      unfold stL
      rw [List.flatMap_append, List.append_assoc]
      have e9 : ([(q, nn, bb)] : List ST3).flatMap (fun t => stW A t.1 t.2.1 t.2.2) = stW A q nn bb := by
        rw [List.flatMap_cons, List.flatMap_nil, List.append_nil]
      rw [e9]
      rfl
    have gq : (w ++ ((a, .inr (0, [.ref h, .int 0, .int 0])) :: (h, .inl (A.2.2, 6, .inr (.inr (.inr (.inr (stF L)))))) :: stL A (L ++ [(q, nn, bb)])))[(w ++ ((a, .inr (0, [.ref h, .int 0, .int 0])) :: (h, .inl (A.2.2, 6, .inr (.inr (.inr (.inr (stF L)))))) :: stL A L)).length]? = some (q, .inr (2, [.ref (nn 0), .ref (nn 1), .ref (nn 2), .ref (nn 3), .ref (nn 4), .ref (nn 5), .ref (nn 6), .ref (nn 7), .ref (nn 8), .ref (nn 9), .ref (nn 10), .int 0])) := by
      rw [← eW]
      exact get_mid
    rw [eW] at hP hD
    refine va_astq (v := q) hx hb hT.1 hP hD hS (w.length + 1) 1 _ 2 (get_off rfl) (show (tys A)[1]? = some (A.2.2, .object "HotPanLocks$State") from rfl) gq (show vwCl[2]? = some (RX2, TX2, 12) from rfl) (by
      rintro (z | z)
      · exact nI_pos (by omega) z
      · rw [nI_clamp (by omega)] at z; omega) (dc_at hdc rfl) (fun H4 locs4 hP hD hS => ?_)
    rw [set_off, nI_clamp (by omega)] at hP hD
    have eF : va_up (stF L) i (some q) = stF (L ++ [(q, nn, bb)]) := by
      rw [← hL]
      exact stF_up L (q, nn, bb)
    rw [eF] at hP hD
    refine lv_iinc (k := 0) (i := 1) (n := 1) (v := nI (i + 1)) (lv' := [(1, .int (nI (i + 1))), (0, .ref a)]) hx hb (dc_at hdc rfl) hl rfl (nI_1 i) (by decide) rfl (fun ls2 hl2 => ?_)
    refine lv_goto (tgt := 25) (off := -25) hx hb (dc_at hdc rfl) (by decide) ?_
    rw [show 1 + 23 * i + 1 + 22 = 1 + 23 * (i + 1) by omega, show 6 + 202 * i + 12 + 190 = 6 + 202 * (i + 1) by omega]
    exact ih (i + 1) (L ++ [(q, nn, bb)]) H4 locs4 ls2 (by omega) (by rw [List.length_append, hL]; rfl) hP hD hS hl2
end
