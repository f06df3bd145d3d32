/-! the model made (make_model_init.py) -/
section
variable {A : AC} {D : va_G} {Ba : Nat → Prop} {l : Launch}
def MX5_init : MI := (yX5_init, cX5_init, 1, none, 5, 0, 1, 30, TX5_init)
set_option maxRecDepth 100000 in
theorem oi_5 : oiB 5 1 = true := by decide +kernel
def z0F : Nat → Int32 := upd (upd (upd (fun _ => 0) 0 60) 1 1) 2 2
def mdW (A : AC) (a z0 z1 z2 z3 z4 : Nat) : va_W := [(a, .inr (5, [.ref z0, .int 0, .ref z1, .int 0, .ref z2, .int 0, .ref z3, .int 0, .int 0, .int 0, .ref z4, .long 0])), (z0, .inl (A.1, 361, .inl z0F)), (z1, .inl (A.1, 2166, .inl (fun _ => 0))), (z2, .inl (A.1, 60, .inl (fun _ => 0))), (z3, .inl (A.1, 60, .inl (fun _ => 0))), (z4, .inl (A.1, 361, .inl (fun _ => 0)))]
abbrev mdF : List Value := [.null, .int 0, .null, .int 0, .null, .int 0, .null, .int 0, .int 0, .int 0, .null, .long 0]
set_option maxHeartbeats 4000000 in
theorem met_model (hw : WOK) (hdc : dcG MX5_init) {a : Nat} {w : va_W} (hD : va_D Ba (w ++ [(a, .inr (5, mdF))])) : Met l (mY MX5_init) (cWs MX5_init) (cRm MX5_init 5 3008) (cPw A D Ba [.ref a] (w ++ [(a, .inr (5, mdF))])) (cQw D Ba (fun ws => ∃ z0 z1 z2 z3 z4, ws = w ++ mdW A a z0 z1 z2 z3 z4)) 5 3008 Ba := by
  refine met_ctor (M := MX5_init) rfl rfl hdc (show (1 : Nat) ≤ 1 by decide) rfl ?_
  intro p e s mi below meth c ls C0 hP hl
  obtain ⟨hx, hb, hml, hown, hts, hr, hlk, hnm, _, hT⟩ := id C0
  have hl : lv_has ls 1 [(0, .ref a)] := hl
  have hS : va_S Ba s.heap s.heap [] := va_S.rf
  refine lv_aload_n (k := 0) hx hb (dc_at hdc rfl) rfl (lv_at hl 0 rfl) ?_
  refine k_oinit C0 (x := 1) oi_5 rfl hl.1 (Nat.le_refl _) (show (0 + 12 : Nat) ≤ 30 by decide) ?_
  refine lv_aload_n (k := 0) hx hb (dc_at hdc rfl) rfl (lv_at hl 0 rfl) ?_
  refine lv_sipush (n := 361) (v := nI 361) hx hb (dc_at hdc rfl) rfl ?_
  refine k_newa C0 ar_int hP hD hS (N := 361) rfl (by decide) (show (1 : Nat) ≤ 5 by decide) (show (361 : Nat) ≤ 3008 by decide) rfl (fun z0 H1 hP hD hS => ?_)
  rw [List.append_assoc] at hP hD
  refine k_put hw C0 hP hD hS (w.length + 0) (ci := 5) (k := 0) (.array .int) (get_off rfl) (show asc (flk 5) 7 = some (5, 0) from rfl) rfl (by decide +kernel) rfl rfl (Nat.le_of_ble_eq_true rfl) rfl (fun H1 locs hP hD hS => ?_)
  rw [set_off] at hP hD
  have hP : va_P D vwCl (w ++ [(a, .inr (5, [.ref z0, .int 0, .null, .int 0, .null, .int 0, .null, .int 0, .int 0, .int 0, .null, .long 0])), (z0, .inl (A.1, 361, .inl (fun _ => 0)))]) H1 := hP
  have hD : va_D Ba (w ++ [(a, .inr (5, [.ref z0, .int 0, .null, .int 0, .null, .int 0, .null, .int 0, .int 0, .int 0, .null, .long 0])), (z0, .inl (A.1, 361, .inl (fun _ => 0)))]) := hD
  refine lv_aload_n (k := 0) hx hb (dc_at hdc rfl) rfl (lv_at hl 0 rfl) ?_
  refine lv_sipush (n := 2166) (v := nI 2166) hx hb (dc_at hdc rfl) rfl ?_
  refine k_newa C0 ar_int hP hD hS (N := 2166) rfl (by decide) (show (2 : Nat) ≤ 5 by decide) (show (2527 : Nat) ≤ 3008 by decide) rfl (fun z1 H1 hP hD hS => ?_)
  rw [List.append_assoc] at hP hD
  refine k_put hw C0 hP hD hS (w.length + 0) (ci := 5) (k := 2) (.array .int) (get_off rfl) (show asc (flk 5) 13 = some (5, 2) from rfl) rfl (by decide +kernel) rfl rfl (Nat.le_of_ble_eq_true rfl) rfl (fun H1 locs hP hD hS => ?_)
  rw [set_off] at hP hD
  have hP : va_P D vwCl (w ++ [(a, .inr (5, [.ref z0, .int 0, .ref z1, .int 0, .null, .int 0, .null, .int 0, .int 0, .int 0, .null, .long 0])), (z0, .inl (A.1, 361, .inl (fun _ => 0))), (z1, .inl (A.1, 2166, .inl (fun _ => 0)))]) H1 := hP
  have hD : va_D Ba (w ++ [(a, .inr (5, [.ref z0, .int 0, .ref z1, .int 0, .null, .int 0, .null, .int 0, .int 0, .int 0, .null, .long 0])), (z0, .inl (A.1, 361, .inl (fun _ => 0))), (z1, .inl (A.1, 2166, .inl (fun _ => 0)))]) := hD
  refine lv_aload_n (k := 0) hx hb (dc_at hdc rfl) rfl (lv_at hl 0 rfl) ?_
  refine lv_bipush (n := 60) (v := nI 60) hx hb (dc_at hdc rfl) rfl ?_
  refine k_newa C0 ar_int hP hD hS (N := 60) rfl (by decide) (show (3 : Nat) ≤ 5 by decide) (show (2587 : Nat) ≤ 3008 by decide) rfl (fun z2 H1 hP hD hS => ?_)
  rw [List.append_assoc] at hP hD
  refine k_put hw C0 hP hD hS (w.length + 0) (ci := 5) (k := 4) (.array .int) (get_off rfl) (show asc (flk 5) 16 = some (5, 4) from rfl) rfl (by decide +kernel) rfl rfl (Nat.le_of_ble_eq_true rfl) rfl (fun H1 locs hP hD hS => ?_)
  rw [set_off] at hP hD
  have hP : va_P D vwCl (w ++ [(a, .inr (5, [.ref z0, .int 0, .ref z1, .int 0, .ref z2, .int 0, .null, .int 0, .int 0, .int 0, .null, .long 0])), (z0, .inl (A.1, 361, .inl (fun _ => 0))), (z1, .inl (A.1, 2166, .inl (fun _ => 0))), (z2, .inl (A.1, 60, .inl (fun _ => 0)))]) H1 := hP
  have hD : va_D Ba (w ++ [(a, .inr (5, [.ref z0, .int 0, .ref z1, .int 0, .ref z2, .int 0, .null, .int 0, .int 0, .int 0, .null, .long 0])), (z0, .inl (A.1, 361, .inl (fun _ => 0))), (z1, .inl (A.1, 2166, .inl (fun _ => 0))), (z2, .inl (A.1, 60, .inl (fun _ => 0)))]) := hD
  refine lv_aload_n (k := 0) hx hb (dc_at hdc rfl) rfl (lv_at hl 0 rfl) ?_
  refine lv_bipush (n := 60) (v := nI 60) hx hb (dc_at hdc rfl) rfl ?_
  refine k_newa C0 ar_int hP hD hS (N := 60) rfl (by decide) (show (4 : Nat) ≤ 5 by decide) (show (2647 : Nat) ≤ 3008 by decide) rfl (fun z3 H1 hP hD hS => ?_)
  rw [List.append_assoc] at hP hD
  refine k_put hw C0 hP hD hS (w.length + 0) (ci := 5) (k := 6) (.array .int) (get_off rfl) (show asc (flk 5) 19 = some (5, 6) from rfl) rfl (by decide +kernel) rfl rfl (Nat.le_of_ble_eq_true rfl) rfl (fun H1 locs hP hD hS => ?_)
  rw [set_off] at hP hD
  have hP : va_P D vwCl (w ++ [(a, .inr (5, [.ref z0, .int 0, .ref z1, .int 0, .ref z2, .int 0, .ref z3, .int 0, .int 0, .int 0, .null, .long 0])), (z0, .inl (A.1, 361, .inl (fun _ => 0))), (z1, .inl (A.1, 2166, .inl (fun _ => 0))), (z2, .inl (A.1, 60, .inl (fun _ => 0))), (z3, .inl (A.1, 60, .inl (fun _ => 0)))]) H1 := hP
  have hD : va_D Ba (w ++ [(a, .inr (5, [.ref z0, .int 0, .ref z1, .int 0, .ref z2, .int 0, .ref z3, .int 0, .int 0, .int 0, .null, .long 0])), (z0, .inl (A.1, 361, .inl (fun _ => 0))), (z1, .inl (A.1, 2166, .inl (fun _ => 0))), (z2, .inl (A.1, 60, .inl (fun _ => 0))), (z3, .inl (A.1, 60, .inl (fun _ => 0)))]) := hD
  refine lv_aload_n (k := 0) hx hb (dc_at hdc rfl) rfl (lv_at hl 0 rfl) ?_
  refine lv_sipush (n := 361) (v := nI 361) hx hb (dc_at hdc rfl) rfl ?_
  refine k_newa C0 ar_int hP hD hS (N := 361) rfl (by decide) (show (5 : Nat) ≤ 5 by decide) (show (3008 : Nat) ≤ 3008 by decide) rfl (fun z4 H1 hP hD hS => ?_)
  rw [List.append_assoc] at hP hD
  refine k_put hw C0 hP hD hS (w.length + 0) (ci := 5) (k := 10) (.array .int) (get_off rfl) (show asc (flk 5) 22 = some (5, 10) from rfl) rfl (by decide +kernel) rfl rfl (Nat.le_of_ble_eq_true rfl) rfl (fun H1 locs hP hD hS => ?_)
  rw [set_off] at hP hD
  have hP : va_P D vwCl (w ++ [(a, .inr (5, [.ref z0, .int 0, .ref z1, .int 0, .ref z2, .int 0, .ref z3, .int 0, .int 0, .int 0, .ref z4, .long 0])), (z0, .inl (A.1, 361, .inl (fun _ => 0))), (z1, .inl (A.1, 2166, .inl (fun _ => 0))), (z2, .inl (A.1, 60, .inl (fun _ => 0))), (z3, .inl (A.1, 60, .inl (fun _ => 0))), (z4, .inl (A.1, 361, .inl (fun _ => 0)))]) H1 := hP
  have hD : va_D Ba (w ++ [(a, .inr (5, [.ref z0, .int 0, .ref z1, .int 0, .ref z2, .int 0, .ref z3, .int 0, .int 0, .int 0, .ref z4, .long 0])), (z0, .inl (A.1, 361, .inl (fun _ => 0))), (z1, .inl (A.1, 2166, .inl (fun _ => 0))), (z2, .inl (A.1, 60, .inl (fun _ => 0))), (z3, .inl (A.1, 60, .inl (fun _ => 0))), (z4, .inl (A.1, 361, .inl (fun _ => 0)))]) := hD
  refine lv_aload_n (k := 0) hx hb (dc_at hdc rfl) rfl (lv_at hl 0 rfl) ?_
  refine k_get hw C0 hP (w.length + 0) (ci := 5) (k := 0) (get_off rfl) (show asc (flk 5) 7 = some (5, 0) from rfl) rfl rfl ?_
  refine lv_iconst (n := 0) (v := nI 0) hx hb (dc_at hdc rfl) rfl ?_
  refine lv_bipush (n := 60) (v := 60) hx hb (dc_at hdc rfl) rfl ?_
  refine va_iast hx hb hT.1 hP hD hS (w.length + 1) 0 (get_off rfl) rfl (by unfold vp_in; decide) (dc_at hdc rfl) (fun H1 locs hP hD hS => ?_)
  rw [set_off] at hP hD
  have hP : va_P D vwCl (w ++ [(a, .inr (5, [.ref z0, .int 0, .ref z1, .int 0, .ref z2, .int 0, .ref z3, .int 0, .int 0, .int 0, .ref z4, .long 0])), (z0, .inl (A.1, 361, .inl (upd (fun _ => 0) 0 60))), (z1, .inl (A.1, 2166, .inl (fun _ => 0))), (z2, .inl (A.1, 60, .inl (fun _ => 0))), (z3, .inl (A.1, 60, .inl (fun _ => 0))), (z4, .inl (A.1, 361, .inl (fun _ => 0)))]) H1 := hP
  have hD : va_D Ba (w ++ [(a, .inr (5, [.ref z0, .int 0, .ref z1, .int 0, .ref z2, .int 0, .ref z3, .int 0, .int 0, .int 0, .ref z4, .long 0])), (z0, .inl (A.1, 361, .inl (upd (fun _ => 0) 0 60))), (z1, .inl (A.1, 2166, .inl (fun _ => 0))), (z2, .inl (A.1, 60, .inl (fun _ => 0))), (z3, .inl (A.1, 60, .inl (fun _ => 0))), (z4, .inl (A.1, 361, .inl (fun _ => 0)))]) := hD
  refine lv_aload_n (k := 0) hx hb (dc_at hdc rfl) rfl (lv_at hl 0 rfl) ?_
  refine k_get hw C0 hP (w.length + 0) (ci := 5) (k := 0) (get_off rfl) (show asc (flk 5) 7 = some (5, 0) from rfl) rfl rfl ?_
  refine lv_iconst (n := 1) (v := nI 1) hx hb (dc_at hdc rfl) rfl ?_
  refine lv_iconst (n := 1) (v := 1) hx hb (dc_at hdc rfl) rfl ?_
  refine va_iast hx hb hT.1 hP hD hS (w.length + 1) 0 (get_off rfl) rfl (by unfold vp_in; decide) (dc_at hdc rfl) (fun H1 locs hP hD hS => ?_)
  rw [set_off] at hP hD
  have hP : va_P D vwCl (w ++ [(a, .inr (5, [.ref z0, .int 0, .ref z1, .int 0, .ref z2, .int 0, .ref z3, .int 0, .int 0, .int 0, .ref z4, .long 0])), (z0, .inl (A.1, 361, .inl (upd (upd (fun _ => 0) 0 60) 1 1))), (z1, .inl (A.1, 2166, .inl (fun _ => 0))), (z2, .inl (A.1, 60, .inl (fun _ => 0))), (z3, .inl (A.1, 60, .inl (fun _ => 0))), (z4, .inl (A.1, 361, .inl (fun _ => 0)))]) H1 := hP
  have hD : va_D Ba (w ++ [(a, .inr (5, [.ref z0, .int 0, .ref z1, .int 0, .ref z2, .int 0, .ref z3, .int 0, .int 0, .int 0, .ref z4, .long 0])), (z0, .inl (A.1, 361, .inl (upd (upd (fun _ => 0) 0 60) 1 1))), (z1, .inl (A.1, 2166, .inl (fun _ => 0))), (z2, .inl (A.1, 60, .inl (fun _ => 0))), (z3, .inl (A.1, 60, .inl (fun _ => 0))), (z4, .inl (A.1, 361, .inl (fun _ => 0)))]) := hD
  refine lv_aload_n (k := 0) hx hb (dc_at hdc rfl) rfl (lv_at hl 0 rfl) ?_
  refine k_get hw C0 hP (w.length + 0) (ci := 5) (k := 0) (get_off rfl) (show asc (flk 5) 7 = some (5, 0) from rfl) rfl rfl ?_
  refine lv_iconst (n := 2) (v := nI 2) hx hb (dc_at hdc rfl) rfl ?_
  refine lv_iconst (n := 2) (v := 2) hx hb (dc_at hdc rfl) rfl ?_
  refine va_iast hx hb hT.1 hP hD hS (w.length + 1) 0 (get_off rfl) rfl (by unfold vp_in; decide) (dc_at hdc rfl) (fun H1 locs hP hD hS => ?_)
  rw [set_off] at hP hD
  have hP : va_P D vwCl (w ++ [(a, .inr (5, [.ref z0, .int 0, .ref z1, .int 0, .ref z2, .int 0, .ref z3, .int 0, .int 0, .int 0, .ref z4, .long 0])), (z0, .inl (A.1, 361, .inl (upd (upd (upd (fun _ => 0) 0 60) 1 1) 2 2))), (z1, .inl (A.1, 2166, .inl (fun _ => 0))), (z2, .inl (A.1, 60, .inl (fun _ => 0))), (z3, .inl (A.1, 60, .inl (fun _ => 0))), (z4, .inl (A.1, 361, .inl (fun _ => 0)))]) H1 := hP
  have hD : va_D Ba (w ++ [(a, .inr (5, [.ref z0, .int 0, .ref z1, .int 0, .ref z2, .int 0, .ref z3, .int 0, .int 0, .int 0, .ref z4, .long 0])), (z0, .inl (A.1, 361, .inl (upd (upd (upd (fun _ => 0) 0 60) 1 1) 2 2))), (z1, .inl (A.1, 2166, .inl (fun _ => 0))), (z2, .inl (A.1, 60, .inl (fun _ => 0))), (z3, .inl (A.1, 60, .inl (fun _ => 0))), (z4, .inl (A.1, 361, .inl (fun _ => 0)))]) := hD
  exact k_end C0 hP hD hS ⟨z0, z1, z2, z3, z4, rfl⟩ rfl
end
