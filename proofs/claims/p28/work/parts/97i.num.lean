/-! Numbers: made, and written, in a world that grows -/
section
variable {A : AC} {D : va_G} {Ba : Nat → Prop} {l : Launch}
theorem set_mid {w r : va_W} {x y : Nat × va_E} : (w ++ x :: r).set w.length y = w ++ y :: r := by
  rw [List.set_append_right _ _ (Nat.le_refl _), Nat.sub_self]
  rfl
theorem get_mid {w r : va_W} {x : Nat × va_E} : (w ++ x :: r)[w.length]? = some x := by
  rw [List.getElem?_append_right (Nat.le_refl _), Nat.sub_self]
  rfl
theorem met_ctor {M : MI} {as : List Value} {ws : va_W} {P : va_W → Prop} {mc ms : Nat} (hy : plainName (mY M).cls = true) (hRo : RO (mO M) = (mY M).cls) (hdc : dcG M) (hnL : (lg_sl as).length ≤ mN M) (hnm : (mY M).name = "<init>")
    (body : ∀ (p : Program) (e : Env) (s : State) (mi : MethodId) (below : List Frame) (meth : Method) (c : Code) (ls : Array Slot), CxC A D Ba M p s mi as.toArray meth c → va_P D vwCl ws s.heap → lv_has ls (mN M) (lv_args 0 as) → W p l e (cRm M mc ms) s mi as.toArray below meth c s.heap [] 0 0 (MQ below (cQw D Ba P) as.toArray s mc ms Ba) (F0 mi 0 ls [])) :
    Met l (mY M) (cWs M) (cRm M mc ms) (cPw A D Ba as ws) (cQw D Ba P) mc ms Ba := by
  refine Met.ofW (cc := mB M) (maxL := mN M) (ret := none) hy rfl ?_
  intro p e s mi args below meth c s₁ B hml hv
  obtain ⟨rfl, hP, hT⟩ := hv
  have hts := atoms_spec (ws := cWs M) B.pre
  have C0 : CxC A D Ba M p s mi as.toArray meth c := ⟨B.exec, B.bytes, hml, by rw [hRo]; exact findClass_of_methodNamed B.named, fun w hw => hts w (List.mem_cons_of_mem _ hw), Or.inr B.returns, B.notSynchronized, Or.inr ((name_of_methodNamed B.named B.method).1.trans hnm), hdc, hT⟩
  have hl := lv_entry as (n := mN M) hnL
  rw [lg_entry_eq]
  exact body p e s mi below meth c _ C0 hP hl
section
variable {p : Program} {e : Env} {R : Room} {s : State} {mi : MethodId} {args : Array Value} {below : List Frame} {meth : Method} {c : Code} {H : Heap} {locs : List Loc} {cells slots : Nat} {Q : State → Prop} {M : MI} {ws : va_W} {pc : Nat} {ls : Array Slot}
theorem k_end (C0 : CxC A D Ba M p s mi args meth c) (hP : va_P D vwCl ws H) (hD : va_D Ba ws) (hS : va_S Ba s.heap H locs) {P : va_W → Prop} (hp : P ws) (h : asc (mT M) pc = some (.return_, 1)) (h6 : ¬ mO M = 6 := by decide) : W p l e R s mi args below meth c H locs cells slots (MQ below (cQw D Ba P) args s cells slots Ba) (F0 mi pc ls []) := by
  obtain ⟨hx, hb, hml, hown, hts, hr, hlk, hnm, hdc, hT⟩ := C0
  exact W.vret hx hb (hr.resolve_left h6) (fun t ht hW => ⟨rfl, ⟨ws, hp, by rw [ht]; exact hP, hD⟩, hS.F ht⟩) hS.2.2 (dc_at hdc h) hlk
end
def MX1_init : MI := (yX1_init, cX1_init, 2, none, 1, 1, 1, 30, TX1_init)
set_option maxRecDepth 100000 in
theorem oi_1 : oiB 1 1 = true := by decide +kernel
set_option maxRecDepth 100000 in
theorem ar_int : (tblB (Cond.arrayClass .int) && goodWord (Cond.arrayClass .int)) = true := by decide +kernel
theorem met_num (hw : WOK) (hdc : dcG MX1_init) {N a : Nat} {w : va_W} (hN0 : 0 < N) (hN : N < 65536) (hD : va_D Ba (w ++ [(a, .inr (1, [.null]))])) : Met l (mY MX1_init) (cWs MX1_init) (cRm MX1_init 1 N) (cPw A D Ba [.ref a, .int (nI N)] (w ++ [(a, .inr (1, [.null]))])) (cQw D Ba (fun ws => ∃ b, ws = w ++ [(a, .inr (1, [.ref b])), (b, .inl (A.1, N, .inl (fun _ => 0)))])) 1 N Ba := by
  refine met_ctor (M := MX1_init) rfl rfl hdc (show (2 : Nat) ≤ 2 by decide) rfl ?_
  intro p e s mi below meth c ls C0 hP hl
  obtain ⟨hx, hb, hml, hown, hts, hr, hlk, hnm, _, hT⟩ := id C0
  have hl : lv_has ls 2 [(0, .ref a), (1, .int (nI N))] := hl
  have hS : va_S Ba s.heap s.heap [] := va_S.rf
  refine lv_aload_n (k := 0) hx hb (dc_at hdc rfl) rfl (lv_at hl 0 rfl) ?_
  refine k_oinit C0 (x := 1) oi_1 rfl hl.1 (Nat.le_refl _) (show (0 + 12 : Nat) ≤ 30 by decide) ?_
  refine lv_aload_n (k := 0) hx hb (dc_at hdc rfl) rfl (lv_at hl 0 rfl) ?_
  refine lv_iload_n (k := 1) hx hb (dc_at hdc rfl) rfl (lv_at hl 1 rfl) ?_
  refine lv_if_le (tgt := 13) (off := 7) hx hb (dc_at hdc rfl) (by decide) (fun q => absurd q (nI_nle hN0 (by omega))) (fun _ => ?_)
  refine lv_iload_n (k := 1) hx hb (dc_at hdc rfl) rfl (lv_at hl 1 rfl) ?_
  refine lv_goto (tgt := 14) (off := 4) hx hb (dc_at hdc rfl) (by decide) ?_
  refine k_newa C0 ar_int hP hD hS rfl hN (Nat.le_refl _) (by show 0 + N ≤ N; omega) rfl (fun b H1 hP hD hS => ?_)
  have hP : va_P D vwCl (w ++ (a, .inr (1, [.null])) :: [(b, .inl (A.1, N, .inl (fun _ => 0)))]) H1 := by
    rw [List.append_assoc] at hP
    exact hP
  have hD : va_D Ba (w ++ (a, .inr (1, [.null])) :: [(b, .inl (A.1, N, .inl (fun _ => 0)))]) := by
    rw [List.append_assoc] at hD
    exact hD
  refine k_put hw C0 hP hD hS w.length (ci := 1) (k := 0) (.array .int) get_mid (show asc (flk 1) 7 = some (1, 0) from rfl) rfl (by decide +kernel) rfl rfl (by decide) rfl (fun H2 locs2 hP hD hS => ?_)
  rw [set_mid] at hP hD
  refine W.widen (k := 1) (n := N) (Nat.le_refl _) (by omega) ?_
  exact k_end C0 hP hD hS ⟨b, rfl⟩ rfl
end
