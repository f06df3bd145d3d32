/-! Numbers.put over a world, and its call from a constructor -/
section
variable {A : AC} {D : va_G} {Ba : Nat → Prop} {l : Launch}
theorem met_putW (hw : WOK) (hdc : dcG MX1_put) {N a b i j idx : Nat} {v : Int32} {f : Nat → Int32} {ws : va_W} (hN : N < 65536) (hi : idx < N) (g1 : ws[i]? = some (a, .inr (1, [.ref b]))) (g2 : ws[j]? = some (b, .inl (A.1, N, .inl f))) (hD : va_D Ba ws) : Met l (mY MX1_put) (mWs MX1_put) (mRm MX1_put) (cPw A D Ba [.ref a, .int (nI idx), .int v] ws) (cQw D Ba (fun ws1 => ws1 = ws.set j (b, .inl (A.1, N, .inl (upd f idx v))))) 0 0 Ba := by
  refine Met.ofW (cc := mB MX1_put) (maxL := mN MX1_put) (ret := none) rfl rfl ?_
  intro p e s mi args below meth c s₁ B hml hv
  obtain ⟨rfl, hP, hT⟩ := hv
  have hts0 := atoms_spec (ws := mWs MX1_put) B.pre
  have hts : ∀ w ∈ BW, w.before _ s = true := fun w hw => hts0 w (List.mem_cons_of_mem _ hw)
  have hown : s.vm.findClass "HotPanLocks$Numbers" = some mi.cls := findClass_of_methodNamed B.named
  have hx := B.exec
  have hb := B.bytes
  have hr := B.returns
  have hl := lv_entry ([.ref a, .int (nI idx), .int v]) (n := 3) (show (3 : Nat) ≤ 3 by decide)
  rw [lg_entry_eq]
  have hl : lv_has _ 3 [(0, .ref a), (1, .int (nI idx)), (2, .int v)] := hl
  have hlk := B.notSynchronized
  have hS : va_S Ba s.heap s.heap [] := va_S.rf
  obtain ⟨q, h1, h2, h3, h4⟩ := hw.1 1 _ (asc_mem (show asc (flk 1) 7 = some (1, 0) from rfl))
  obtain ⟨w1, ty0, w2, w3⟩ := hw.2.2.2.2.2.2.2.1 1 q h1
  obtain ⟨C, T, N9⟩ := q
  refine lv_iload_n (k := 1) hx hb (dc_at hdc rfl) rfl (lv_at hl 1 rfl) ?_
  refine lv_if_lt (tgt := 20) (off := 19) hx hb (dc_at hdc rfl) (by decide) (fun q => absurd q (nI_pos (by omega))) (fun _ => ?_)
  refine lv_iload_n (k := 1) hx hb (dc_at hdc rfl) rfl (lv_at hl 1 rfl) ?_
  refine lv_aload_n (k := 0) hx hb (dc_at hdc rfl) rfl (lv_at hl 0 rfl) ?_
  refine va_get (index := 7) (C := C) (T := T) (N := N9) hx hb hts w1 hown hT.1 hP i g1 h1 0 h2 (hts _ h4) (fun y hy => by rw [← h3]; exact hy) rfl (dc_at hdc rfl) ?_
  refine va_alen (v := nI N) hx hb hT.1 hP j 0 g2 (ty := .int) rfl rfl (dc_at hdc rfl) ?_
  refine lv_icmp_ge (tgt := 20) (off := 10) hx hb (dc_at hdc rfl) (by decide) (fun q => absurd q (nI_ge hi (by omega))) (fun _ => ?_)
  refine lv_aload_n (k := 0) hx hb (dc_at hdc rfl) rfl (lv_at hl 0 rfl) ?_
  refine va_get (index := 7) (C := C) (T := T) (N := N9) hx hb hts w1 hown hT.1 hP i g1 h1 0 h2 (hts _ h4) (fun y hy => by rw [← h3]; exact hy) rfl (dc_at hdc rfl) ?_
  refine lv_iload_n (k := 1) hx hb (dc_at hdc rfl) rfl (lv_at hl 1 rfl) ?_
  refine lv_iload_n (k := 2) hx hb (dc_at hdc rfl) rfl (lv_at hl 2 rfl) ?_
  refine va_iast hx hb hT.1 hP hD hS j 0 g2 rfl (by
    rintro (q | q)
    · exact nI_pos (by omega) q
    · rw [nI_clamp (by omega)] at q; omega) (dc_at hdc rfl) (fun H1 locs1 hP1 hD1 hS1 => ?_)
  rw [nI_clamp (by omega)] at hP1 hD1
  exact W.vret hx hb hr (fun t ht hW => ⟨rfl, ⟨_, rfl, by rw [ht]; exact hP1, hD1⟩, hS1.F ht⟩) hS1.2.2 (dc_at hdc rfl) hlk
section
variable {p : Program} {e : Env} {R : Room} {s : State} {mi : MethodId} {args : Array Value} {below : List Frame} {meth : Method} {c : Code} {H : Heap} {locs : List Loc} {cells slots : Nat} {Q : State → Prop} {M : MI} {ws : va_W} {pc x : Nat} {ls : Array Slot} {rest : List Value}
theorem k_putN (hw : WOK) (hdcs : ∀ o, ∀ q ∈ clk o, dcG q.2.2) (C0 : CxC A D Ba M p s mi args meth c) (hP : va_P D vwCl ws H) (hD : va_D Ba ws) (hS : va_S Ba s.heap H locs) {N a b i j idx : Nat} {v : Int32} {f : Nat → Int32} (hN : N < 65536) (hi : idx < N) (g1 : ws[i]? = some (a, .inr (1, [.ref b]))) (g2 : ws[j]? = some (b, .inl (A.1, N, .inl f))) (hc : asc (clk (mO M)) x = some (1, MX1_put)) (hfr : 2 ≤ R.frames ∧ 52 ≤ R.locals) (hsz : ls.size = mN M) (hroom : (rest.map fun v => v.category).sum ≤ 8) (hcs : cells ≤ R.cells ∧ slots ≤ R.slots) (h : asc (mT M) pc = some (.invokevirtual x, 3))
    (kk : ∀ (H1 : Heap) (locs1 : List Loc), va_P D vwCl (ws.set j (b, .inl (A.1, N, .inl (upd f idx v)))) H1 → va_D Ba (ws.set j (b, .inl (A.1, N, .inl (upd f idx v)))) → va_S Ba s.heap H1 locs1 → W p l e R s mi args below meth c H1 locs1 cells slots Q (F0 mi (pc + 3) ls rest)) : W p l e R s mi args below meth c H locs cells slots Q (F0 mi pc ls (.int v :: .int (nI idx) :: .ref a :: rest)) := by
  obtain ⟨hx, hb, hml, hown, hts, hr, hlk, hnm, hdc, hT⟩ := C0
  obtain ⟨k1, g⟩ := hw.2.2.2.2.2.2.2.2.2.2 (mO M) _ (asc_mem hc)
  obtain ⟨k2, k3, k4, k5⟩ := k1
  have hM := met_putW (A := A) (D := D) (Ba := Ba) (l := l) (v := v) hw (hdcs _ _ (asc_mem hc)) hN hi g1 g2 hD
  obtain ⟨qc, hqc, hqn⟩ := Option.map_eq_some_iff.mp k5
  have hrv := va_recv hT.1 hP hqc g1
  rw [hqn] at hrv
  have cw : CallW R s args (RO (mO M)) (mY MX1_put).cls x (mY MX1_put) (mB MX1_put) (mN MX1_put) (mRet MX1_put) (mWs MX1_put) (mRm MX1_put) 0 0 (mPar MX1_put) := by
    refine cwV (mPar MX1_put) hts (good_in (fun w hw2 => ?_)) rfl rfl rfl ⟨rfl, g.2.2.2.1⟩ hfr
    unfold wsV at hw2
    rcases List.mem_append.mp hw2 with q | q
    · simp only [List.mem_cons, List.not_mem_nil, or_false] at q
      rcases q with rfl | rfl | rfl | rfl
      · exact k2
      · exact k3
      · exact k4
      · exact g.2.2.1
    · exact mws_in g w q
  refine ccall_row (va_runV (b := a) (As := [.int (nI idx), .int v]) (rest := rest) ⟨hx, hb, hml, hown, hts⟩ hM cw ⟨fun a U g mk q => ⟨q.1, q.2.1, tn_calling q.2.2⟩, hrv, fun U hU hW => ⟨rfl, by rw [hU]; exact hP, tn_moved hT hS hU hW⟩⟩ rfl rfl hsz rfl (lv_room hroom) (dc_at hdc h) hcs) hS (fun ws1 H1 locs1 e1 a1 a2 a3 => ?_)
  subst e1
  exact kk H1 locs1 a1 a2 a3
end
end
