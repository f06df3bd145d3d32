/-! rows of the walk: stretches, calls, calls that may throw -/
section
variable {A : AC} {D : va_G} {ad : PR → Nat} {Ba : Nat → Prop} {bs L9 : Nat} {xs : Nat → Int32}
variable {p : Program} {l : Launch} {e : Env} {R : Room} {s : State} {mi : MethodId} {args : Array Value} {below : List Frame} {meth : Method} {c : Code} {H : Heap} {locs : List Loc} {cells slots : Nat} {Q : State → Prop}
variable {M M2 : MI}
theorem many_ok (hw : WOK) (had : ad (10, 0, 0) = bs) (C0 : Cx A D Ba bs L9 xs M p R s mi args meth c) (hcl : cells ≤ R.cells) (hsl : slots ≤ R.slots) {pc2 : Nat} {L2 : List (Option PV)} {st2 : List PV} {m2 : PM} :
    ∀ (n : Nat) {pc : Nat} {L : List (Option PV)} {st : List PV} {m : PM} {ls : Array Slot} {H : Heap} {locs : List Loc}, sm_many n M (pc, L, st, m) = some (pc2, L2, st2, m2) → HR A D ad L9 xs m H → va_D Ba (wd A ad m) → va_S Ba s.heap H locs → LR ad (mN M) L ls → SV st →
    (∀ (H1 : Heap) (locs1 : List Loc) (ls1 : Array Slot), HR A D ad L9 xs m2 H1 → va_D Ba (wd A ad m2) → va_S Ba s.heap H1 locs1 → LR ad (mN M) L2 ls1 → SV st2 → W p l e R s mi args below meth c H1 locs1 cells slots Q (F0 mi pc2 ls1 (st2.map (toV ad)))) → W p l e R s mi args below meth c H locs cells slots Q (F0 mi pc ls (st.map (toV ad))) := by
  intro n
  induction n with
  | zero =>
    intro pc L st m ls H locs h hP hD hS hl hs K
    cases h
    exact K H locs ls hP hD hS hl hs
  | succ n ih =>
    intro pc L st m ls H locs h hP hD hS hl hs K
    unfold sm_many at h
    cases h1 : sm_one M pc L st m with
    | none => rw [h1] at h; cases h
    | some r =>
      obtain ⟨pc3, L3, st3, m3⟩ := r
      rw [h1] at h
      dsimp only at h
      unfold sm_one at h1
      cases h2 : asc (mT M) pc with
      | none => rw [h2] at h1; cases h1
      | some q =>
        obtain ⟨i, len⟩ := q
        rw [h2] at h1
        dsimp only at h1
        have hdc : dcG M := C0.2.2.2.2.2.2.2.2.2.2.2.1
        exact ins_ok hw had C0 hcl hsl hP hD hS hl hs (dc_at hdc h2) h1 (fun H1 locs1 ls1 a1 a2 a3 a4 a5 => ih h a1 a2 a3 a4 a5 K)
/-- what a call needs -/
theorem vcall_pre (hw : WOK) (C0 : Cx A D Ba bs L9 xs M p R s mi args meth c) {m : PM} (hP : HR A D ad L9 xs m H) {t k g0 x : Nat} (hc : (x, 1, M2) ∈ clk (mO M)) (ht : tcl t = some (mO M2)) (hvr : vok (vR t k g0) = true) (rm : Room) (hRR : rm.frames + 1 ≤ R.frames ∧ 8 + (mN M2 + 11) + rm.locals ≤ R.locals) :
    CallW R s args (RO (mO M)) (mY M2).cls x (mY M2) (mB M2) (mN M2) (mRet M2) (mWs M2) rm rm.cells rm.slots (mPar M2) ∧ ∃ cellB : Cell, H[ad (t, k, g0)]? = some cellB ∧ cellB.vm.isStatics = false ∧ s.vm.findClass (mY M2).cls = some cellB.cls := by
  obtain ⟨hx, hb, hml, hown, hts, hr, hlk, hRf, hRl, h1f, h30, hdc, hT⟩ := id C0
  obtain ⟨k1, g⟩ := hw.2.2.2.2.2.2.2.2.2.2 (mO M) _ hc
  obtain ⟨k2, k3, k4, k5⟩ := k1
  have hok := vok_ok hvr (tcl_ne ht)
  obtain ⟨q0, hq, hq0⟩ := wd_at (A := A) (ad := ad) (m := m) hok
  have hce : ∃ fs, ce A ad m (t, k, g0) = .inr (mO M2, fs) := by
    have h10 := (okW_lt hok).1
    rcases (show t = 0 ∨ t = 1 ∨ t = 2 ∨ t = 3 ∨ t = 4 ∨ t = 5 ∨ t = 6 ∨ t = 7 ∨ t = 8 ∨ t = 9 by omega) with rfl | rfl | rfl | rfl | rfl | rfl | rfl | rfl | rfl | rfl <;> simp [tcl] at ht <;> rw [← ht] <;> exact ⟨_, rfl⟩
  obtain ⟨fs, hce⟩ := hce
  rw [hce] at hq0
  obtain ⟨qc, hqc, hqn⟩ := Option.map_eq_some_iff.mp k5
  have hrv := va_recv hT.1 hP.1 hqc hq0
  rw [hqn] at hrv
  refine ⟨cwV (mPar M2) hts (good_in (fun w hw2 => ?_)) rfl rfl rfl ⟨rfl, g.2.2.2.1⟩ hRR, hrv⟩
  unfold wsV at hw2
  rcases List.mem_append.mp hw2 with q | q
  · simp only [List.mem_cons, List.not_mem_nil, or_false] at q
    rcases q with rfl | rfl | rfl | rfl
    · exact k2
    · exact k3
    · exact k4
    · exact g.2.2.1
  · exact mws_in g w q
/-- a call that answers -/
theorem cal_ok (hw : WOK) (hdcs : ∀ o, ∀ q ∈ clk o, dcG q.2.2) (had : ad (10, 0, 0) = bs) (C0 : Cx A D Ba bs L9 xs M p R s mi args meth c) (hcl : cells ≤ R.cells) (hsl : slots ≤ R.slots) {m m2 : PM} (hP : HR A D ad L9 xs m H) (hD : va_D Ba (wd A ad m)) (hS : va_S Ba s.heap H locs) {L : List (Option PV)} {ls : Array Slot} (hl : LR ad (mN M) L ls) {pc x t k g0 : Nat} {as rest : List PV} {v : Option PV} (hs : SV (as.reverse ++ vR t k g0 :: rest))
    (h1 : asc (mT M) pc = some (.invokevirtual x, 3)) (hc : (x, 1, M2) ∈ clk (mO M)) (ht : tcl t = some (mO M2)) (hn : as.length = mPar M2) (hfit : sm_fit M M2 (vR t k g0 :: as) rest = true) (hr : Rn M2 (vR t k g0 :: as) m v m2)
    (K : ∀ (H1 : Heap) (locs1 : List Loc), HR A D ad L9 xs m2 H1 → va_D Ba (wd A ad m2) → va_S Ba s.heap H1 locs1 → SV (v.toList ++ rest) → W p l e R s mi args below meth c H1 locs1 cells slots Q (F0 mi (pc + 3) ls ((v.toList ++ rest).map (toV ad)))) : W p l e R s mi args below meth c H locs cells slots Q (F0 mi pc ls ((as.reverse ++ vR t k g0 :: rest).map (toV ad))) := by
  obtain ⟨hx, hb, hml, hown, hts, hrt, hlk, hRf, hRl, h1f, h30, hdc, hT⟩ := id C0
  obtain ⟨pcE, LE, stE, ⟨n, h5⟩, h6⟩ := hr
  simp only [sm_fit, Bool.and_eq_true, decide_eq_true_eq] at hfit
  obtain ⟨⟨⟨⟨⟨f1, f2⟩, f3⟩, f4⟩, f5⟩, f6⟩ := hfit
  obtain ⟨k1, g⟩ := hw.2.2.2.2.2.2.2.2.2.2 (mO M) _ hc
  have hdc2 := hdcs (mO M) _ hc
  have hd : decode (mB M) pc = .ok (.invokevirtual x, 3) := dc_at hdc h1
  have hsa : SV (vR t k g0 :: as) := fun u hu => hs u (by
    rcases List.mem_cons.mp hu with rfl | q
    · exact List.mem_append_right _ List.mem_cons_self
    · exact List.mem_append_left _ (List.mem_reverse.mpr q))
  have hsr : SV rest := fun u hu => hs u (List.mem_append_right _ (List.mem_cons_of_mem _ hu))
  have G := go_ok (Ba := Ba) (A := A) (D := D) (L9 := L9) (xs := xs) hw hdcs had l n M2 0 _ [] m _ h5
  have hM := met_of (l := l) g hdc2 f2 f3 hD f6 hsa G h6
  have hp := pc_pre (as := vR t k g0 :: as) hT hS hP
  obtain ⟨cw, hrv⟩ := vcall_pre (M2 := M2) (H := H) hw C0 hP hc ht (sv_h hsa) (mRm M2) ⟨Nat.le_trans f1 hRf, Nat.le_trans f4 hRl⟩
  have Sx : CallFix p mi c (mB M) (mN M) s args BW (RO (mO M)) := ⟨hx, hb, hml, hown, hts⟩
  have hroom : 2 * (F0 mi pc ls ((as.reverse ++ vR t k g0 :: rest).map (toV ad))).monitorRoom + ((rest.map (toV ad)).map fun v => v.category).sum ≤ 8 := lv_room (by rw [map_cat]; exact f5)
  refine call_row (rest := rest.map (toV ad)) (va_runV (b := ad (t, k, g0)) (As := as.map (toV ad)) (rest := rest.map (toV ad)) Sx hM cw ⟨hp.1, hrv, hp.2⟩ rfl ?_ hl.2.1.1 ?_ hroom hd ⟨hcl, hsl⟩) hS (fun H1 locs1 a1 a2 a6 a3 => ?_)
  · rw [List.length_map]; exact hn
  · show (as.reverse ++ vR t k g0 :: rest).map (toV ad) = _
    rw [List.map_append, List.map_reverse]
    rfl
  · have k9 := K H1 locs1 a1 a2 a3 (fun u hu => by
      rcases List.mem_append.mp hu with q | q
      · cases v with
        | none => cases q
        | some z => exact a6 u (by rw [List.mem_singleton.mp q])
      · exact hsr u q)
    cases v with
    | none => exact k9
    | some z => exact k9
/-- behind a call that may have thrown -/
theorem xcall_row {a : Array Value} {pc mc ms : Nat} {ls : Array Slot} {st0 rest : List Value} {o : OC} {m2 : PM} (hr : vx_Run p l e R s mi args below meth c H locs cells slots mc ms (F0 mi pc ls st0) rest (QcO A D ad Ba L9 xs o m2 a) (XCO A D ad Ba L9 xs o m2) Ba) (hS : va_S Ba s.heap H locs)
    (kk : ∀ v, o = .inl v → ∀ (H1 : Heap) (locs1 : List Loc), HR A D ad L9 xs m2 H1 → va_D Ba (wd A ad m2) → (∀ u, v = some u → vok u = true) → va_S Ba s.heap H1 locs1 → W p l e R s mi args below meth c H1 locs1 (cells + mc) (slots + ms) Q (F0 mi (pc + 3) ls ((v.map (toV ad)).toList ++ rest)))
    (kx : ∀ x, o = .inr x → ∀ (H1 : Heap) (locs1 : List Loc) (q : Addr) (ce : Cell), HR A D ad L9 xs m2 H1 → va_D Ba (wd A ad m2) → va_S Ba s.heap H1 locs1 → H1[q]? = some ce → ce.vm = .none → s.vm.findClass (exC x) = some ce.cls → vx_W p l e R s mi args below meth c H1 locs1 (cells + mc) (slots + ms) Q (F0 mi pc ls rest) q) : W p l e R s mi args below meth c H locs cells slots Q (F0 mi pc ls st0) := by
  intro T hT X
  rcases hr T hT X with ⟨v, st₀, t, T', L, h0, X', hL, e1, e2, hq, st⟩ | ⟨q, st₀, t, T', L, E, ce, h0, X', hL, e1, e2, hq, hce, hcv, hcl, st⟩
  · cases o with
    | inr x => exact hq.elim
    | inl w =>
      obtain ⟨hv, ⟨hb, hd9, hk9⟩, hF⟩ := hq
      cases hv
      obtain ⟨k1, k2, k3⟩ := vx_keep h0 e1 hS (fun _ _ h => h) (fun _ h => h) hL hF
      obtain ⟨t2, a1, b1⟩ := kk w rfl T'.heap (locs ++ L) (by rw [e1]; exact hb) hd9 hk9 k3 T' rfl X'
      exact ⟨t2, st t2 a1, b1⟩
  · cases o with
    | inl w => exact hq.elim
    | inr x =>
      obtain ⟨rfl, ⟨hb, hd9⟩, hF⟩ := hq
      obtain ⟨k1, k2, k3⟩ := vx_keep h0 e1 hS (fun _ _ h => h) (fun _ h => h) hL hF
      obtain ⟨t2, a1, b1⟩ := kx x rfl T'.heap (locs ++ L) q ce (by rw [e1]; exact hb) hd9 k3 (by rw [e1]; exact hce) hcv hcl T' rfl X'
      exact ⟨t2, st.trans a1, b1⟩
end
