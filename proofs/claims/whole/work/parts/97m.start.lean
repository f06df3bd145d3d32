/-! from the law's entry to its end -/
section
def inB : Bool := vwCl.all fun q => lw_tbl.any fun w => match w with
  | .instantiable C _ => decide (C = q.1)
  | _ => false
set_option maxRecDepth 100000 in
theorem in_b : inB = true := by decide +kernel
set_option maxRecDepth 100000 in
theorem ao_b : tblB (Cond.arrayOver (.object "HotPanLocks$State")) = true := by decide +kernel
set_option maxRecDepth 100000 in
theorem zq_b : (tblB (Cond.laysStatic Bundle.tN "UNASSIGNED_STACK" Bundle.steD) && tblB (Cond.laysStatic Bundle.tN "SUPPRESSED_SENTINEL" Bundle.listD) && tblB (Cond.initialized Bundle.tN)) = true := by decide +kernel
def gvB (w : Cond) : Bool := (flatC (Jvm.Cond.and given_1 narrow_1)).any fun z => decide (z = w)
theorem gv_of {args : Array Value} {s : State} {w : Cond} (h : (Jvm.Cond.and given_1 narrow_1).before args s = true) (hw : gvB w = true) : w.before args s = true := by
  obtain ⟨z, hz, e⟩ := List.any_eq_true.mp hw
  rw [← of_decide_eq_true e]
  exact flat_of_before _ h z hz
set_option maxRecDepth 1000000 in
theorem gv_b : (gvB (.isRef (.static Bundle.tN "UNASSIGNED_STACK" Bundle.steD)) && gvB (.isRef (.static Bundle.tN "SUPPRESSED_SENTINEL" Bundle.listD))) = true := by decide +kernel
set_option maxRecDepth 1000000 in
theorem gv_c : ([40, 50, 58].all fun x => [40, 50, 58].all fun y => Nat.beq x y || gvB (.not (.castable (exC x) (exC y)))) = true := by decide +kernel
theorem start_K {s : State} {args : Array Value} (hw : WOK) (hts : ∀ w ∈ lw_tbl, w.before args s = true) : ∃ (D : va_G) (A : AC), va_K D vwCl (tys A) s := by
  have h1 : ∀ k : Nat, ∃ (c : ClassId) (i : Nat → Nat), ∀ q, vwCl[k]? = some q → u_Kn s q.1 q.2.1 q.2.2 c i := by
    intro k
    cases hq : vwCl[k]? with
    | none => exact ⟨0, fun _ => 0, fun q h => by cases h⟩
    | some q =>
      obtain ⟨w, hwm, hw2⟩ := List.any_eq_true.mp (List.all_eq_true.mp in_b q (List.mem_of_getElem? hq))
      split at hw2
      · next C n =>
        have e := of_decide_eq_true hw2
        obtain ⟨cC, iS, hk⟩ := u_known (C := q.1) (T := q.2.1) (N := q.2.2) (n := n) hts (fun w hw9 => bw_tbl ((hw.2.2.2.2.2.2.2.1 k q hq).1 w hw9)) (by rw [← e]; exact hts _ hwm)
        exact ⟨cC, iS, fun q2 h => by cases h; exact hk⟩
      · cases hw2
  obtain ⟨dC, h2⟩ := Classical.axiomOfChoice h1
  obtain ⟨dI, h3⟩ := Classical.axiomOfChoice h2
  obtain ⟨cI, kI, pI, i1, i2, i3⟩ := Cond.arrayClass_spec (type := .int) (hts _ (bw_tbl (tblB_bw ar_int)))
  obtain ⟨cL, kL, pL, l1, l2, l3⟩ := Cond.arrayClass_spec (type := .long) (hts _ (bw_tbl (tblB_bw ar_long)))
  obtain ⟨pS, cS, kS, s1, _, s3, s4, s5⟩ := Cond.arrayOver_spec (n := "HotPanLocks$State") (hts _ (tblB_in ao_b))
  refine ⟨(dC, dI), (cI, cL, cS), fun k q hq => h3 k q hq, fun k q hq => ?_⟩
  match k, hq with
  | 0, hq => cases hq; exact ⟨fun N z => ⟨(fun k h => by cases h), kI, i2, pI, i3⟩, i1⟩
  | 1, hq => cases hq; exact ⟨fun N z => ⟨(fun k h => by cases h), kL, l2, pL, l3⟩, l1⟩
  | 2, hq => cases hq; exact ⟨fun N z => ⟨(fun k h => by cases h), kS, s3, pS, s4⟩, kS, pS, s3, s4, s1, s5⟩
  | k + 3, hq => cases hq
theorem start_E {s : State} {args : Array Value} (hts : ∀ w ∈ lw_tbl, w.before args s = true) (hgv : (Jvm.Cond.and given_1 narrow_1).before args s = true) : EX (fun q => s.heap.size ≤ q) s := by
  have hz := zq_b
  rw [Bool.and_eq_true, Bool.and_eq_true] at hz
  have hg := gv_b
  rw [Bool.and_eq_true] at hg
  have hA : ∀ a : Nat, a < s.heap.size → ¬ (fun q => s.heap.size ≤ q) a := fun a h q => absurd q (Nat.not_le.mpr h)
  refine ⟨fun w hw hx => ?_, fun k tx hk => ?_, vx_Zqof (hts _ (tblB_in hz.1.1)) (hts _ (tblB_in hz.2)) (gv_of hgv hg.1) hA, vx_Zqof (hts _ (tblB_in hz.1.2)) (hts _ (tblB_in hz.2)) (gv_of hgv hg.2) hA, fun x y hx hy hn => ?_⟩
  · have k := hts w hw
    unfold isXW at hx
    split at hx
    · exact va_Nw.of rfl k
    · exact va_Nw.of rfl k
    · cases hx
  · have h1 := hts _ hk
    have hcur : ∃ cur, s.vm.findClass "HotPanLocks" = some cur := by
      have h2 := h1
      simp only [Cond.before, Cond.holds, Cond.value] at h2
      cases hc : s.vm.findClass "HotPanLocks" with
      | none => simp [hc] at h2
      | some cur => exact ⟨cur, rfl⟩
    obtain ⟨cur, hcur⟩ := hcur
    obtain ⟨k9, cf, i, a, hk9, hcf, hcp, _, hr, hev⟩ := Cond.stringRef_spec hcur h1
    exact ⟨a, vk_R.of h1 hev⟩
  · refine va_Nc.of (gv_of hgv ?_)
    have h1 := gv_c
    have hx : x ∈ [40, 50, 58] := by rcases hx with rfl | rfl | rfl <;> simp
    have hy : y ∈ [40, 50, 58] := by rcases hy with rfl | rfl | rfl <;> simp
    have h2 := List.all_eq_true.mp (List.all_eq_true.mp h1 x hx) y hy
    rw [Bool.or_eq_true] at h2
    rcases h2 with h2 | h2
    · exact absurd (Nat.eq_of_beq_eq_true h2) hn
    · exact h2
set_option maxRecDepth 100000 in
theorem at_end : asc (mT ML_law) 1529 = some (.ireturn, 1) := by decide +kernel
set_option maxRecDepth 100000 in
set_option maxHeartbeats 4000000 in
theorem start_0 {p : Program} {e : Env} {s : State} {m : MethodId} {below : List Frame} {meth : Method} {c : Code} (l : Launch) (hflags : l.flags = flags0) {b L : Nat} {xs : Nat → Int32} (hL : L ≤ 2560) (C0 : lw_At p s m meth c b L xs) (hw : WOK) (hdcs : ∀ o, ∀ q ∈ clk o, dcG q.2.2) (hdcL : ∀ M ∈ WL, dcG M) (hdc1 : dcG MX1_init) (hdc2 : dcG MX2_init) (hdc0 : dcG MX0_init) (hdc3 : dcG MX3_init) (hdc4 : dcG MX4_init) (hdc5 : dcG MX5_init) (hdcl : dcG ML_law) : W p l e room_1 s m #[Value.ref b] below meth c s.heap [] 0 0 (lw_Z below #[Value.ref b] s) (entryFrame m ([Value.ref b] : List Value).toArray 9) := by
  obtain ⟨hx, hb, hr, hml, hown, hts, hX, hbl, hlocks, hgv⟩ := id C0
  have hst : l.stackTraces = false := by
    unfold Launch.stackTraces
    rw [hflags]
    decide +kernel
  obtain ⟨D, A, hK⟩ := start_K hw hts
  have hNW : ∀ w ∈ NW, va_Nw w s := fun w hw9 => by
    have h9 := hts w (List.mem_filter.mp hw9).1
    obtain ⟨_, _, _, _, rfl⟩ := nw_nest hw9
    exact va_Nw.of rfl h9
  have hTB : TB A D (fun q => s.heap.size ≤ q) b L xs s := ⟨hK, hNW, hX, hbl, fun q h => h, Nat.not_le.mpr hbl⟩
  have hTN : TN A D (fun q => s.heap.size ≤ q) s := ⟨hK, va_AO.of (hts _ (tblB_in ao_b)), fun q h => h, hNW⟩
  have hbw : ∀ w ∈ BW, w.before #[Value.ref b] s = true := fun w hw9 => hts w (bw_tbl hw9)
  have CC : CxC A D (fun q => s.heap.size ≤ q) ML_law p s m #[Value.ref b] meth c := ⟨hx, hb, hml, hown, hbw, Or.inl rfl, hlocks, Or.inl rfl, hdcl, hTN⟩
  have CL : Cx A D (fun q => s.heap.size ≤ q) b L xs ML_law p room_1 s m #[Value.ref b] meth c := ⟨hx, hb, hml, hown, hbw, hr, hlocks, by decide, by decide, by decide, by decide, hdcl, hTB⟩
  have hE := start_E hts hgv
  have hl := lv_entry ([.ref b]) (n := 9) (Nat.le_of_ble_eq_true rfl)
  rw [lg_entry_eq]
  generalize (lg_sl ([.ref b]) ++ List.replicate (9 - (lg_sl ([.ref b])).length) Slot.unset).toArray = ls at hl ⊢
  have hl : lv_has ls 9 [(0, .ref b)] := hl
  refine law_made hw hdcs hdc1 hdc2 hdc0 hdc3 hdc4 hdc5 CC ⟨by decide, by decide, by decide, by decide⟩ hl ?_
  intro x s0 n0 b0 s1 n1 b1 h ha L9 t tq tb md z0 z1 z2 z3 z4 out H1 locs1 ls1 hL9 hP hD hS hl1
  obtain ⟨hPw, hDw⟩ := all_made (L9 := L) (xs := xs) (b := b) hL9 hP hD
  have hZ : LOK (A, D, adF ((s0, n0, b0) :: (s1, n1, b1) :: L9) x h ha t tq tb md z0 z1 z2 z3 z4 out b, (fun q => s.heap.size ≤ q), b, L, xs, p, l, e, room_1, s, m, #[Value.ref b], below, meth, c, lw_Z below #[Value.ref b] s) := ⟨hw, hdcs, rfl, hst, CL, hE⟩
  have hend : ∀ i m9, LW (A, D, adF ((s0, n0, b0) :: (s1, n1, b1) :: L9) x h ha t tq tb md z0 z1 z2 z3 z4 out b, (fun q => s.heap.size ≤ q), b, L, xs, p, l, e, room_1, s, m, #[Value.ref b], below, meth, c, lw_Z below #[Value.ref b] s) 0 1529 (LLi i) [vI 1] m9 := by
    intro i m9 H2 locs2 ls2 cells slots q1 q2 hP2 hD2 hS2 hl2 hs2
    refine va_forget (fun q hq => hS2.2.2 q hq) ?_
    refine W.widen (k := 601024) (n := 7293034) q1 q2 ?_
    exact lw_ret (d0 := s.drawn) (Drawn.sameBut.refl s.drawn lw_cs) hx hb hr hlocks (dc_at hdcl at_end)
  have hloop := law_loop hZ hdcL hL hend 512 0 (m := m0 L xs) (s := 0) (len := 0) (K := 0) (by show L < 0 + 5 * 512 + 5; omega) (Nat.zero_le _) (by omega) wr_0
  refine hloop H1 locs1 ls1 197 4713 (show (197 + 512 : Nat) ≤ 601024 by decide) (show (4713 + 6 * 512 : Nat) ≤ 7293034 by decide) ⟨hPw, rfl, by show L < 2 ^ 31; omega, fun i hi => rfl⟩ hDw hS ⟨rfl, ?_, ?_⟩ (fun v hv => nomatch hv)
  · exact lv_sub hl1 [4, 3, 2, 1, 0] rfl
  · intro k v hk
    rcases (show k = 0 ∨ k = 1 ∨ k = 2 ∨ k = 3 ∨ k = 4 ∨ k = 5 ∨ k = 6 ∨ k = 7 ∨ k = 8 ∨ 9 ≤ k by omega) with rfl | rfl | rfl | rfl | rfl | rfl | rfl | rfl | rfl | hk9
    · cases hk; rfl
    · cases hk; rfl
    · cases hk; rfl
    · cases hk; rfl
    · cases hk; rfl
    · cases hk
    · cases hk
    · cases hk
    · cases hk
    · rw [List.getElem?_eq_none (by exact hk9)] at hk
      cases hk
end
