/-! from the law's entry to its end -/
section
def inB : Bool := vwCl.all fun q => lw_tbl.any fun w => match w with
  | .instantiable C _ => decide (C = q.1)
  | _ => false
set_option maxRecDepth 100000 in
theorem in_b : inB = true := by decide +kernel
set_option maxRecDepth 100000 in
theorem ao_b : tblB (Cond.arrayOver (.object "HotPanLocks$State")) = true := by decide +kernel
theorem start_K {s : State} {args : Array Value} (hw : WOK) (hts : ∀ w ∈ lw_tbl, w.before args s = true) : ∃ (D : va_G) (A : AC), va_K D vwCl (tys A) s := by
  have h1 : ∀ k : Nat, ∃ (c : ClassId) (i : Nat → Nat), ∀ q, vwCl[k]? = some q → u_Kn s q.1 q.2.1 q.2.2 c i := by
    intro k
    cases hq : vwCl[k]? with
    | none => exact ⟨0, fun _ => 0, fun q h => by cases h⟩
    | some q =>
      obtain ⟨w, hwm, hw2⟩ := List.any_eq_true.mp (List.all_eq_true.mp in_b q (List.mem_of_getElem? hq))
      split at hw2
      · next C n =>
        have e := of_decide_eq_true hw2
        obtain ⟨cC, iS, hk⟩ := u_known (C := q.1) (T := q.2.1) (N := q.2.2) (n := n) hts (fun w hw9 => bw_tbl ((hw.2.2.2.2.2.2.2.1 k q hq).1 w hw9)) (by rw [← e]; exact hts _ hwm)
        exact ⟨cC, iS, fun q2 h => by cases h; exact hk⟩
      · cases hw2
  obtain ⟨dC, h2⟩ := Classical.axiomOfChoice h1
  obtain ⟨dI, h3⟩ := Classical.axiomOfChoice h2
  obtain ⟨cI, kI, pI, i1, i2, i3⟩ := Cond.arrayClass_spec (type := .int) (hts _ (bw_tbl (tblB_bw ar_int)))
  obtain ⟨pS, cS, kS, s1, _, s3, s4, s5⟩ := Cond.arrayOver_spec (n := "HotPanLocks$State") (hts _ (tblB_in ao_b))
  refine ⟨(dC, dI), (cI, cI, cS), fun k q hq => h3 k q hq, fun k q hq => ?_⟩
  match k, hq with
  | 0, hq => cases hq; exact ⟨fun N z => ⟨(fun k h => by cases h), kI, i2, pI, i3⟩, i1⟩
  | 1, hq => cases hq; exact ⟨fun N z => ⟨(fun k h => by cases h), kS, s3, pS, s4⟩, kS, pS, s3, s4, s1, s5⟩
  | k + 2, hq => cases hq
set_option maxRecDepth 100000 in
set_option maxHeartbeats 4000000 in
theorem start_0 {p : Program} {e : Env} {s : State} {m : MethodId} {below : List Frame} {meth : Method} {c : Code} (l : Launch) {b L : Nat} {xs : Nat → Int32} (hL : L ≤ 260) (C0 : lw_At p s m meth c b L xs) (hw : WOK) (hdcs : ∀ o, ∀ q ∈ clk o, dcG q.2.2) (hdc1 : dcG MX1_init) (hdc2 : dcG MX2_init) (hdc0 : dcG MX0_init) (hdc3 : dcG MX3_init) (hdc4 : dcG MX4_init) (hdcl : dcG ML_law) : W p l e room_1 s m #[Value.ref b] below meth c s.heap [] 0 0 (lw_Z below #[Value.ref b] s) (entryFrame m ([Value.ref b] : List Value).toArray 12) := by
  obtain ⟨hx, hb, hr, hml, hown, hts, hX, hbl, hlocks, hgv⟩ := id C0
  obtain ⟨D, A, hK⟩ := start_K hw hts
  have hNW : ∀ w ∈ NW, va_Nw w s := fun w hw9 => by
    have h9 := hts w (List.mem_filter.mp hw9).1
    obtain ⟨_, _, _, _, rfl⟩ := nw_nest hw9
    exact va_Nw.of rfl h9
  have hTB : TB A D (fun q => s.heap.size ≤ q) b L xs s := ⟨hK, hNW, hX, hbl, fun q h => h, Nat.not_le.mpr hbl⟩
  have hTN : TN A D (fun q => s.heap.size ≤ q) s := ⟨hK, va_AO.of (hts _ (tblB_in ao_b)), fun q h => h, hNW⟩
  have hbw : ∀ w ∈ BW, w.before #[Value.ref b] s = true := fun w hw9 => hts w (bw_tbl hw9)
  have CC : CxC A D (fun q => s.heap.size ≤ q) ML_law p s m #[Value.ref b] meth c := ⟨hx, hb, hml, hown, hbw, Or.inl rfl, hlocks, Or.inl rfl, hdcl, hTN⟩
  have CL : Cx A D (fun q => s.heap.size ≤ q) b L xs ML_law p room_1 s m #[Value.ref b] meth c := ⟨hx, hb, hml, hown, hbw, hr, hlocks, by decide, by decide, by decide, by decide, hdcl, hTB⟩
  have hl := lv_entry ([.ref b]) (n := 12) (Nat.le_of_ble_eq_true rfl)
  rw [lg_entry_eq]
  generalize (lg_sl ([.ref b]) ++ List.replicate (12 - (lg_sl ([.ref b])).length) Slot.unset).toArray = ls at hl ⊢
  have hl : lv_has ls 12 [(0, .ref b)] := hl
  refine law_made hw hdcs hdc1 hdc2 hdc0 hdc3 hdc4 CC ⟨by decide, by decide, by decide, by decide⟩ hl ?_
  intro x s0 n0 b0 s1 n1 b1 h ha L9 t tq tb q0 q1 q2 q3 q4 q5 q6 q7 q8 H1 locs1 ls1 hL9 hP hD hS hl1
  obtain ⟨hPw, hDw⟩ := all_made (L9 := L) (xs := xs) (b := b) hL9 hP hD
  obtain ⟨M2, a2, k⟩ := an_law0 (L9 := L) (M := m0 L xs) (m := g0) (a := fun _ _ => 0) (s := 0) (len := 0) (K := 0) (by omega) wr_s la_0 (by rw [sA_o _ _ (by decide)]; rfl)
  rw [sA_0] at k
  obtain ⟨pcE, LE, stE, ⟨n, hn⟩, ho⟩ := k
  have hret := sm_out_inl ho
  have G := go_ok (A := A) (D := D) (ad := adF ((s0, n0, b0) :: (s1, n1, b1) :: L9) x h ha t tq tb q0 q1 q2 q3 q4 q5 q6 q7 q8 b) (Ba := fun q => s.heap.size ≤ q) (bs := b) (L9 := L) (xs := xs) hw hdcs rfl l n ML_law 56 _ _ _ _ hn
  refine G p e room_1 s m #[Value.ref b] below meth c H1 locs1 199 1797 (lw_Z below #[Value.ref b] s) ls1 CL (by decide) (by decide) ⟨hPw, rfl, by omega, fun i hi => rfl⟩ hDw hS ⟨rfl, ?_, ?_⟩ (fun v hv => nomatch hv) (fun H2 locs2 ls2 hP2 hD2 hS2 hl2 hs2 => ?_)
  · exact lv_sub hl1 [10, 9, 8, 7, 6, 5, 4, 3, 2, 1, 0] rfl
  · intro k v hk
    rcases (show k = 0 ∨ k = 1 ∨ k = 2 ∨ k = 3 ∨ k = 4 ∨ k = 5 ∨ k = 6 ∨ k = 7 ∨ k = 8 ∨ k = 9 ∨ k = 10 ∨ k = 11 ∨ 12 ≤ k by omega) with rfl | rfl | rfl | rfl | rfl | rfl | rfl | rfl | rfl | rfl | rfl | rfl | hk9
    · cases hk; rfl
    · cases hk; rfl
    · cases hk; rfl
    · cases hk; rfl
    · cases hk; rfl
    · cases hk; rfl
    · cases hk; rfl
    · cases hk; rfl
    · cases hk; rfl
    · cases hk; rfl
    · cases hk; rfl
    · cases hk
    · rw [List.getElem?_eq_none (by exact hk9)] at hk
      cases hk
  · refine va_forget (fun q hq => hS2.2.2 q hq) ?_
    refine W.widen (k := 600104) (n := 7301314) (by decide) (by decide) ?_
    rcases sm_ret_ok hret with ⟨h1, z, ty, h2, _, _, h3⟩ | ⟨_, z, h2, h3, _⟩ | ⟨_, z, h2, h3, _⟩ | ⟨_, z, h2, h3, _⟩ | ⟨_, h2, h3, _⟩
    · cases h3
      dsimp only at h2 ⊢
      rw [h2]
      exact lw_ret hx hb hr hlocks (dc_at hdcl h1)
    · cases h3
    · cases h3
    · cases h3
    · cases h3
end
