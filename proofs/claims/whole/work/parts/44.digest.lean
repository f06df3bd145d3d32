/-! mixRow, digest -/
def b_X5_mixRow_1 (r : Nat) (j : Nat) (s : PM) : PM := w_X5_mix s (v_X5_rowNow s r (nI j)).toInt64
def b_X5_mixRow_2 (r : Nat) (j : Nat) (s : PM) : PM := w_X5_mix (w_X5_mix s (v_X5_whoAt s r j).toInt64) (v_X5_modeAt (w_X5_mix s (v_X5_whoAt s r j).toInt64) r j).toInt64
def b_X5_mixRow_3 (r : Nat) (j : Nat) (s : PM) : PM := w_X5_mix (w_X5_askedThen s 0 r 3) (v_X5_askedThen s 0 r 3 (nI j)).toInt64
def mixRow_1 (m : PM) (r : Nat) : PM := lp (b_X5_mixRow_1 r) 6 0 m
def mixRow_2 (m : PM) (r : Nat) : PM := lp (b_X5_mixRow_2 r) (qn m r) 0 (mixRow_1 m r)
def mixRow_3 (m : PM) (r : Nat) : PM := w_X5_mix (w_X5_burnsNow (mixRow_2 m r) r) (v_X5_burnsNow (mixRow_2 m r) r).toInt64
def mixRow_4 (m : PM) (r : Nat) : PM := lp (b_X5_mixRow_3 r) 3 0 (mixRow_3 m r)
def w_X5_mixRow (m : PM) (r : Nat) : PM := w_X5_mix (mixRow_4 m r) (v_X5_takersNow (mixRow_4 m r) 0 r).toInt64
theorem zz_mr1 (m : PM) (r : Nat) : zz (mixRow_1 m r) = zz m := lp_inv (b_X5_mixRow_1 r) 6 (fun _ s => zz s = zz m) (fun _ _ _ hs => hs) 6 0 m rfl rfl
theorem zz_mr2 (m : PM) (r : Nat) : zz (mixRow_2 m r) = zz m := lp_inv (b_X5_mixRow_2 r) (qn m r) (fun _ s => zz s = zz m) (fun _ _ _ hs => hs) (qn m r) 0 (mixRow_1 m r) (Nat.add_zero _) (zz_mr1 m r)
theorem j_mr3 {J : (Nat → Int32) → Prop} (hJ : JJ J) {m : PM} (r : Nat) (h0 : J (zz m)) : J (zz (mixRow_3 m r)) := by
  unfold mixRow_3
  rw [zz_mix]
  exact j_burns hJ (by rw [zz_mr2]; exact h0)
theorem j_mr4 {J : (Nat → Int32) → Prop} (hJ : JJ J) {m : PM} (r : Nat) (h0 : J (zz m)) : J (zz (mixRow_4 m r)) := by
  refine lp_inv (b_X5_mixRow_3 r) 3 (fun _ s => J (zz s)) (fun j s hj hs => ?_) 3 0 (mixRow_3 m r) rfl (j_mr3 hJ r h0)
  unfold b_X5_mixRow_3
  rw [zz_mix]
  exact j_asked hJ hs
theorem j_mixRow {J : (Nat → Int32) → Prop} (hJ : JJ J) {m : PM} (r : Nat) (h0 : J (zz m)) : J (zz (w_X5_mixRow m r)) := by
  unfold w_X5_mixRow
  rw [zz_mix]
  exact j_mr4 hJ r h0
theorem r_X5_mixRow {J : (Nat → Int32) → Prop} (hJ : JJ J) (m : PM) (r : Nat) (hr : r < 12) (h0 : J (zz m)) : Rn MX5_mixRow [vR 7 0 0, vI (nI r)] m none (w_X5_mixRow m r) := by
  have hq := hJ.1 _ h0
  have hqr := hq r hr
  refine rn_of [some (vR 7 0 0), some (vI (nI r)), none] rfl ?_
  refine an_b 2 (pc2 := 2) (L2 := [some (vR 7 0 0), some (vI (nI r)), some (vI 0)]) (st2 := []) (m1 := m) rfl ?_
  refine re_lp (σ := PM) (b_X5_mixRow_1 r) (fun j s => (2, [some (vR 7 0 0), some (vI (nI r)), some (vI (nI j))], [], s)) 6 (fun s => (25, [some (vR 7 0 0), some (vI (nI r)), some (vI (nI 6))], [], s)) (fun j s hj v9 m9 K => ?_) (fun s v9 m9 K => ?_) 6 0 m rfl _ _ ?_
  · show An MX5_mixRow 2 [some (vR 7 0 0), some (vI (nI r)), some (vI (nI j))] [] s v9 m9
    refine an_b 3 (pc2 := if (6 : Int32) ≤ nI j then 25 else 8) (L2 := [some (vR 7 0 0), some (vI (nI r)), some (vI (nI j))]) (st2 := []) (m1 := s) rfl ?_
    refine an_f (nI_ge (a := j) (b := 6) (by omega) (by omega)) ?_
    refine an_b 4 (pc2 := 12) (L2 := [some (vR 7 0 0), some (vI (nI r)), some (vI (nI j))]) (st2 := [vI (nI j), vI (nI r), vR 7 0 0, vR 7 0 0]) (m1 := s) rfl ?_
    refine an_call (r_X5_rowNow s r (nI j) hr) rfl rfl rfl rfl ?_
    refine an_b 1 (pc2 := 16) (L2 := [some (vR 7 0 0), some (vI (nI r)), some (vI (nI j))]) (st2 := [vL (v_X5_rowNow s r (nI j)).toInt64, vR 7 0 0]) (m1 := s) rfl ?_
    refine an_call (r_X5_mix s (v_X5_rowNow s r (nI j)).toInt64) rfl rfl rfl rfl ?_
    refine an_b 2 (pc2 := 2) (L2 := [some (vR 7 0 0), some (vI (nI r)), some (vI (nI j + 1))]) (st2 := []) (m1 := b_X5_mixRow_1 r j s) rfl ?_
    rw [nI_1]
    exact K
  · show An MX5_mixRow 2 [some (vR 7 0 0), some (vI (nI r)), some (vI (nI 6))] [] s v9 m9
    refine an_b 3 (pc2 := if (6 : Int32) ≤ nI 6 then 25 else 8) (L2 := [some (vR 7 0 0), some (vI (nI r)), some (vI (nI 6))]) (st2 := []) (m1 := s) rfl ?_
    exact an_t (by decide) K
  show An MX5_mixRow 25 [some (vR 7 0 0), some (vI (nI r)), some (vI (nI 6))] [] (mixRow_1 m r) _ _
  refine an_b 2 (pc2 := 27) (L2 := [some (vR 7 0 0), some (vI (nI r)), some (vI 0)]) (st2 := []) (m1 := mixRow_1 m r) rfl ?_
  have hn8 : qn m r ≤ 8 := hqr.2.1
  refine re_lpi (σ := PM) (b_X5_mixRow_2 r) (fun _ s => zz s = zz m) (fun j s => (27, [some (vR 7 0 0), some (vI (nI r)), some (vI (nI j))], [], s)) (qn m r) (fun s => (68, [some (vR 7 0 0), some (vI (nI r)), some (vI (nI (qn m r)))], [], s)) (fun j s hj hs => hs) (fun j s hj hs v9 m9 K => ?_) (fun s hs v9 m9 K => ?_) (qn m r) 0 (mixRow_1 m r) (Nat.add_zero _) (zz_mr1 m r) _ _ ?_
  · show An MX5_mixRow 27 [some (vR 7 0 0), some (vI (nI r)), some (vI (nI j))] [] s v9 m9
    refine an_b 6 (pc2 := 36) (L2 := [some (vR 7 0 0), some (vI (nI r)), some (vI (nI j))]) (st2 := [vI ((125 : Int32) + nI r), vR 8 0 0, vI (nI j)]) (m1 := s) rfl ?_
    refine an_ald (125 + r) 361 rfl rfl (by simp only [ix_lit, nI_add]) (by omega) (by omega) ?_
    rw [show s.1 8 0 0 (125 + r) = nI (qn m r) from (congrFun hs (125 + r)).trans hqr.1]
    refine an_b 1 (pc2 := if nI (qn m r) ≤ nI j then 68 else 40) (L2 := [some (vR 7 0 0), some (vI (nI r)), some (vI (nI j))]) (st2 := []) (m1 := s) rfl ?_
    refine an_f (nI_ge (by omega) (by omega)) ?_
    refine an_b 4 (pc2 := 44) (L2 := [some (vR 7 0 0), some (vI (nI r)), some (vI (nI j))]) (st2 := [vI (nI j), vI (nI r), vR 7 0 0, vR 7 0 0]) (m1 := s) rfl ?_
    refine an_call (r_X5_whoAt s r j hr (by omega)) rfl rfl rfl rfl ?_
    refine an_b 1 (pc2 := 48) (L2 := [some (vR 7 0 0), some (vI (nI r)), some (vI (nI j))]) (st2 := [vL (v_X5_whoAt s r j).toInt64, vR 7 0 0]) (m1 := s) rfl ?_
    refine an_call (r_X5_mix s (v_X5_whoAt s r j).toInt64) rfl rfl rfl rfl ?_
    refine an_b 4 (pc2 := 55) (L2 := [some (vR 7 0 0), some (vI (nI r)), some (vI (nI j))]) (st2 := [vI (nI j), vI (nI r), vR 7 0 0, vR 7 0 0]) (m1 := w_X5_mix s (v_X5_whoAt s r j).toInt64) rfl ?_
    refine an_call (r_X5_modeAt (w_X5_mix s (v_X5_whoAt s r j).toInt64) r j hr (by omega)) rfl rfl rfl rfl ?_
    refine an_b 1 (pc2 := 59) (L2 := [some (vR 7 0 0), some (vI (nI r)), some (vI (nI j))]) (st2 := [vL (v_X5_modeAt (w_X5_mix s (v_X5_whoAt s r j).toInt64) r j).toInt64, vR 7 0 0]) (m1 := w_X5_mix s (v_X5_whoAt s r j).toInt64) rfl ?_
    refine an_call (r_X5_mix _ _) rfl rfl rfl rfl ?_
    refine an_b 2 (pc2 := 27) (L2 := [some (vR 7 0 0), some (vI (nI r)), some (vI (nI j + 1))]) (st2 := []) (m1 := b_X5_mixRow_2 r j s) rfl ?_
    rw [nI_1]
    exact K
  · show An MX5_mixRow 27 [some (vR 7 0 0), some (vI (nI r)), some (vI (nI (qn m r)))] [] s v9 m9
    refine an_b 6 (pc2 := 36) (L2 := [some (vR 7 0 0), some (vI (nI r)), some (vI (nI (qn m r)))]) (st2 := [vI ((125 : Int32) + nI r), vR 8 0 0, vI (nI (qn m r))]) (m1 := s) rfl ?_
    refine an_ald (125 + r) 361 rfl rfl (by simp only [ix_lit, nI_add]) (by omega) (by omega) ?_
    rw [show s.1 8 0 0 (125 + r) = nI (qn m r) from (congrFun hs (125 + r)).trans hqr.1]
    refine an_b 1 (pc2 := if nI (qn m r) ≤ nI (qn m r) then 68 else 40) (L2 := [some (vR 7 0 0), some (vI (nI r)), some (vI (nI (qn m r)))]) (st2 := []) (m1 := s) rfl ?_
    exact an_t (nI_le (Nat.le_refl _) (by omega)) K
  show An MX5_mixRow 68 [some (vR 7 0 0), some (vI (nI r)), some (vI (nI (qn m r)))] [] (mixRow_2 m r) _ _
  generalize qn m r = n
  have q2 : QA (zz (mixRow_2 m r)) := by rw [zz_mr2]; exact hq
  refine an_b 3 (pc2 := 71) (L2 := [some (vR 7 0 0), some (vI (nI r)), some (vI (nI n))]) (st2 := [vI (nI r), vR 7 0 0, vR 7 0 0]) (m1 := mixRow_2 m r) rfl ?_
  refine an_call (r_X5_burnsNow (mixRow_2 m r) r hr q2) rfl rfl rfl rfl ?_
  refine an_b 1 (pc2 := 75) (L2 := [some (vR 7 0 0), some (vI (nI r)), some (vI (nI n))]) (st2 := [vL (v_X5_burnsNow (mixRow_2 m r) r).toInt64, vR 7 0 0]) (m1 := w_X5_burnsNow (mixRow_2 m r) r) rfl ?_
  refine an_call (r_X5_mix _ _) rfl rfl rfl rfl ?_
  refine an_b 2 (pc2 := 80) (L2 := [some (vR 7 0 0), some (vI (nI r)), some (vI 0)]) (st2 := []) (m1 := mixRow_3 m r) rfl ?_
  refine re_lpi (σ := PM) (b_X5_mixRow_3 r) (fun _ s => J (zz s)) (fun j s => (80, [some (vR 7 0 0), some (vI (nI r)), some (vI (nI j))], [], s)) 3 (fun s => (104, [some (vR 7 0 0), some (vI (nI r)), some (vI (nI 3))], [], s)) (fun j s hj hs => ?_) (fun j s hj hs v9 m9 K => ?_) (fun s hs v9 m9 K => ?_) 3 0 (mixRow_3 m r) rfl (j_mr3 hJ r h0) _ _ ?_
  · unfold b_X5_mixRow_3
    rw [zz_mix]
    exact j_asked hJ hs
  · show An MX5_mixRow 80 [some (vR 7 0 0), some (vI (nI r)), some (vI (nI j))] [] s v9 m9
    refine an_b 3 (pc2 := if (3 : Int32) ≤ nI j then 104 else 85) (L2 := [some (vR 7 0 0), some (vI (nI r)), some (vI (nI j))]) (st2 := []) (m1 := s) rfl ?_
    refine an_f (nI_ge (a := j) (b := 3) (by omega) (by omega)) ?_
    refine an_b 6 (pc2 := 91) (L2 := [some (vR 7 0 0), some (vI (nI r)), some (vI (nI j))]) (st2 := [vI (nI j), vI 3, vI (nI r), vI (nI 0), vR 7 0 0, vR 7 0 0]) (m1 := s) rfl ?_
    refine an_call (rr_askedThen hJ s 0 r 3 (nI j) (by omega) hr (Or.inr (Or.inr rfl)) hs) rfl rfl rfl rfl ?_
    refine an_b 1 (pc2 := 95) (L2 := [some (vR 7 0 0), some (vI (nI r)), some (vI (nI j))]) (st2 := [vL (v_X5_askedThen s 0 r 3 (nI j)).toInt64, vR 7 0 0]) (m1 := w_X5_askedThen s 0 r 3) rfl ?_
    refine an_call (r_X5_mix _ _) rfl rfl rfl rfl ?_
    refine an_b 2 (pc2 := 80) (L2 := [some (vR 7 0 0), some (vI (nI r)), some (vI (nI j + 1))]) (st2 := []) (m1 := b_X5_mixRow_3 r j s) rfl ?_
    rw [nI_1]
    exact K
  · show An MX5_mixRow 80 [some (vR 7 0 0), some (vI (nI r)), some (vI (nI 3))] [] s v9 m9
    refine an_b 3 (pc2 := if (3 : Int32) ≤ nI 3 then 104 else 85) (L2 := [some (vR 7 0 0), some (vI (nI r)), some (vI (nI 3))]) (st2 := []) (m1 := s) rfl ?_
    exact an_t (by decide) K
  show An MX5_mixRow 104 [some (vR 7 0 0), some (vI (nI r)), some (vI (nI 3))] [] (mixRow_4 m r) _ _
  have j4 := j_mr4 hJ r h0
  refine an_b 4 (pc2 := 108) (L2 := [some (vR 7 0 0), some (vI (nI r)), some (vI (nI 3))]) (st2 := [vI (nI r), vI (nI 0), vR 7 0 0, vR 7 0 0]) (m1 := mixRow_4 m r) rfl ?_
  refine an_call (r_X5_takersNow (mixRow_4 m r) 0 r (by omega) hr (ql_of (hJ.1 _ j4))) rfl rfl rfl rfl ?_
  refine an_b 1 (pc2 := 112) (L2 := [some (vR 7 0 0), some (vI (nI r)), some (vI (nI 3))]) (st2 := [vL (v_X5_takersNow (mixRow_4 m r) 0 r).toInt64, vR 7 0 0]) (m1 := mixRow_4 m r) rfl ?_
  refine an_call (r_X5_mix _ _) rfl rfl rfl rfl ?_
  exact an_ret rfl rfl rfl rfl rfl
/-! the double's bits -/
def v_isNaN (x : UInt64) : Int32 := if Op.cmpValue (FP.dcmp x x) .l = 0 then 0 else 1
theorem r_isNaN (x : UInt64) (m : PM) : Rn MJxe99ae_isNaN_b9ae7 [vD x] m (some (vI (v_isNaN x))) m := by
  refine rn_of [some (vD x), none] rfl ?_
  unfold v_isNaN
  refine an_b 4 (pc2 := if Op.cmpValue (FP.dcmp x x) .l = 0 then 10 else 6) (L2 := [some (vD x), none]) (st2 := []) (m1 := m) rfl ?_
  refine an_ifi (fun h => ?_) (fun h => ?_)
  · refine an_b 1 (pc2 := 11) (L2 := [some (vD x), none]) (st2 := [vI 0]) (m1 := m) rfl ?_
    exact an_ret rfl rfl rfl rfl rfl
  · refine an_b 2 (pc2 := 11) (L2 := [some (vD x), none]) (st2 := [vI 1]) (m1 := m) rfl ?_
    exact an_ret rfl rfl rfl rfl rfl
def v_dtl (x : UInt64) : Int64 := if ¬ v_isNaN x = 0 then (9221120237041090560 : Int64) else x.toInt64
theorem r_dtl (x : UInt64) (m : PM) : Rn MJxe99ae_doubleToLongBits_ccdee [vD x] m (some (vL (v_dtl x))) m := by
  refine rn_of [some (vD x), none] rfl ?_
  unfold v_dtl
  refine an_b 1 (pc2 := 1) (L2 := [some (vD x), none]) (st2 := [vD x]) (m1 := m) rfl ?_
  refine an_call (r_isNaN x m) rfl rfl rfl rfl ?_
  refine an_b 1 (pc2 := if ¬ v_isNaN x = 0 then 12 else 7) (L2 := [some (vD x), none]) (st2 := []) (m1 := m) rfl ?_
  refine an_ifl (fun h => ?_) (fun h => ?_)
  · refine an_b 1 (pc2 := 15) (L2 := [some (vD x), none]) (st2 := [vL (9221120237041090560 : Int64)]) (m1 := m) rfl ?_
    exact an_ret rfl rfl rfl rfl rfl
  · refine an_b 2 (pc2 := 11) (L2 := [some (vD x), none]) (st2 := [vL x.toInt64]) (m1 := m) rfl ?_
    exact an_ret rfl rfl rfl rfl rfl
