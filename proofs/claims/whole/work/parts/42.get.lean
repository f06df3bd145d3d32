theorem ql_w7 {m : PM} {j : Nat} (v : Int32) (h : QL m) : QL (wI m 7 0 0 j v) := by
  intro r hr
  have e : (wI m 7 0 0 j v).1 8 0 0 (125 + r) = m.1 8 0 0 (125 + r) := congrFun (zz_w7 m j v) (125 + r)
  rw [e]
  exact h r hr
def v_X5_lock (m : PM) (a1 : Nat) (a2 : Nat) : Int32 := (if ((wI m 7 0 0 5 (if (v_X5_areThere m (nI a1) (nI a2)) = 0 then (1 : Int32) else (0 : Int32))).1 7 0 0 5) ≤ 0 then (v_X5_lockOf (wI m 7 0 0 5 (if (v_X5_areThere m (nI a1) (nI a2)) = 0 then (1 : Int32) else (0 : Int32))) a1 a2) else (0 : Int32))
def w_X5_lock (m : PM) (a1 : Nat) (a2 : Nat) : PM := (wI m 7 0 0 5 (if (v_X5_areThere m (nI a1) (nI a2)) = 0 then (1 : Int32) else (0 : Int32)))
set_option maxRecDepth 100000 in
theorem r_X5_lock (m : PM) (a1 : Nat) (a2 : Nat) (ha1 : a1 < 8) (ha2 : a2 < 12) : Rn MX5_lock [vR 7 0 0, vI (nI a1), vI (nI a2)] m (some (vI (v_X5_lock m a1 a2))) (w_X5_lock m a1 a2) := by
  refine rn_of [some (vR 7 0 0), some (vI (nI a1)), some (vI (nI a2))] rfl ?_
  unfold v_X5_lock w_X5_lock
  refine an_b 3 (pc2 := 3) (L2 := [some (vR 7 0 0), some (vI (nI a1)), some (vI (nI a2))]) (st2 := [vI (nI a2), vI (nI a1), vR 7 0 0]) (m1 := m) rfl ?_
  refine an_call (r_X5_areThere m (nI a1) (nI a2)) rfl rfl rfl rfl ?_
  refine an_b 1 (pc2 := if (v_X5_areThere m (nI a1) (nI a2)) = 0 then 13 else 9) (L2 := [some (vR 7 0 0), some (vI (nI a1)), some (vI (nI a2))]) (st2 := [vR 7 0 0]) (m1 := m) rfl ?_
  refine re_if1 (c := (v_X5_areThere m (nI a1) (nI a2)) = 0) (a := (1 : Int32)) (b := (0 : Int32)) (fun x => (14, [some (vR 7 0 0), some (vI (nI a1)), some (vI (nI a2))], [vI x, vR 7 0 0], m)) (fun h1 v9 m9 K2 => ?_) (fun h1 v9 m9 K2 => ?_) _ _ ?_
  · refine an_b 1 (pc2 := 14) (L2 := [some (vR 7 0 0), some (vI (nI a1)), some (vI (nI a2))]) (st2 := [vI (1 : Int32), vR 7 0 0]) (m1 := m) rfl ?_
    exact K2
  · refine an_b 2 (pc2 := 14) (L2 := [some (vR 7 0 0), some (vI (nI a1)), some (vI (nI a2))]) (st2 := [vI (0 : Int32), vR 7 0 0]) (m1 := m) rfl ?_
    exact K2
  refine an_b 4 (pc2 := if ((wI m 7 0 0 5 (if (v_X5_areThere m (nI a1) (nI a2)) = 0 then (1 : Int32) else (0 : Int32))).1 7 0 0 5) ≤ 0 then 28 else 24) (L2 := [some (vR 7 0 0), some (vI (nI a1)), some (vI (nI a2))]) (st2 := []) (m1 := (wI m 7 0 0 5 (if (v_X5_areThere m (nI a1) (nI a2)) = 0 then (1 : Int32) else (0 : Int32)))) rfl ?_
  refine an_ifi (c := ((wI m 7 0 0 5 (if (v_X5_areThere m (nI a1) (nI a2)) = 0 then (1 : Int32) else (0 : Int32))).1 7 0 0 5) ≤ 0) (fun h3 => ?_) (fun h3 => ?_)
  · refine an_b 3 (pc2 := 31) (L2 := [some (vR 7 0 0), some (vI (nI a1)), some (vI (nI a2))]) (st2 := [vI (nI a2), vI (nI a1), vR 7 0 0]) (m1 := (wI m 7 0 0 5 (if (v_X5_areThere m (nI a1) (nI a2)) = 0 then (1 : Int32) else (0 : Int32)))) rfl ?_
    refine an_call (r_X5_lockOf (wI m 7 0 0 5 (if (v_X5_areThere m (nI a1) (nI a2)) = 0 then (1 : Int32) else (0 : Int32))) a1 a2 (by omega) (by omega)) rfl rfl rfl rfl ?_
    exact an_ret rfl rfl rfl rfl rfl
  · refine an_b 2 (pc2 := 34) (L2 := [some (vR 7 0 0), some (vI (nI a1)), some (vI (nI a2))]) (st2 := [vI (0 : Int32)]) (m1 := (wI m 7 0 0 5 (if (v_X5_areThere m (nI a1) (nI a2)) = 0 then (1 : Int32) else (0 : Int32)))) rfl ?_
    exact an_ret rfl rfl rfl rfl rfl
def v_X5_hand (m : PM) (a1 : Nat) (a2 : Nat) : Int32 := (if ((wI m 7 0 0 5 (if ¬ (v_X5_isHand m (nI a1)) = 0 then (if (v_X5_within m (nI a2) (0 : Int32) (8 : Int32)) = 0 then (2 : Int32) else (0 : Int32)) else (1 : Int32))).1 7 0 0 5) ≤ 0 then (v_X5_handNow (wI m 7 0 0 5 (if ¬ (v_X5_isHand m (nI a1)) = 0 then (if (v_X5_within m (nI a2) (0 : Int32) (8 : Int32)) = 0 then (2 : Int32) else (0 : Int32)) else (1 : Int32))) a1 a2) else (0 : Int32))
def w_X5_hand (m : PM) (a1 : Nat) (a2 : Nat) : PM := (wI m 7 0 0 5 (if ¬ (v_X5_isHand m (nI a1)) = 0 then (if (v_X5_within m (nI a2) (0 : Int32) (8 : Int32)) = 0 then (2 : Int32) else (0 : Int32)) else (1 : Int32)))
set_option maxRecDepth 100000 in
theorem r_X5_hand (m : PM) (a1 : Nat) (a2 : Nat) (ha1 : a1 < 8) (ha2 : a2 < 9) (hQ : QL m) : Rn MX5_hand [vR 7 0 0, vI (nI a1), vI (nI a2)] m (some (vI (v_X5_hand m a1 a2))) (w_X5_hand m a1 a2) := by
  refine rn_of [some (vR 7 0 0), some (vI (nI a1)), some (vI (nI a2))] rfl ?_
  unfold v_X5_hand w_X5_hand
  refine an_b 2 (pc2 := 2) (L2 := [some (vR 7 0 0), some (vI (nI a1)), some (vI (nI a2))]) (st2 := [vI (nI a1), vR 7 0 0]) (m1 := m) rfl ?_
  refine an_call (r_X5_isHand m (nI a1)) rfl rfl rfl rfl ?_
  refine an_b 1 (pc2 := if ¬ (v_X5_isHand m (nI a1)) = 0 then 12 else 8) (L2 := [some (vR 7 0 0), some (vI (nI a1)), some (vI (nI a2))]) (st2 := [vR 7 0 0]) (m1 := m) rfl ?_
  refine re_if1 (c := ¬ (v_X5_isHand m (nI a1)) = 0) (a := (if (v_X5_within m (nI a2) (0 : Int32) (8 : Int32)) = 0 then (2 : Int32) else (0 : Int32))) (b := (1 : Int32)) (fun x => (27, [some (vR 7 0 0), some (vI (nI a1)), some (vI (nI a2))], [vI x, vR 7 0 0], m)) (fun h1 v9 m9 K4 => ?_) (fun h1 v9 m9 K4 => ?_) _ _ ?_
  · refine an_b 3 (pc2 := 16) (L2 := [some (vR 7 0 0), some (vI (nI a1)), some (vI (nI a2))]) (st2 := [vI (8 : Int32), vI (0 : Int32), vI (nI a2), vR 7 0 0]) (m1 := m) rfl ?_
    refine an_call (r_X5_within m (nI a2) (0 : Int32) (8 : Int32)) rfl rfl rfl rfl ?_
    refine an_b 1 (pc2 := if (v_X5_within m (nI a2) (0 : Int32) (8 : Int32)) = 0 then 26 else 22) (L2 := [some (vR 7 0 0), some (vI (nI a1)), some (vI (nI a2))]) (st2 := [vR 7 0 0]) (m1 := m) rfl ?_
    refine re_if1 (c := (v_X5_within m (nI a2) (0 : Int32) (8 : Int32)) = 0) (a := (2 : Int32)) (b := (0 : Int32)) (fun x => (27, [some (vR 7 0 0), some (vI (nI a1)), some (vI (nI a2))], [vI x, vR 7 0 0], m)) (fun h2 v9 m9 K3 => ?_) (fun h2 v9 m9 K3 => ?_) _ _ ?_
    · refine an_b 1 (pc2 := 27) (L2 := [some (vR 7 0 0), some (vI (nI a1)), some (vI (nI a2))]) (st2 := [vI (2 : Int32), vR 7 0 0]) (m1 := m) rfl ?_
      exact K3
    · refine an_b 2 (pc2 := 27) (L2 := [some (vR 7 0 0), some (vI (nI a1)), some (vI (nI a2))]) (st2 := [vI (0 : Int32), vR 7 0 0]) (m1 := m) rfl ?_
      exact K3
    exact K4
  · refine an_b 2 (pc2 := 27) (L2 := [some (vR 7 0 0), some (vI (nI a1)), some (vI (nI a2))]) (st2 := [vI (1 : Int32), vR 7 0 0]) (m1 := m) rfl ?_
    exact K4
  refine an_b 4 (pc2 := if ((wI m 7 0 0 5 (if ¬ (v_X5_isHand m (nI a1)) = 0 then (if (v_X5_within m (nI a2) (0 : Int32) (8 : Int32)) = 0 then (2 : Int32) else (0 : Int32)) else (1 : Int32))).1 7 0 0 5) ≤ 0 then 41 else 37) (L2 := [some (vR 7 0 0), some (vI (nI a1)), some (vI (nI a2))]) (st2 := []) (m1 := (wI m 7 0 0 5 (if ¬ (v_X5_isHand m (nI a1)) = 0 then (if (v_X5_within m (nI a2) (0 : Int32) (8 : Int32)) = 0 then (2 : Int32) else (0 : Int32)) else (1 : Int32)))) rfl ?_
  refine an_ifi (c := ((wI m 7 0 0 5 (if ¬ (v_X5_isHand m (nI a1)) = 0 then (if (v_X5_within m (nI a2) (0 : Int32) (8 : Int32)) = 0 then (2 : Int32) else (0 : Int32)) else (1 : Int32))).1 7 0 0 5) ≤ 0) (fun h5 => ?_) (fun h5 => ?_)
  · refine an_b 3 (pc2 := 44) (L2 := [some (vR 7 0 0), some (vI (nI a1)), some (vI (nI a2))]) (st2 := [vI (nI a2), vI (nI a1), vR 7 0 0]) (m1 := (wI m 7 0 0 5 (if ¬ (v_X5_isHand m (nI a1)) = 0 then (if (v_X5_within m (nI a2) (0 : Int32) (8 : Int32)) = 0 then (2 : Int32) else (0 : Int32)) else (1 : Int32)))) rfl ?_
    refine an_call (r_X5_handNow (wI m 7 0 0 5 (if ¬ (v_X5_isHand m (nI a1)) = 0 then (if (v_X5_within m (nI a2) (0 : Int32) (8 : Int32)) = 0 then (2 : Int32) else (0 : Int32)) else (1 : Int32))) a1 a2 (by omega) (by omega) (ql_w7 _ hQ)) rfl rfl rfl rfl ?_
    exact an_ret rfl rfl rfl rfl rfl
  · refine an_b 2 (pc2 := 47) (L2 := [some (vR 7 0 0), some (vI (nI a1)), some (vI (nI a2))]) (st2 := [vI (0 : Int32)]) (m1 := (wI m 7 0 0 5 (if ¬ (v_X5_isHand m (nI a1)) = 0 then (if (v_X5_within m (nI a2) (0 : Int32) (8 : Int32)) = 0 then (2 : Int32) else (0 : Int32)) else (1 : Int32)))) rfl ?_
    exact an_ret rfl rfl rfl rfl rfl
def v_X5_row (m : PM) (a1 : Nat) (a2 : Int32) : Int32 := (if ((wI m 7 0 0 5 (if ¬ (v_X5_isRow m (nI a1)) = 0 then (if (v_X5_within m a2 (0 : Int32) (5 : Int32)) = 0 then (2 : Int32) else (0 : Int32)) else (1 : Int32))).1 7 0 0 5) ≤ 0 then (v_X5_rowNow (wI m 7 0 0 5 (if ¬ (v_X5_isRow m (nI a1)) = 0 then (if (v_X5_within m a2 (0 : Int32) (5 : Int32)) = 0 then (2 : Int32) else (0 : Int32)) else (1 : Int32))) a1 a2) else (0 : Int32))
def w_X5_row (m : PM) (a1 : Nat) (a2 : Int32) : PM := (wI m 7 0 0 5 (if ¬ (v_X5_isRow m (nI a1)) = 0 then (if (v_X5_within m a2 (0 : Int32) (5 : Int32)) = 0 then (2 : Int32) else (0 : Int32)) else (1 : Int32)))
set_option maxRecDepth 100000 in
theorem r_X5_row (m : PM) (a1 : Nat) (a2 : Int32) (ha1 : a1 < 12) : Rn MX5_row [vR 7 0 0, vI (nI a1), vI a2] m (some (vI (v_X5_row m a1 a2))) (w_X5_row m a1 a2) := by
  refine rn_of [some (vR 7 0 0), some (vI (nI a1)), some (vI a2)] rfl ?_
  unfold v_X5_row w_X5_row
  refine an_b 2 (pc2 := 2) (L2 := [some (vR 7 0 0), some (vI (nI a1)), some (vI a2)]) (st2 := [vI (nI a1), vR 7 0 0]) (m1 := m) rfl ?_
  refine an_call (r_X5_isRow m (nI a1)) rfl rfl rfl rfl ?_
  refine an_b 1 (pc2 := if ¬ (v_X5_isRow m (nI a1)) = 0 then 12 else 8) (L2 := [some (vR 7 0 0), some (vI (nI a1)), some (vI a2)]) (st2 := [vR 7 0 0]) (m1 := m) rfl ?_
  refine re_if1 (c := ¬ (v_X5_isRow m (nI a1)) = 0) (a := (if (v_X5_within m a2 (0 : Int32) (5 : Int32)) = 0 then (2 : Int32) else (0 : Int32))) (b := (1 : Int32)) (fun x => (26, [some (vR 7 0 0), some (vI (nI a1)), some (vI a2)], [vI x, vR 7 0 0], m)) (fun h1 v9 m9 K4 => ?_) (fun h1 v9 m9 K4 => ?_) _ _ ?_
  · refine an_b 3 (pc2 := 15) (L2 := [some (vR 7 0 0), some (vI (nI a1)), some (vI a2)]) (st2 := [vI (5 : Int32), vI (0 : Int32), vI a2, vR 7 0 0]) (m1 := m) rfl ?_
    refine an_call (r_X5_within m a2 (0 : Int32) (5 : Int32)) rfl rfl rfl rfl ?_
    refine an_b 1 (pc2 := if (v_X5_within m a2 (0 : Int32) (5 : Int32)) = 0 then 25 else 21) (L2 := [some (vR 7 0 0), some (vI (nI a1)), some (vI a2)]) (st2 := [vR 7 0 0]) (m1 := m) rfl ?_
    refine re_if1 (c := (v_X5_within m a2 (0 : Int32) (5 : Int32)) = 0) (a := (2 : Int32)) (b := (0 : Int32)) (fun x => (26, [some (vR 7 0 0), some (vI (nI a1)), some (vI a2)], [vI x, vR 7 0 0], m)) (fun h2 v9 m9 K3 => ?_) (fun h2 v9 m9 K3 => ?_) _ _ ?_
    · refine an_b 1 (pc2 := 26) (L2 := [some (vR 7 0 0), some (vI (nI a1)), some (vI a2)]) (st2 := [vI (2 : Int32), vR 7 0 0]) (m1 := m) rfl ?_
      exact K3
    · refine an_b 2 (pc2 := 26) (L2 := [some (vR 7 0 0), some (vI (nI a1)), some (vI a2)]) (st2 := [vI (0 : Int32), vR 7 0 0]) (m1 := m) rfl ?_
      exact K3
    exact K4
  · refine an_b 2 (pc2 := 26) (L2 := [some (vR 7 0 0), some (vI (nI a1)), some (vI a2)]) (st2 := [vI (1 : Int32), vR 7 0 0]) (m1 := m) rfl ?_
    exact K4
  refine an_b 4 (pc2 := if ((wI m 7 0 0 5 (if ¬ (v_X5_isRow m (nI a1)) = 0 then (if (v_X5_within m a2 (0 : Int32) (5 : Int32)) = 0 then (2 : Int32) else (0 : Int32)) else (1 : Int32))).1 7 0 0 5) ≤ 0 then 40 else 36) (L2 := [some (vR 7 0 0), some (vI (nI a1)), some (vI a2)]) (st2 := []) (m1 := (wI m 7 0 0 5 (if ¬ (v_X5_isRow m (nI a1)) = 0 then (if (v_X5_within m a2 (0 : Int32) (5 : Int32)) = 0 then (2 : Int32) else (0 : Int32)) else (1 : Int32)))) rfl ?_
  refine an_ifi (c := ((wI m 7 0 0 5 (if ¬ (v_X5_isRow m (nI a1)) = 0 then (if (v_X5_within m a2 (0 : Int32) (5 : Int32)) = 0 then (2 : Int32) else (0 : Int32)) else (1 : Int32))).1 7 0 0 5) ≤ 0) (fun h5 => ?_) (fun h5 => ?_)
  · refine an_b 3 (pc2 := 43) (L2 := [some (vR 7 0 0), some (vI (nI a1)), some (vI a2)]) (st2 := [vI a2, vI (nI a1), vR 7 0 0]) (m1 := (wI m 7 0 0 5 (if ¬ (v_X5_isRow m (nI a1)) = 0 then (if (v_X5_within m a2 (0 : Int32) (5 : Int32)) = 0 then (2 : Int32) else (0 : Int32)) else (1 : Int32)))) rfl ?_
    refine an_call (r_X5_rowNow (wI m 7 0 0 5 (if ¬ (v_X5_isRow m (nI a1)) = 0 then (if (v_X5_within m a2 (0 : Int32) (5 : Int32)) = 0 then (2 : Int32) else (0 : Int32)) else (1 : Int32))) a1 a2 (by omega)) rfl rfl rfl rfl ?_
    exact an_ret rfl rfl rfl rfl rfl
  · refine an_b 2 (pc2 := 46) (L2 := [some (vR 7 0 0), some (vI (nI a1)), some (vI a2)]) (st2 := [vI (0 : Int32)]) (m1 := (wI m 7 0 0 5 (if ¬ (v_X5_isRow m (nI a1)) = 0 then (if (v_X5_within m a2 (0 : Int32) (5 : Int32)) = 0 then (2 : Int32) else (0 : Int32)) else (1 : Int32)))) rfl ?_
    exact an_ret rfl rfl rfl rfl rfl
def v_X5_request (m : PM) (a1 : Nat) (a2 : Nat) (a3 : Int32) : Int32 := (if ((wI m 7 0 0 5 (if ¬ (v_X5_isRow m (nI a1)) = 0 then (if (v_X5_within m (nI a2) (0 : Int32) (7 : Int32)) = 0 then (2 : Int32) else (if (v_X5_within m a3 (0 : Int32) (1 : Int32)) = 0 then (2 : Int32) else (0 : Int32))) else (1 : Int32))).1 7 0 0 5) ≤ 0 then (v_X5_requestNow (wI m 7 0 0 5 (if ¬ (v_X5_isRow m (nI a1)) = 0 then (if (v_X5_within m (nI a2) (0 : Int32) (7 : Int32)) = 0 then (2 : Int32) else (if (v_X5_within m a3 (0 : Int32) (1 : Int32)) = 0 then (2 : Int32) else (0 : Int32))) else (1 : Int32))) a1 a2 a3) else (0 : Int32))
def w_X5_request (m : PM) (a1 : Nat) (a2 : Nat) (a3 : Int32) : PM := (wI m 7 0 0 5 (if ¬ (v_X5_isRow m (nI a1)) = 0 then (if (v_X5_within m (nI a2) (0 : Int32) (7 : Int32)) = 0 then (2 : Int32) else (if (v_X5_within m a3 (0 : Int32) (1 : Int32)) = 0 then (2 : Int32) else (0 : Int32))) else (1 : Int32)))
set_option maxRecDepth 100000 in
theorem r_X5_request (m : PM) (a1 : Nat) (a2 : Nat) (a3 : Int32) (ha1 : a1 < 12) (ha2 : a2 < 8) : Rn MX5_request [vR 7 0 0, vI (nI a1), vI (nI a2), vI a3] m (some (vI (v_X5_request m a1 a2 a3))) (w_X5_request m a1 a2 a3) := by
  refine rn_of [some (vR 7 0 0), some (vI (nI a1)), some (vI (nI a2)), some (vI a3)] rfl ?_
  unfold v_X5_request w_X5_request
  refine an_b 2 (pc2 := 2) (L2 := [some (vR 7 0 0), some (vI (nI a1)), some (vI (nI a2)), some (vI a3)]) (st2 := [vI (nI a1), vR 7 0 0]) (m1 := m) rfl ?_
  refine an_call (r_X5_isRow m (nI a1)) rfl rfl rfl rfl ?_
  refine an_b 1 (pc2 := if ¬ (v_X5_isRow m (nI a1)) = 0 then 12 else 8) (L2 := [some (vR 7 0 0), some (vI (nI a1)), some (vI (nI a2)), some (vI a3)]) (st2 := [vR 7 0 0]) (m1 := m) rfl ?_
  refine re_if1 (c := ¬ (v_X5_isRow m (nI a1)) = 0) (a := (if (v_X5_within m (nI a2) (0 : Int32) (7 : Int32)) = 0 then (2 : Int32) else (if (v_X5_within m a3 (0 : Int32) (1 : Int32)) = 0 then (2 : Int32) else (0 : Int32)))) (b := (1 : Int32)) (fun x => (36, [some (vR 7 0 0), some (vI (nI a1)), some (vI (nI a2)), some (vI a3)], [vI x, vR 7 0 0], m)) (fun h1 v9 m9 K6 => ?_) (fun h1 v9 m9 K6 => ?_) _ _ ?_
  · refine an_b 3 (pc2 := 16) (L2 := [some (vR 7 0 0), some (vI (nI a1)), some (vI (nI a2)), some (vI a3)]) (st2 := [vI (7 : Int32), vI (0 : Int32), vI (nI a2), vR 7 0 0]) (m1 := m) rfl ?_
    refine an_call (r_X5_within m (nI a2) (0 : Int32) (7 : Int32)) rfl rfl rfl rfl ?_
    refine an_b 1 (pc2 := if (v_X5_within m (nI a2) (0 : Int32) (7 : Int32)) = 0 then 35 else 22) (L2 := [some (vR 7 0 0), some (vI (nI a1)), some (vI (nI a2)), some (vI a3)]) (st2 := [vR 7 0 0]) (m1 := m) rfl ?_
    refine re_if1 (c := (v_X5_within m (nI a2) (0 : Int32) (7 : Int32)) = 0) (a := (2 : Int32)) (b := (if (v_X5_within m a3 (0 : Int32) (1 : Int32)) = 0 then (2 : Int32) else (0 : Int32))) (fun x => (36, [some (vR 7 0 0), some (vI (nI a1)), some (vI (nI a2)), some (vI a3)], [vI x, vR 7 0 0], m)) (fun h2 v9 m9 K5 => ?_) (fun h2 v9 m9 K5 => ?_) _ _ ?_
    · refine an_b 1 (pc2 := 36) (L2 := [some (vR 7 0 0), some (vI (nI a1)), some (vI (nI a2)), some (vI a3)]) (st2 := [vI (2 : Int32), vR 7 0 0]) (m1 := m) rfl ?_
      exact K5
    · refine an_b 3 (pc2 := 25) (L2 := [some (vR 7 0 0), some (vI (nI a1)), some (vI (nI a2)), some (vI a3)]) (st2 := [vI (1 : Int32), vI (0 : Int32), vI a3, vR 7 0 0]) (m1 := m) rfl ?_
      refine an_call (r_X5_within m a3 (0 : Int32) (1 : Int32)) rfl rfl rfl rfl ?_
      refine an_b 1 (pc2 := if (v_X5_within m a3 (0 : Int32) (1 : Int32)) = 0 then 35 else 31) (L2 := [some (vR 7 0 0), some (vI (nI a1)), some (vI (nI a2)), some (vI a3)]) (st2 := [vR 7 0 0]) (m1 := m) rfl ?_
      refine re_if1 (c := (v_X5_within m a3 (0 : Int32) (1 : Int32)) = 0) (a := (2 : Int32)) (b := (0 : Int32)) (fun x => (36, [some (vR 7 0 0), some (vI (nI a1)), some (vI (nI a2)), some (vI a3)], [vI x, vR 7 0 0], m)) (fun h3 v9 m9 K4 => ?_) (fun h3 v9 m9 K4 => ?_) _ _ ?_
      · refine an_b 1 (pc2 := 36) (L2 := [some (vR 7 0 0), some (vI (nI a1)), some (vI (nI a2)), some (vI a3)]) (st2 := [vI (2 : Int32), vR 7 0 0]) (m1 := m) rfl ?_
        exact K4
      · refine an_b 2 (pc2 := 36) (L2 := [some (vR 7 0 0), some (vI (nI a1)), some (vI (nI a2)), some (vI a3)]) (st2 := [vI (0 : Int32), vR 7 0 0]) (m1 := m) rfl ?_
        exact K4
      exact K5
    exact K6
  · refine an_b 2 (pc2 := 36) (L2 := [some (vR 7 0 0), some (vI (nI a1)), some (vI (nI a2)), some (vI a3)]) (st2 := [vI (1 : Int32), vR 7 0 0]) (m1 := m) rfl ?_
    exact K6
  refine an_b 4 (pc2 := if ((wI m 7 0 0 5 (if ¬ (v_X5_isRow m (nI a1)) = 0 then (if (v_X5_within m (nI a2) (0 : Int32) (7 : Int32)) = 0 then (2 : Int32) else (if (v_X5_within m a3 (0 : Int32) (1 : Int32)) = 0 then (2 : Int32) else (0 : Int32))) else (1 : Int32))).1 7 0 0 5) ≤ 0 then 50 else 46) (L2 := [some (vR 7 0 0), some (vI (nI a1)), some (vI (nI a2)), some (vI a3)]) (st2 := []) (m1 := (wI m 7 0 0 5 (if ¬ (v_X5_isRow m (nI a1)) = 0 then (if (v_X5_within m (nI a2) (0 : Int32) (7 : Int32)) = 0 then (2 : Int32) else (if (v_X5_within m a3 (0 : Int32) (1 : Int32)) = 0 then (2 : Int32) else (0 : Int32))) else (1 : Int32)))) rfl ?_
  refine an_ifi (c := ((wI m 7 0 0 5 (if ¬ (v_X5_isRow m (nI a1)) = 0 then (if (v_X5_within m (nI a2) (0 : Int32) (7 : Int32)) = 0 then (2 : Int32) else (if (v_X5_within m a3 (0 : Int32) (1 : Int32)) = 0 then (2 : Int32) else (0 : Int32))) else (1 : Int32))).1 7 0 0 5) ≤ 0) (fun h7 => ?_) (fun h7 => ?_)
  · refine an_b 4 (pc2 := 54) (L2 := [some (vR 7 0 0), some (vI (nI a1)), some (vI (nI a2)), some (vI a3)]) (st2 := [vI a3, vI (nI a2), vI (nI a1), vR 7 0 0]) (m1 := (wI m 7 0 0 5 (if ¬ (v_X5_isRow m (nI a1)) = 0 then (if (v_X5_within m (nI a2) (0 : Int32) (7 : Int32)) = 0 then (2 : Int32) else (if (v_X5_within m a3 (0 : Int32) (1 : Int32)) = 0 then (2 : Int32) else (0 : Int32))) else (1 : Int32)))) rfl ?_
    refine an_call (r_X5_requestNow (wI m 7 0 0 5 (if ¬ (v_X5_isRow m (nI a1)) = 0 then (if (v_X5_within m (nI a2) (0 : Int32) (7 : Int32)) = 0 then (2 : Int32) else (if (v_X5_within m a3 (0 : Int32) (1 : Int32)) = 0 then (2 : Int32) else (0 : Int32))) else (1 : Int32))) a1 a2 a3 (by omega) (by omega)) rfl rfl rfl rfl ?_
    exact an_ret rfl rfl rfl rfl rfl
  · refine an_b 2 (pc2 := 57) (L2 := [some (vR 7 0 0), some (vI (nI a1)), some (vI (nI a2)), some (vI a3)]) (st2 := [vI (0 : Int32)]) (m1 := (wI m 7 0 0 5 (if ¬ (v_X5_isRow m (nI a1)) = 0 then (if (v_X5_within m (nI a2) (0 : Int32) (7 : Int32)) = 0 then (2 : Int32) else (if (v_X5_within m a3 (0 : Int32) (1 : Int32)) = 0 then (2 : Int32) else (0 : Int32))) else (1 : Int32)))) rfl ?_
    exact an_ret rfl rfl rfl rfl rfl
def v_X5_count (m : PM) (a1 : Nat) : Int32 := (if ((wI m 7 0 0 5 (if (v_X5_within m (nI a1) (0 : Int32) (9 : Int32)) = 0 then (1 : Int32) else (0 : Int32))).1 7 0 0 5) ≤ 0 then (v_X5_counted (wI m 7 0 0 5 (if (v_X5_within m (nI a1) (0 : Int32) (9 : Int32)) = 0 then (1 : Int32) else (0 : Int32))) a1) else (0 : Int32))
def w_X5_count (m : PM) (a1 : Nat) : PM := (wI m 7 0 0 5 (if (v_X5_within m (nI a1) (0 : Int32) (9 : Int32)) = 0 then (1 : Int32) else (0 : Int32)))
set_option maxRecDepth 100000 in
theorem r_X5_count (m : PM) (a1 : Nat) (ha1 : a1 < 10) : Rn MX5_count [vR 7 0 0, vI (nI a1)] m (some (vI (v_X5_count m a1))) (w_X5_count m a1) := by
  refine rn_of [some (vR 7 0 0), some (vI (nI a1))] rfl ?_
  unfold v_X5_count w_X5_count
  refine an_b 4 (pc2 := 5) (L2 := [some (vR 7 0 0), some (vI (nI a1))]) (st2 := [vI (9 : Int32), vI (0 : Int32), vI (nI a1), vR 7 0 0]) (m1 := m) rfl ?_
  refine an_call (r_X5_within m (nI a1) (0 : Int32) (9 : Int32)) rfl rfl rfl rfl ?_
  refine an_b 1 (pc2 := if (v_X5_within m (nI a1) (0 : Int32) (9 : Int32)) = 0 then 15 else 11) (L2 := [some (vR 7 0 0), some (vI (nI a1))]) (st2 := [vR 7 0 0]) (m1 := m) rfl ?_
  refine re_if1 (c := (v_X5_within m (nI a1) (0 : Int32) (9 : Int32)) = 0) (a := (1 : Int32)) (b := (0 : Int32)) (fun x => (16, [some (vR 7 0 0), some (vI (nI a1))], [vI x, vR 7 0 0], m)) (fun h1 v9 m9 K2 => ?_) (fun h1 v9 m9 K2 => ?_) _ _ ?_
  · refine an_b 1 (pc2 := 16) (L2 := [some (vR 7 0 0), some (vI (nI a1))]) (st2 := [vI (1 : Int32), vR 7 0 0]) (m1 := m) rfl ?_
    exact K2
  · refine an_b 2 (pc2 := 16) (L2 := [some (vR 7 0 0), some (vI (nI a1))]) (st2 := [vI (0 : Int32), vR 7 0 0]) (m1 := m) rfl ?_
    exact K2
  refine an_b 4 (pc2 := if ((wI m 7 0 0 5 (if (v_X5_within m (nI a1) (0 : Int32) (9 : Int32)) = 0 then (1 : Int32) else (0 : Int32))).1 7 0 0 5) ≤ 0 then 30 else 26) (L2 := [some (vR 7 0 0), some (vI (nI a1))]) (st2 := []) (m1 := (wI m 7 0 0 5 (if (v_X5_within m (nI a1) (0 : Int32) (9 : Int32)) = 0 then (1 : Int32) else (0 : Int32)))) rfl ?_
  refine an_ifi (c := ((wI m 7 0 0 5 (if (v_X5_within m (nI a1) (0 : Int32) (9 : Int32)) = 0 then (1 : Int32) else (0 : Int32))).1 7 0 0 5) ≤ 0) (fun h3 => ?_) (fun h3 => ?_)
  · refine an_b 2 (pc2 := 32) (L2 := [some (vR 7 0 0), some (vI (nI a1))]) (st2 := [vI (nI a1), vR 7 0 0]) (m1 := (wI m 7 0 0 5 (if (v_X5_within m (nI a1) (0 : Int32) (9 : Int32)) = 0 then (1 : Int32) else (0 : Int32)))) rfl ?_
    refine an_call (r_X5_counted (wI m 7 0 0 5 (if (v_X5_within m (nI a1) (0 : Int32) (9 : Int32)) = 0 then (1 : Int32) else (0 : Int32))) a1 (by omega)) rfl rfl rfl rfl ?_
    exact an_ret rfl rfl rfl rfl rfl
  · refine an_b 2 (pc2 := 35) (L2 := [some (vR 7 0 0), some (vI (nI a1))]) (st2 := [vI (0 : Int32)]) (m1 := (wI m 7 0 0 5 (if (v_X5_within m (nI a1) (0 : Int32) (9 : Int32)) = 0 then (1 : Int32) else (0 : Int32)))) rfl ?_
    exact an_ret rfl rfl rfl rfl rfl
def v_X5_setting (m : PM) (a1 : Nat) : Int32 := (if ((wI m 7 0 0 5 (if (v_X5_isSetting m (nI a1)) = 0 then (1 : Int32) else (0 : Int32))).1 7 0 0 5) ≤ 0 then ((wI m 7 0 0 5 (if (v_X5_isSetting m (nI a1)) = 0 then (1 : Int32) else (0 : Int32))).1 8 0 0 (0 + a1)) else (0 : Int32))
def w_X5_setting (m : PM) (a1 : Nat) : PM := (wI m 7 0 0 5 (if (v_X5_isSetting m (nI a1)) = 0 then (1 : Int32) else (0 : Int32)))
set_option maxRecDepth 100000 in
theorem r_X5_setting (m : PM) (a1 : Nat) (ha1 : a1 < 3) : Rn MX5_setting [vR 7 0 0, vI (nI a1)] m (some (vI (v_X5_setting m a1))) (w_X5_setting m a1) := by
  refine rn_of [some (vR 7 0 0), some (vI (nI a1))] rfl ?_
  unfold v_X5_setting w_X5_setting
  refine an_b 2 (pc2 := 2) (L2 := [some (vR 7 0 0), some (vI (nI a1))]) (st2 := [vI (nI a1), vR 7 0 0]) (m1 := m) rfl ?_
  refine an_call (r_X5_isSetting m (nI a1)) rfl rfl rfl rfl ?_
  refine an_b 1 (pc2 := if (v_X5_isSetting m (nI a1)) = 0 then 12 else 8) (L2 := [some (vR 7 0 0), some (vI (nI a1))]) (st2 := [vR 7 0 0]) (m1 := m) rfl ?_
  refine re_if1 (c := (v_X5_isSetting m (nI a1)) = 0) (a := (1 : Int32)) (b := (0 : Int32)) (fun x => (13, [some (vR 7 0 0), some (vI (nI a1))], [vI x, vR 7 0 0], m)) (fun h1 v9 m9 K2 => ?_) (fun h1 v9 m9 K2 => ?_) _ _ ?_
  · refine an_b 1 (pc2 := 13) (L2 := [some (vR 7 0 0), some (vI (nI a1))]) (st2 := [vI (1 : Int32), vR 7 0 0]) (m1 := m) rfl ?_
    exact K2
  · refine an_b 2 (pc2 := 13) (L2 := [some (vR 7 0 0), some (vI (nI a1))]) (st2 := [vI (0 : Int32), vR 7 0 0]) (m1 := m) rfl ?_
    exact K2
  refine an_b 4 (pc2 := if ((wI m 7 0 0 5 (if (v_X5_isSetting m (nI a1)) = 0 then (1 : Int32) else (0 : Int32))).1 7 0 0 5) ≤ 0 then 27 else 23) (L2 := [some (vR 7 0 0), some (vI (nI a1))]) (st2 := []) (m1 := (wI m 7 0 0 5 (if (v_X5_isSetting m (nI a1)) = 0 then (1 : Int32) else (0 : Int32)))) rfl ?_
  refine an_ifi (c := ((wI m 7 0 0 5 (if (v_X5_isSetting m (nI a1)) = 0 then (1 : Int32) else (0 : Int32))).1 7 0 0 5) ≤ 0) (fun h3 => ?_) (fun h3 => ?_)
  · refine an_b 5 (pc2 := 34) (L2 := [some (vR 7 0 0), some (vI (nI a1))]) (st2 := [vI ((0 : Int32) + (nI a1)), vR 8 0 0]) (m1 := (wI m 7 0 0 5 (if (v_X5_isSetting m (nI a1)) = 0 then (1 : Int32) else (0 : Int32)))) rfl ?_
    refine an_ald (0 + a1) 361 rfl rfl (by simp only [ix_lit, pk_mul, nI_add]) (by omega) (by omega) ?_
    exact an_ret rfl rfl rfl rfl rfl
  · refine an_b 2 (pc2 := 35) (L2 := [some (vR 7 0 0), some (vI (nI a1))]) (st2 := [vI (0 : Int32)]) (m1 := (wI m 7 0 0 5 (if (v_X5_isSetting m (nI a1)) = 0 then (1 : Int32) else (0 : Int32)))) rfl ?_
    exact an_ret rfl rfl rfl rfl rfl
def v_X5_takers (m : PM) (a1 : Nat) (a2 : Nat) : Int32 := (if ((wI m 7 0 0 5 (if (v_X5_areThere m (nI a1) (nI a2)) = 0 then (1 : Int32) else (0 : Int32))).1 7 0 0 5) ≤ 0 then (v_X5_takersNow (wI m 7 0 0 5 (if (v_X5_areThere m (nI a1) (nI a2)) = 0 then (1 : Int32) else (0 : Int32))) a1 a2) else (0 : Int32))
def w_X5_takers (m : PM) (a1 : Nat) (a2 : Nat) : PM := (wI m 7 0 0 5 (if (v_X5_areThere m (nI a1) (nI a2)) = 0 then (1 : Int32) else (0 : Int32)))
set_option maxRecDepth 100000 in
theorem r_X5_takers (m : PM) (a1 : Nat) (a2 : Nat) (ha1 : a1 < 8) (ha2 : a2 < 12) (hQ : QL m) : Rn MX5_takers [vR 7 0 0, vI (nI a1), vI (nI a2)] m (some (vI (v_X5_takers m a1 a2))) (w_X5_takers m a1 a2) := by
  refine rn_of [some (vR 7 0 0), some (vI (nI a1)), some (vI (nI a2))] rfl ?_
  unfold v_X5_takers w_X5_takers
  refine an_b 3 (pc2 := 3) (L2 := [some (vR 7 0 0), some (vI (nI a1)), some (vI (nI a2))]) (st2 := [vI (nI a2), vI (nI a1), vR 7 0 0]) (m1 := m) rfl ?_
  refine an_call (r_X5_areThere m (nI a1) (nI a2)) rfl rfl rfl rfl ?_
  refine an_b 1 (pc2 := if (v_X5_areThere m (nI a1) (nI a2)) = 0 then 13 else 9) (L2 := [some (vR 7 0 0), some (vI (nI a1)), some (vI (nI a2))]) (st2 := [vR 7 0 0]) (m1 := m) rfl ?_
  refine re_if1 (c := (v_X5_areThere m (nI a1) (nI a2)) = 0) (a := (1 : Int32)) (b := (0 : Int32)) (fun x => (14, [some (vR 7 0 0), some (vI (nI a1)), some (vI (nI a2))], [vI x, vR 7 0 0], m)) (fun h1 v9 m9 K2 => ?_) (fun h1 v9 m9 K2 => ?_) _ _ ?_
  · refine an_b 1 (pc2 := 14) (L2 := [some (vR 7 0 0), some (vI (nI a1)), some (vI (nI a2))]) (st2 := [vI (1 : Int32), vR 7 0 0]) (m1 := m) rfl ?_
    exact K2
  · refine an_b 2 (pc2 := 14) (L2 := [some (vR 7 0 0), some (vI (nI a1)), some (vI (nI a2))]) (st2 := [vI (0 : Int32), vR 7 0 0]) (m1 := m) rfl ?_
    exact K2
  refine an_b 4 (pc2 := if ((wI m 7 0 0 5 (if (v_X5_areThere m (nI a1) (nI a2)) = 0 then (1 : Int32) else (0 : Int32))).1 7 0 0 5) ≤ 0 then 28 else 24) (L2 := [some (vR 7 0 0), some (vI (nI a1)), some (vI (nI a2))]) (st2 := []) (m1 := (wI m 7 0 0 5 (if (v_X5_areThere m (nI a1) (nI a2)) = 0 then (1 : Int32) else (0 : Int32)))) rfl ?_
  refine an_ifi (c := ((wI m 7 0 0 5 (if (v_X5_areThere m (nI a1) (nI a2)) = 0 then (1 : Int32) else (0 : Int32))).1 7 0 0 5) ≤ 0) (fun h3 => ?_) (fun h3 => ?_)
  · refine an_b 3 (pc2 := 31) (L2 := [some (vR 7 0 0), some (vI (nI a1)), some (vI (nI a2))]) (st2 := [vI (nI a2), vI (nI a1), vR 7 0 0]) (m1 := (wI m 7 0 0 5 (if (v_X5_areThere m (nI a1) (nI a2)) = 0 then (1 : Int32) else (0 : Int32)))) rfl ?_
    refine an_call (r_X5_takersNow (wI m 7 0 0 5 (if (v_X5_areThere m (nI a1) (nI a2)) = 0 then (1 : Int32) else (0 : Int32))) a1 a2 (by omega) (by omega) (ql_w7 _ hQ)) rfl rfl rfl rfl ?_
    exact an_ret rfl rfl rfl rfl rfl
  · refine an_b 2 (pc2 := 34) (L2 := [some (vR 7 0 0), some (vI (nI a1)), some (vI (nI a2))]) (st2 := [vI (0 : Int32)]) (m1 := (wI m 7 0 0 5 (if (v_X5_areThere m (nI a1) (nI a2)) = 0 then (1 : Int32) else (0 : Int32)))) rfl ?_
    exact an_ret rfl rfl rfl rfl rfl
def v_X5_waitsFor (m : PM) (a1 : Int32) : Int32 := (if ((wI m 7 0 0 5 (if (v_X5_isHand m a1) = 0 then (1 : Int32) else (0 : Int32))).1 7 0 0 5) ≤ 0 then (v_X5_waitsOver (wI m 7 0 0 5 (if (v_X5_isHand m a1) = 0 then (1 : Int32) else (0 : Int32))) a1) else (0 : Int32))
def w_X5_waitsFor (m : PM) (a1 : Int32) : PM := (wI m 7 0 0 5 (if (v_X5_isHand m a1) = 0 then (1 : Int32) else (0 : Int32)))
set_option maxRecDepth 100000 in
theorem r_X5_waitsFor (m : PM) (a1 : Int32) (hQ : QL m) : Rn MX5_waitsFor [vR 7 0 0, vI a1] m (some (vI (v_X5_waitsFor m a1))) (w_X5_waitsFor m a1) := by
  refine rn_of [some (vR 7 0 0), some (vI a1)] rfl ?_
  unfold v_X5_waitsFor w_X5_waitsFor
  refine an_b 2 (pc2 := 2) (L2 := [some (vR 7 0 0), some (vI a1)]) (st2 := [vI a1, vR 7 0 0]) (m1 := m) rfl ?_
  refine an_call (r_X5_isHand m a1) rfl rfl rfl rfl ?_
  refine an_b 1 (pc2 := if (v_X5_isHand m a1) = 0 then 12 else 8) (L2 := [some (vR 7 0 0), some (vI a1)]) (st2 := [vR 7 0 0]) (m1 := m) rfl ?_
  refine re_if1 (c := (v_X5_isHand m a1) = 0) (a := (1 : Int32)) (b := (0 : Int32)) (fun x => (13, [some (vR 7 0 0), some (vI a1)], [vI x, vR 7 0 0], m)) (fun h1 v9 m9 K2 => ?_) (fun h1 v9 m9 K2 => ?_) _ _ ?_
  · refine an_b 1 (pc2 := 13) (L2 := [some (vR 7 0 0), some (vI a1)]) (st2 := [vI (1 : Int32), vR 7 0 0]) (m1 := m) rfl ?_
    exact K2
  · refine an_b 2 (pc2 := 13) (L2 := [some (vR 7 0 0), some (vI a1)]) (st2 := [vI (0 : Int32), vR 7 0 0]) (m1 := m) rfl ?_
    exact K2
  refine an_b 4 (pc2 := if ((wI m 7 0 0 5 (if (v_X5_isHand m a1) = 0 then (1 : Int32) else (0 : Int32))).1 7 0 0 5) ≤ 0 then 27 else 23) (L2 := [some (vR 7 0 0), some (vI a1)]) (st2 := []) (m1 := (wI m 7 0 0 5 (if (v_X5_isHand m a1) = 0 then (1 : Int32) else (0 : Int32)))) rfl ?_
  refine an_ifi (c := ((wI m 7 0 0 5 (if (v_X5_isHand m a1) = 0 then (1 : Int32) else (0 : Int32))).1 7 0 0 5) ≤ 0) (fun h3 => ?_) (fun h3 => ?_)
  · refine an_b 2 (pc2 := 29) (L2 := [some (vR 7 0 0), some (vI a1)]) (st2 := [vI a1, vR 7 0 0]) (m1 := (wI m 7 0 0 5 (if (v_X5_isHand m a1) = 0 then (1 : Int32) else (0 : Int32)))) rfl ?_
    refine an_call (r_X5_waitsOver (wI m 7 0 0 5 (if (v_X5_isHand m a1) = 0 then (1 : Int32) else (0 : Int32))) a1 (ql_w7 _ hQ)) rfl rfl rfl rfl ?_
    exact an_ret rfl rfl rfl rfl rfl
  · refine an_b 2 (pc2 := 32) (L2 := [some (vR 7 0 0), some (vI a1)]) (st2 := [vI (0 : Int32)]) (m1 := (wI m 7 0 0 5 (if (v_X5_isHand m a1) = 0 then (1 : Int32) else (0 : Int32)))) rfl ?_
    exact an_ret rfl rfl rfl rfl rfl
def v_X5_busiest (m : PM)  : Int32 := (v_X5_busiestNow (wI m 7 0 0 5 (0 : Int32)))
def w_X5_busiest (m : PM)  : PM := (wI m 7 0 0 5 (0 : Int32))
set_option maxRecDepth 100000 in
theorem r_X5_busiest (m : PM)  (hQ : QL m) : Rn MX5_busiest [vR 7 0 0] m (some (vI (v_X5_busiest m))) (w_X5_busiest m) := by
  refine rn_of [some (vR 7 0 0)] rfl ?_
  unfold v_X5_busiest w_X5_busiest
  refine an_b 4 (pc2 := 6) (L2 := [some (vR 7 0 0)]) (st2 := [vR 7 0 0]) (m1 := (wI m 7 0 0 5 (0 : Int32))) rfl ?_
  refine an_call (r_X5_busiestNow (wI m 7 0 0 5 (0 : Int32)) (ql_w7 _ hQ)) rfl rfl rfl rfl ?_
  exact an_ret rfl rfl rfl rfl rfl
