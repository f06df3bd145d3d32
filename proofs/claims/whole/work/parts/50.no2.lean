/-! the refusals of the getters, and of hands and rows that are not there -/
def cd_lock (m : PM) (a1 : Int32) (a2 : Int32) : Int32 := (if v_X5_areThere m a1 a2 = 0 then (1 : Int32) else (0 : Int32))
theorem k_lock (m : PM) (a1 : Int32) (a2 : Int32) : Re MX5_lock (0, [some (vR 7 0 0), some (vI a1), some (vI a2)], [], m) (14, [some (vR 7 0 0), some (vI a1), some (vI a2)], [vI (cd_lock m a1 a2), vR 7 0 0], m) := by
  intro v9 m9 K0
  unfold cd_lock at K0
  show An MX5_lock 0 [some (vR 7 0 0), some (vI a1), some (vI a2)] [] m v9 m9
  refine an_b 3 (pc2 := 3) (L2 := [some (vR 7 0 0), some (vI a1), some (vI a2)]) (st2 := [vI a2, vI a1, vR 7 0 0]) (m1 := m) rfl ?_
  refine an_call (r_X5_areThere m a1 a2) rfl rfl rfl rfl ?_
  refine an_b 1 (pc2 := if v_X5_areThere m a1 a2 = 0 then 13 else 9) (L2 := [some (vR 7 0 0), some (vI a1), some (vI a2)]) (st2 := [vR 7 0 0]) (m1 := m) rfl ?_
  refine re_if1 (c := v_X5_areThere m a1 a2 = 0) (a := (1 : Int32)) (b := (0 : Int32)) (fun x => (14, [some (vR 7 0 0), some (vI a1), some (vI a2)], [vI x, vR 7 0 0], m)) (fun h1 v9 m9 K1 => ?_) (fun h1 v9 m9 K1 => ?_) _ _ K0
  · show An MX5_lock 13 [some (vR 7 0 0), some (vI a1), some (vI a2)] [vR 7 0 0] m v9 m9
    refine an_b 1 (pc2 := 14) (L2 := [some (vR 7 0 0), some (vI a1), some (vI a2)]) (st2 := [vI (1 : Int32), vR 7 0 0]) (m1 := m) rfl ?_
    exact K1
  · show An MX5_lock 9 [some (vR 7 0 0), some (vI a1), some (vI a2)] [vR 7 0 0] m v9 m9
    refine an_b 2 (pc2 := 14) (L2 := [some (vR 7 0 0), some (vI a1), some (vI a2)]) (st2 := [vI (0 : Int32), vR 7 0 0]) (m1 := m) rfl ?_
    exact K1
def cd_takers (m : PM) (a1 : Int32) (a2 : Int32) : Int32 := (if v_X5_areThere m a1 a2 = 0 then (1 : Int32) else (0 : Int32))
theorem k_takers (m : PM) (a1 : Int32) (a2 : Int32) : Re MX5_takers (0, [some (vR 7 0 0), some (vI a1), some (vI a2)], [], m) (14, [some (vR 7 0 0), some (vI a1), some (vI a2)], [vI (cd_takers m a1 a2), vR 7 0 0], m) := by
  intro v9 m9 K0
  unfold cd_takers at K0
  show An MX5_takers 0 [some (vR 7 0 0), some (vI a1), some (vI a2)] [] m v9 m9
  refine an_b 3 (pc2 := 3) (L2 := [some (vR 7 0 0), some (vI a1), some (vI a2)]) (st2 := [vI a2, vI a1, vR 7 0 0]) (m1 := m) rfl ?_
  refine an_call (r_X5_areThere m a1 a2) rfl rfl rfl rfl ?_
  refine an_b 1 (pc2 := if v_X5_areThere m a1 a2 = 0 then 13 else 9) (L2 := [some (vR 7 0 0), some (vI a1), some (vI a2)]) (st2 := [vR 7 0 0]) (m1 := m) rfl ?_
  refine re_if1 (c := v_X5_areThere m a1 a2 = 0) (a := (1 : Int32)) (b := (0 : Int32)) (fun x => (14, [some (vR 7 0 0), some (vI a1), some (vI a2)], [vI x, vR 7 0 0], m)) (fun h1 v9 m9 K1 => ?_) (fun h1 v9 m9 K1 => ?_) _ _ K0
  · show An MX5_takers 13 [some (vR 7 0 0), some (vI a1), some (vI a2)] [vR 7 0 0] m v9 m9
    refine an_b 1 (pc2 := 14) (L2 := [some (vR 7 0 0), some (vI a1), some (vI a2)]) (st2 := [vI (1 : Int32), vR 7 0 0]) (m1 := m) rfl ?_
    exact K1
  · show An MX5_takers 9 [some (vR 7 0 0), some (vI a1), some (vI a2)] [vR 7 0 0] m v9 m9
    refine an_b 2 (pc2 := 14) (L2 := [some (vR 7 0 0), some (vI a1), some (vI a2)]) (st2 := [vI (0 : Int32), vR 7 0 0]) (m1 := m) rfl ?_
    exact K1
def cd_hand (m : PM) (a1 : Int32) (a2 : Int32) : Int32 := (if ¬ v_X5_isHand m a1 = 0 then (if v_X5_within m a2 0 8 = 0 then (2 : Int32) else (0 : Int32)) else (1 : Int32))
theorem k_hand (m : PM) (a1 : Int32) (a2 : Int32) : Re MX5_hand (0, [some (vR 7 0 0), some (vI a1), some (vI a2)], [], m) (27, [some (vR 7 0 0), some (vI a1), some (vI a2)], [vI (cd_hand m a1 a2), vR 7 0 0], m) := by
  intro v9 m9 K0
  unfold cd_hand at K0
  show An MX5_hand 0 [some (vR 7 0 0), some (vI a1), some (vI a2)] [] m v9 m9
  refine an_b 2 (pc2 := 2) (L2 := [some (vR 7 0 0), some (vI a1), some (vI a2)]) (st2 := [vI a1, vR 7 0 0]) (m1 := m) rfl ?_
  refine an_call (r_X5_isHand m a1) rfl rfl rfl rfl ?_
  refine an_b 1 (pc2 := if ¬ v_X5_isHand m a1 = 0 then 12 else 8) (L2 := [some (vR 7 0 0), some (vI a1), some (vI a2)]) (st2 := [vR 7 0 0]) (m1 := m) rfl ?_
  refine re_if1 (c := ¬ v_X5_isHand m a1 = 0) (a := (if v_X5_within m a2 0 8 = 0 then (2 : Int32) else (0 : Int32))) (b := (1 : Int32)) (fun x => (27, [some (vR 7 0 0), some (vI a1), some (vI a2)], [vI x, vR 7 0 0], m)) (fun h1 v9 m9 K1 => ?_) (fun h1 v9 m9 K1 => ?_) _ _ K0
  · show An MX5_hand 12 [some (vR 7 0 0), some (vI a1), some (vI a2)] [vR 7 0 0] m v9 m9
    refine an_b 3 (pc2 := 16) (L2 := [some (vR 7 0 0), some (vI a1), some (vI a2)]) (st2 := [vI 8, vI 0, vI a2, vR 7 0 0]) (m1 := m) rfl ?_
    refine an_call (r_X5_within m a2 0 8) rfl rfl rfl rfl ?_
    refine an_b 1 (pc2 := if v_X5_within m a2 0 8 = 0 then 26 else 22) (L2 := [some (vR 7 0 0), some (vI a1), some (vI a2)]) (st2 := [vR 7 0 0]) (m1 := m) rfl ?_
    refine re_if1 (c := v_X5_within m a2 0 8 = 0) (a := (2 : Int32)) (b := (0 : Int32)) (fun x => (27, [some (vR 7 0 0), some (vI a1), some (vI a2)], [vI x, vR 7 0 0], m)) (fun h2 v9 m9 K2 => ?_) (fun h2 v9 m9 K2 => ?_) _ _ K1
    · show An MX5_hand 26 [some (vR 7 0 0), some (vI a1), some (vI a2)] [vR 7 0 0] m v9 m9
      refine an_b 1 (pc2 := 27) (L2 := [some (vR 7 0 0), some (vI a1), some (vI a2)]) (st2 := [vI (2 : Int32), vR 7 0 0]) (m1 := m) rfl ?_
      exact K2
    · show An MX5_hand 22 [some (vR 7 0 0), some (vI a1), some (vI a2)] [vR 7 0 0] m v9 m9
      refine an_b 2 (pc2 := 27) (L2 := [some (vR 7 0 0), some (vI a1), some (vI a2)]) (st2 := [vI (0 : Int32), vR 7 0 0]) (m1 := m) rfl ?_
      exact K2
  · show An MX5_hand 8 [some (vR 7 0 0), some (vI a1), some (vI a2)] [vR 7 0 0] m v9 m9
    refine an_b 2 (pc2 := 27) (L2 := [some (vR 7 0 0), some (vI a1), some (vI a2)]) (st2 := [vI (1 : Int32), vR 7 0 0]) (m1 := m) rfl ?_
    exact K1
def cd_row (m : PM) (a1 : Int32) (a2 : Int32) : Int32 := (if ¬ v_X5_isRow m a1 = 0 then (if v_X5_within m a2 0 5 = 0 then (2 : Int32) else (0 : Int32)) else (1 : Int32))
theorem k_row (m : PM) (a1 : Int32) (a2 : Int32) : Re MX5_row (0, [some (vR 7 0 0), some (vI a1), some (vI a2)], [], m) (26, [some (vR 7 0 0), some (vI a1), some (vI a2)], [vI (cd_row m a1 a2), vR 7 0 0], m) := by
  intro v9 m9 K0
  unfold cd_row at K0
  show An MX5_row 0 [some (vR 7 0 0), some (vI a1), some (vI a2)] [] m v9 m9
  refine an_b 2 (pc2 := 2) (L2 := [some (vR 7 0 0), some (vI a1), some (vI a2)]) (st2 := [vI a1, vR 7 0 0]) (m1 := m) rfl ?_
  refine an_call (r_X5_isRow m a1) rfl rfl rfl rfl ?_
  refine an_b 1 (pc2 := if ¬ v_X5_isRow m a1 = 0 then 12 else 8) (L2 := [some (vR 7 0 0), some (vI a1), some (vI a2)]) (st2 := [vR 7 0 0]) (m1 := m) rfl ?_
  refine re_if1 (c := ¬ v_X5_isRow m a1 = 0) (a := (if v_X5_within m a2 0 5 = 0 then (2 : Int32) else (0 : Int32))) (b := (1 : Int32)) (fun x => (26, [some (vR 7 0 0), some (vI a1), some (vI a2)], [vI x, vR 7 0 0], m)) (fun h1 v9 m9 K1 => ?_) (fun h1 v9 m9 K1 => ?_) _ _ K0
  · show An MX5_row 12 [some (vR 7 0 0), some (vI a1), some (vI a2)] [vR 7 0 0] m v9 m9
    refine an_b 3 (pc2 := 15) (L2 := [some (vR 7 0 0), some (vI a1), some (vI a2)]) (st2 := [vI 5, vI 0, vI a2, vR 7 0 0]) (m1 := m) rfl ?_
    refine an_call (r_X5_within m a2 0 5) rfl rfl rfl rfl ?_
    refine an_b 1 (pc2 := if v_X5_within m a2 0 5 = 0 then 25 else 21) (L2 := [some (vR 7 0 0), some (vI a1), some (vI a2)]) (st2 := [vR 7 0 0]) (m1 := m) rfl ?_
    refine re_if1 (c := v_X5_within m a2 0 5 = 0) (a := (2 : Int32)) (b := (0 : Int32)) (fun x => (26, [some (vR 7 0 0), some (vI a1), some (vI a2)], [vI x, vR 7 0 0], m)) (fun h2 v9 m9 K2 => ?_) (fun h2 v9 m9 K2 => ?_) _ _ K1
    · show An MX5_row 25 [some (vR 7 0 0), some (vI a1), some (vI a2)] [vR 7 0 0] m v9 m9
      refine an_b 1 (pc2 := 26) (L2 := [some (vR 7 0 0), some (vI a1), some (vI a2)]) (st2 := [vI (2 : Int32), vR 7 0 0]) (m1 := m) rfl ?_
      exact K2
    · show An MX5_row 21 [some (vR 7 0 0), some (vI a1), some (vI a2)] [vR 7 0 0] m v9 m9
      refine an_b 2 (pc2 := 26) (L2 := [some (vR 7 0 0), some (vI a1), some (vI a2)]) (st2 := [vI (0 : Int32), vR 7 0 0]) (m1 := m) rfl ?_
      exact K2
  · show An MX5_row 8 [some (vR 7 0 0), some (vI a1), some (vI a2)] [vR 7 0 0] m v9 m9
    refine an_b 2 (pc2 := 26) (L2 := [some (vR 7 0 0), some (vI a1), some (vI a2)]) (st2 := [vI (1 : Int32), vR 7 0 0]) (m1 := m) rfl ?_
    exact K1
def cd_request (m : PM) (a1 : Int32) (a2 : Int32) (a3 : Int32) : Int32 := (if ¬ v_X5_isRow m a1 = 0 then (if v_X5_within m a2 0 7 = 0 then (2 : Int32) else (if v_X5_within m a3 0 1 = 0 then (2 : Int32) else (0 : Int32))) else (1 : Int32))
theorem k_request (m : PM) (a1 : Int32) (a2 : Int32) (a3 : Int32) : Re MX5_request (0, [some (vR 7 0 0), some (vI a1), some (vI a2), some (vI a3)], [], m) (36, [some (vR 7 0 0), some (vI a1), some (vI a2), some (vI a3)], [vI (cd_request m a1 a2 a3), vR 7 0 0], m) := by
  intro v9 m9 K0
  unfold cd_request at K0
  show An MX5_request 0 [some (vR 7 0 0), some (vI a1), some (vI a2), some (vI a3)] [] m v9 m9
  refine an_b 2 (pc2 := 2) (L2 := [some (vR 7 0 0), some (vI a1), some (vI a2), some (vI a3)]) (st2 := [vI a1, vR 7 0 0]) (m1 := m) rfl ?_
  refine an_call (r_X5_isRow m a1) rfl rfl rfl rfl ?_
  refine an_b 1 (pc2 := if ¬ v_X5_isRow m a1 = 0 then 12 else 8) (L2 := [some (vR 7 0 0), some (vI a1), some (vI a2), some (vI a3)]) (st2 := [vR 7 0 0]) (m1 := m) rfl ?_
  refine re_if1 (c := ¬ v_X5_isRow m a1 = 0) (a := (if v_X5_within m a2 0 7 = 0 then (2 : Int32) else (if v_X5_within m a3 0 1 = 0 then (2 : Int32) else (0 : Int32)))) (b := (1 : Int32)) (fun x => (36, [some (vR 7 0 0), some (vI a1), some (vI a2), some (vI a3)], [vI x, vR 7 0 0], m)) (fun h1 v9 m9 K1 => ?_) (fun h1 v9 m9 K1 => ?_) _ _ K0
  · show An MX5_request 12 [some (vR 7 0 0), some (vI a1), some (vI a2), some (vI a3)] [vR 7 0 0] m v9 m9
    refine an_b 3 (pc2 := 16) (L2 := [some (vR 7 0 0), some (vI a1), some (vI a2), some (vI a3)]) (st2 := [vI 7, vI 0, vI a2, vR 7 0 0]) (m1 := m) rfl ?_
    refine an_call (r_X5_within m a2 0 7) rfl rfl rfl rfl ?_
    refine an_b 1 (pc2 := if v_X5_within m a2 0 7 = 0 then 35 else 22) (L2 := [some (vR 7 0 0), some (vI a1), some (vI a2), some (vI a3)]) (st2 := [vR 7 0 0]) (m1 := m) rfl ?_
    refine re_if1 (c := v_X5_within m a2 0 7 = 0) (a := (2 : Int32)) (b := (if v_X5_within m a3 0 1 = 0 then (2 : Int32) else (0 : Int32))) (fun x => (36, [some (vR 7 0 0), some (vI a1), some (vI a2), some (vI a3)], [vI x, vR 7 0 0], m)) (fun h2 v9 m9 K2 => ?_) (fun h2 v9 m9 K2 => ?_) _ _ K1
    · show An MX5_request 35 [some (vR 7 0 0), some (vI a1), some (vI a2), some (vI a3)] [vR 7 0 0] m v9 m9
      refine an_b 1 (pc2 := 36) (L2 := [some (vR 7 0 0), some (vI a1), some (vI a2), some (vI a3)]) (st2 := [vI (2 : Int32), vR 7 0 0]) (m1 := m) rfl ?_
      exact K2
    · show An MX5_request 22 [some (vR 7 0 0), some (vI a1), some (vI a2), some (vI a3)] [vR 7 0 0] m v9 m9
      refine an_b 3 (pc2 := 25) (L2 := [some (vR 7 0 0), some (vI a1), some (vI a2), some (vI a3)]) (st2 := [vI 1, vI 0, vI a3, vR 7 0 0]) (m1 := m) rfl ?_
      refine an_call (r_X5_within m a3 0 1) rfl rfl rfl rfl ?_
      refine an_b 1 (pc2 := if v_X5_within m a3 0 1 = 0 then 35 else 31) (L2 := [some (vR 7 0 0), some (vI a1), some (vI a2), some (vI a3)]) (st2 := [vR 7 0 0]) (m1 := m) rfl ?_
      refine re_if1 (c := v_X5_within m a3 0 1 = 0) (a := (2 : Int32)) (b := (0 : Int32)) (fun x => (36, [some (vR 7 0 0), some (vI a1), some (vI a2), some (vI a3)], [vI x, vR 7 0 0], m)) (fun h3 v9 m9 K3 => ?_) (fun h3 v9 m9 K3 => ?_) _ _ K2
      · show An MX5_request 35 [some (vR 7 0 0), some (vI a1), some (vI a2), some (vI a3)] [vR 7 0 0] m v9 m9
        refine an_b 1 (pc2 := 36) (L2 := [some (vR 7 0 0), some (vI a1), some (vI a2), some (vI a3)]) (st2 := [vI (2 : Int32), vR 7 0 0]) (m1 := m) rfl ?_
        exact K3
      · show An MX5_request 31 [some (vR 7 0 0), some (vI a1), some (vI a2), some (vI a3)] [vR 7 0 0] m v9 m9
        refine an_b 2 (pc2 := 36) (L2 := [some (vR 7 0 0), some (vI a1), some (vI a2), some (vI a3)]) (st2 := [vI (0 : Int32), vR 7 0 0]) (m1 := m) rfl ?_
        exact K3
  · show An MX5_request 8 [some (vR 7 0 0), some (vI a1), some (vI a2), some (vI a3)] [vR 7 0 0] m v9 m9
    refine an_b 2 (pc2 := 36) (L2 := [some (vR 7 0 0), some (vI a1), some (vI a2), some (vI a3)]) (st2 := [vI (1 : Int32), vR 7 0 0]) (m1 := m) rfl ?_
    exact K1
def cd_count (m : PM) (a1 : Int32) : Int32 := (if v_X5_within m a1 0 9 = 0 then (1 : Int32) else (0 : Int32))
theorem k_count (m : PM) (a1 : Int32) : Re MX5_count (0, [some (vR 7 0 0), some (vI a1)], [], m) (16, [some (vR 7 0 0), some (vI a1)], [vI (cd_count m a1), vR 7 0 0], m) := by
  intro v9 m9 K0
  unfold cd_count at K0
  show An MX5_count 0 [some (vR 7 0 0), some (vI a1)] [] m v9 m9
  refine an_b 4 (pc2 := 5) (L2 := [some (vR 7 0 0), some (vI a1)]) (st2 := [vI 9, vI 0, vI a1, vR 7 0 0]) (m1 := m) rfl ?_
  refine an_call (r_X5_within m a1 0 9) rfl rfl rfl rfl ?_
  refine an_b 1 (pc2 := if v_X5_within m a1 0 9 = 0 then 15 else 11) (L2 := [some (vR 7 0 0), some (vI a1)]) (st2 := [vR 7 0 0]) (m1 := m) rfl ?_
  refine re_if1 (c := v_X5_within m a1 0 9 = 0) (a := (1 : Int32)) (b := (0 : Int32)) (fun x => (16, [some (vR 7 0 0), some (vI a1)], [vI x, vR 7 0 0], m)) (fun h1 v9 m9 K1 => ?_) (fun h1 v9 m9 K1 => ?_) _ _ K0
  · show An MX5_count 15 [some (vR 7 0 0), some (vI a1)] [vR 7 0 0] m v9 m9
    refine an_b 1 (pc2 := 16) (L2 := [some (vR 7 0 0), some (vI a1)]) (st2 := [vI (1 : Int32), vR 7 0 0]) (m1 := m) rfl ?_
    exact K1
  · show An MX5_count 11 [some (vR 7 0 0), some (vI a1)] [vR 7 0 0] m v9 m9
    refine an_b 2 (pc2 := 16) (L2 := [some (vR 7 0 0), some (vI a1)]) (st2 := [vI (0 : Int32), vR 7 0 0]) (m1 := m) rfl ?_
    exact K1
def cd_setting (m : PM) (a1 : Int32) : Int32 := (if v_X5_isSetting m a1 = 0 then (1 : Int32) else (0 : Int32))
theorem k_setting (m : PM) (a1 : Int32) : Re MX5_setting (0, [some (vR 7 0 0), some (vI a1)], [], m) (13, [some (vR 7 0 0), some (vI a1)], [vI (cd_setting m a1), vR 7 0 0], m) := by
  intro v9 m9 K0
  unfold cd_setting at K0
  show An MX5_setting 0 [some (vR 7 0 0), some (vI a1)] [] m v9 m9
  refine an_b 2 (pc2 := 2) (L2 := [some (vR 7 0 0), some (vI a1)]) (st2 := [vI a1, vR 7 0 0]) (m1 := m) rfl ?_
  refine an_call (r_X5_isSetting m a1) rfl rfl rfl rfl ?_
  refine an_b 1 (pc2 := if v_X5_isSetting m a1 = 0 then 12 else 8) (L2 := [some (vR 7 0 0), some (vI a1)]) (st2 := [vR 7 0 0]) (m1 := m) rfl ?_
  refine re_if1 (c := v_X5_isSetting m a1 = 0) (a := (1 : Int32)) (b := (0 : Int32)) (fun x => (13, [some (vR 7 0 0), some (vI a1)], [vI x, vR 7 0 0], m)) (fun h1 v9 m9 K1 => ?_) (fun h1 v9 m9 K1 => ?_) _ _ K0
  · show An MX5_setting 12 [some (vR 7 0 0), some (vI a1)] [vR 7 0 0] m v9 m9
    refine an_b 1 (pc2 := 13) (L2 := [some (vR 7 0 0), some (vI a1)]) (st2 := [vI (1 : Int32), vR 7 0 0]) (m1 := m) rfl ?_
    exact K1
  · show An MX5_setting 8 [some (vR 7 0 0), some (vI a1)] [vR 7 0 0] m v9 m9
    refine an_b 2 (pc2 := 13) (L2 := [some (vR 7 0 0), some (vI a1)]) (st2 := [vI (0 : Int32), vR 7 0 0]) (m1 := m) rfl ?_
    exact K1
theorem no_lock (m : PM) (a1 : Int32) (a2 : Int32) (c : ¬ cd_lock m a1 a2 ≤ 0) : Rn MX5_lock [vR 7 0 0, vI a1, vI a2] m (some (vI 0)) (wI m 7 0 0 5 (cd_lock m a1 a2)) := by
  refine rn_of [some (vR 7 0 0), some (vI a1), some (vI a2)] rfl ?_
  exact k_lock m a1 a2 _ _ (thr_no (Q := 28) (Q2 := 24) (Q3 := 34) (n := 2) (fun _ _ => rfl) (fun _ => rfl) (fun _ => an_ret rfl rfl rfl rfl rfl) c)
theorem no_takers (m : PM) (a1 : Int32) (a2 : Int32) (c : ¬ cd_takers m a1 a2 ≤ 0) : Rn MX5_takers [vR 7 0 0, vI a1, vI a2] m (some (vI 0)) (wI m 7 0 0 5 (cd_takers m a1 a2)) := by
  refine rn_of [some (vR 7 0 0), some (vI a1), some (vI a2)] rfl ?_
  exact k_takers m a1 a2 _ _ (thr_no (Q := 28) (Q2 := 24) (Q3 := 34) (n := 2) (fun _ _ => rfl) (fun _ => rfl) (fun _ => an_ret rfl rfl rfl rfl rfl) c)
theorem no_hand (m : PM) (a1 : Int32) (a2 : Int32) (c : ¬ cd_hand m a1 a2 ≤ 0) : Rn MX5_hand [vR 7 0 0, vI a1, vI a2] m (some (vI 0)) (wI m 7 0 0 5 (cd_hand m a1 a2)) := by
  refine rn_of [some (vR 7 0 0), some (vI a1), some (vI a2)] rfl ?_
  exact k_hand m a1 a2 _ _ (thr_no (Q := 41) (Q2 := 37) (Q3 := 47) (n := 2) (fun _ _ => rfl) (fun _ => rfl) (fun _ => an_ret rfl rfl rfl rfl rfl) c)
theorem no_row (m : PM) (a1 : Int32) (a2 : Int32) (c : ¬ cd_row m a1 a2 ≤ 0) : Rn MX5_row [vR 7 0 0, vI a1, vI a2] m (some (vI 0)) (wI m 7 0 0 5 (cd_row m a1 a2)) := by
  refine rn_of [some (vR 7 0 0), some (vI a1), some (vI a2)] rfl ?_
  exact k_row m a1 a2 _ _ (thr_no (Q := 40) (Q2 := 36) (Q3 := 46) (n := 2) (fun _ _ => rfl) (fun _ => rfl) (fun _ => an_ret rfl rfl rfl rfl rfl) c)
theorem no_request (m : PM) (a1 : Int32) (a2 : Int32) (a3 : Int32) (c : ¬ cd_request m a1 a2 a3 ≤ 0) : Rn MX5_request [vR 7 0 0, vI a1, vI a2, vI a3] m (some (vI 0)) (wI m 7 0 0 5 (cd_request m a1 a2 a3)) := by
  refine rn_of [some (vR 7 0 0), some (vI a1), some (vI a2), some (vI a3)] rfl ?_
  exact k_request m a1 a2 a3 _ _ (thr_no (Q := 50) (Q2 := 46) (Q3 := 57) (n := 2) (fun _ _ => rfl) (fun _ => rfl) (fun _ => an_ret rfl rfl rfl rfl rfl) c)
theorem no_count (m : PM) (a1 : Int32) (c : ¬ cd_count m a1 ≤ 0) : Rn MX5_count [vR 7 0 0, vI a1] m (some (vI 0)) (wI m 7 0 0 5 (cd_count m a1)) := by
  refine rn_of [some (vR 7 0 0), some (vI a1)] rfl ?_
  exact k_count m a1 _ _ (thr_no (Q := 30) (Q2 := 26) (Q3 := 35) (n := 2) (fun _ _ => rfl) (fun _ => rfl) (fun _ => an_ret rfl rfl rfl rfl rfl) c)
theorem no_setting (m : PM) (a1 : Int32) (c : ¬ cd_setting m a1 ≤ 0) : Rn MX5_setting [vR 7 0 0, vI a1] m (some (vI 0)) (wI m 7 0 0 5 (cd_setting m a1)) := by
  refine rn_of [some (vR 7 0 0), some (vI a1)] rfl ?_
  exact k_setting m a1 _ _ (thr_no (Q := 27) (Q2 := 23) (Q3 := 35) (n := 2) (fun _ _ => rfl) (fun _ => rfl) (fun _ => an_ret rfl rfl rfl rfl rfl) c)
theorem off_release (m : PM) (a1 : Int32) (a2 : Int32) (c : v_X5_areThere m a1 a2 = 0) : Rn MX5_release [vR 7 0 0, vI a1, vI a2] m (some (vI 0)) (wI m 7 0 0 5 1) := by
  refine rn_of [some (vR 7 0 0), some (vI a1), some (vI a2)] rfl ?_
  refine an_b 3 (pc2 := 3) (L2 := [some (vR 7 0 0), some (vI a1), some (vI a2)]) (st2 := [vI a2, vI a1, vR 7 0 0]) (m1 := m) rfl ?_
  refine an_call (r_X5_areThere m a1 a2) rfl rfl rfl rfl ?_
  refine an_b 1 (pc2 := if ¬ v_X5_areThere m a1 a2 = 0 then 13 else 9) (L2 := [some (vR 7 0 0), some (vI a1), some (vI a2)]) (st2 := [vR 7 0 0]) (m1 := m) rfl ?_
  refine an_f (fun q => q c) ?_
  refine an_b 2 (pc2 := 27) (L2 := [some (vR 7 0 0), some (vI a1), some (vI a2)]) (st2 := [vI (1 : Int32), vR 7 0 0]) (m1 := m) rfl ?_
  exact thr_no (Q := 39) (Q2 := 37) (Q3 := 38) (n := 1) (fun _ _ => rfl) (fun _ => rfl) (fun _ => an_ret rfl rfl rfl rfl rfl) (by decide)
theorem off_handOn (m : PM) (a1 : Int32) (a2 : Int32) (a3 : Int32) (c : v_X5_areThere m a1 a2 = 0) : Rn MX5_handOn [vR 7 0 0, vI a1, vI a2, vI a3] m (some (vI 0)) (wI m 7 0 0 5 1) := by
  refine rn_of [some (vR 7 0 0), some (vI a1), some (vI a2), some (vI a3), none, none] rfl ?_
  refine an_b 3 (pc2 := 3) (L2 := [some (vR 7 0 0), some (vI a1), some (vI a2), some (vI a3), none, none]) (st2 := [vI a2, vI a1, vR 7 0 0]) (m1 := m) rfl ?_
  refine an_call (r_X5_areThere m a1 a2) rfl rfl rfl rfl ?_
  refine an_b 1 (pc2 := if v_X5_areThere m a1 a2 = 0 then 16 else 9) (L2 := [some (vR 7 0 0), some (vI a1), some (vI a2), some (vI a3), none, none]) (st2 := [vR 7 0 0]) (m1 := m) rfl ?_
  refine an_t c ?_
  refine an_b 2 (pc2 := 35) (L2 := [some (vR 7 0 0), some (vI a1), some (vI a2), some (vI a3), none, none]) (st2 := [vI (1 : Int32), vR 7 0 0]) (m1 := m) rfl ?_
  exact thr_no (Q := 47) (Q2 := 45) (Q3 := 46) (n := 1) (fun _ _ => rfl) (fun _ => rfl) (fun _ => an_ret rfl rfl rfl rfl rfl) (by decide)
theorem off_cool (m : PM) (a1 : Int32) (c : v_X5_isRow m a1 = 0) : Rn MX5_cool [vR 7 0 0, vI a1] m (some (vI 0)) (wI m 7 0 0 5 1) := by
  refine rn_of [some (vR 7 0 0), some (vI a1), none] rfl ?_
  refine an_b 2 (pc2 := 2) (L2 := [some (vR 7 0 0), some (vI a1), none]) (st2 := [vI a1, vR 7 0 0]) (m1 := m) rfl ?_
  refine an_call (r_X5_isRow m a1) rfl rfl rfl rfl ?_
  refine an_b 1 (pc2 := if ¬ v_X5_isRow m a1 = 0 then 12 else 8) (L2 := [some (vR 7 0 0), some (vI a1), none]) (st2 := [vR 7 0 0]) (m1 := m) rfl ?_
  refine an_f (fun q => q c) ?_
  refine an_b 2 (pc2 := 25) (L2 := [some (vR 7 0 0), some (vI a1), none]) (st2 := [vI (1 : Int32), vR 7 0 0]) (m1 := m) rfl ?_
  exact thr_no (Q := 37) (Q2 := 35) (Q3 := 36) (n := 1) (fun _ _ => rfl) (fun _ => rfl) (fun _ => an_ret rfl rfl rfl rfl rfl) (by decide)
