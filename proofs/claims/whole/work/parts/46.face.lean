/-! the refusals of the model's face -/
def cd_ask (m : PM) (a1 : Int32) (a2 : Int32) (a3 : Int32) : Int32 := (if ¬ v_X5_areThere m a1 a2 = 0 then (if ¬ v_X5_isMode m a3 = 0 then (if v_X5_waits m a1 = 0 then (0 : Int32) else (3 : Int32)) else (2 : Int32)) else (1 : Int32))
theorem k_ask (m : PM) (a1 : Int32) (a2 : Int32) (a3 : Int32) (hQ : QL m) : Re MX5_ask (0, [some (vR 7 0 0), some (vI a1), some (vI a2), some (vI a3)], [], m) (37, [some (vR 7 0 0), some (vI a1), some (vI a2), some (vI a3)], [vI (cd_ask m a1 a2 a3), vR 7 0 0], m) := by
  intro v9 m9 K0
  unfold cd_ask at K0
  show An MX5_ask 0 [some (vR 7 0 0), some (vI a1), some (vI a2), some (vI a3)] [] m v9 m9
  refine an_b 3 (pc2 := 3) (L2 := [some (vR 7 0 0), some (vI a1), some (vI a2), some (vI a3)]) (st2 := [vI a2, vI a1, vR 7 0 0]) (m1 := m) rfl ?_
  refine an_call (r_X5_areThere m a1 a2) rfl rfl rfl rfl ?_
  refine an_b 1 (pc2 := if ¬ v_X5_areThere m a1 a2 = 0 then 13 else 9) (L2 := [some (vR 7 0 0), some (vI a1), some (vI a2), some (vI a3)]) (st2 := [vR 7 0 0]) (m1 := m) rfl ?_
  refine re_if1 (c := ¬ v_X5_areThere m a1 a2 = 0) (a := (if ¬ v_X5_isMode m a3 = 0 then (if v_X5_waits m a1 = 0 then (0 : Int32) else (3 : Int32)) else (2 : Int32))) (b := (1 : Int32)) (fun x => (37, [some (vR 7 0 0), some (vI a1), some (vI a2), some (vI a3)], [vI x, vR 7 0 0], m)) (fun h1 v9 m9 K1 => ?_) (fun h1 v9 m9 K1 => ?_) _ _ K0
  · show An MX5_ask 13 [some (vR 7 0 0), some (vI a1), some (vI a2), some (vI a3)] [vR 7 0 0] m v9 m9
    refine an_b 1 (pc2 := 14) (L2 := [some (vR 7 0 0), some (vI a1), some (vI a2), some (vI a3)]) (st2 := [vI a3, vR 7 0 0]) (m1 := m) rfl ?_
    refine an_call (r_X5_isMode m a3) rfl rfl rfl rfl ?_
    refine an_b 1 (pc2 := if ¬ v_X5_isMode m a3 = 0 then 24 else 20) (L2 := [some (vR 7 0 0), some (vI a1), some (vI a2), some (vI a3)]) (st2 := [vR 7 0 0]) (m1 := m) rfl ?_
    refine re_if1 (c := ¬ v_X5_isMode m a3 = 0) (a := (if v_X5_waits m a1 = 0 then (0 : Int32) else (3 : Int32))) (b := (2 : Int32)) (fun x => (37, [some (vR 7 0 0), some (vI a1), some (vI a2), some (vI a3)], [vI x, vR 7 0 0], m)) (fun h2 v9 m9 K2 => ?_) (fun h2 v9 m9 K2 => ?_) _ _ K1
    · show An MX5_ask 24 [some (vR 7 0 0), some (vI a1), some (vI a2), some (vI a3)] [vR 7 0 0] m v9 m9
      refine an_b 2 (pc2 := 26) (L2 := [some (vR 7 0 0), some (vI a1), some (vI a2), some (vI a3)]) (st2 := [vI a1, vR 7 0 0, vR 7 0 0]) (m1 := m) rfl ?_
      refine an_call (r_X5_waits m a1 hQ) rfl rfl rfl rfl ?_
      refine an_b 1 (pc2 := if v_X5_waits m a1 = 0 then 36 else 32) (L2 := [some (vR 7 0 0), some (vI a1), some (vI a2), some (vI a3)]) (st2 := [vR 7 0 0]) (m1 := m) rfl ?_
      refine re_if1 (c := v_X5_waits m a1 = 0) (a := (0 : Int32)) (b := (3 : Int32)) (fun x => (37, [some (vR 7 0 0), some (vI a1), some (vI a2), some (vI a3)], [vI x, vR 7 0 0], m)) (fun h3 v9 m9 K3 => ?_) (fun h3 v9 m9 K3 => ?_) _ _ K2
      · show An MX5_ask 36 [some (vR 7 0 0), some (vI a1), some (vI a2), some (vI a3)] [vR 7 0 0] m v9 m9
        refine an_b 1 (pc2 := 37) (L2 := [some (vR 7 0 0), some (vI a1), some (vI a2), some (vI a3)]) (st2 := [vI (0 : Int32), vR 7 0 0]) (m1 := m) rfl ?_
        exact K3
      · show An MX5_ask 32 [some (vR 7 0 0), some (vI a1), some (vI a2), some (vI a3)] [vR 7 0 0] m v9 m9
        refine an_b 2 (pc2 := 37) (L2 := [some (vR 7 0 0), some (vI a1), some (vI a2), some (vI a3)]) (st2 := [vI (3 : Int32), vR 7 0 0]) (m1 := m) rfl ?_
        exact K3
    · show An MX5_ask 20 [some (vR 7 0 0), some (vI a1), some (vI a2), some (vI a3)] [vR 7 0 0] m v9 m9
      refine an_b 2 (pc2 := 37) (L2 := [some (vR 7 0 0), some (vI a1), some (vI a2), some (vI a3)]) (st2 := [vI (2 : Int32), vR 7 0 0]) (m1 := m) rfl ?_
      exact K2
  · show An MX5_ask 9 [some (vR 7 0 0), some (vI a1), some (vI a2), some (vI a3)] [vR 7 0 0] m v9 m9
    refine an_b 2 (pc2 := 37) (L2 := [some (vR 7 0 0), some (vI a1), some (vI a2), some (vI a3)]) (st2 := [vI (1 : Int32), vR 7 0 0]) (m1 := m) rfl ?_
    exact K1
def cd_giveUp (m : PM) (a1 : Int32) : Int32 := (if ¬ v_X5_isHand m a1 = 0 then (if v_X5_waits m a1 = 0 then (2 : Int32) else (0 : Int32)) else (1 : Int32))
theorem k_giveUp (m : PM) (a1 : Int32) (hQ : QL m) : Re MX5_giveUp (0, [some (vR 7 0 0), some (vI a1), none, none], [], m) (25, [some (vR 7 0 0), some (vI a1), none, none], [vI (cd_giveUp m a1), vR 7 0 0], m) := by
  intro v9 m9 K0
  unfold cd_giveUp at K0
  show An MX5_giveUp 0 [some (vR 7 0 0), some (vI a1), none, none] [] m v9 m9
  refine an_b 2 (pc2 := 2) (L2 := [some (vR 7 0 0), some (vI a1), none, none]) (st2 := [vI a1, vR 7 0 0]) (m1 := m) rfl ?_
  refine an_call (r_X5_isHand m a1) rfl rfl rfl rfl ?_
  refine an_b 1 (pc2 := if ¬ v_X5_isHand m a1 = 0 then 12 else 8) (L2 := [some (vR 7 0 0), some (vI a1), none, none]) (st2 := [vR 7 0 0]) (m1 := m) rfl ?_
  refine re_if1 (c := ¬ v_X5_isHand m a1 = 0) (a := (if v_X5_waits m a1 = 0 then (2 : Int32) else (0 : Int32))) (b := (1 : Int32)) (fun x => (25, [some (vR 7 0 0), some (vI a1), none, none], [vI x, vR 7 0 0], m)) (fun h1 v9 m9 K1 => ?_) (fun h1 v9 m9 K1 => ?_) _ _ K0
  · show An MX5_giveUp 12 [some (vR 7 0 0), some (vI a1), none, none] [vR 7 0 0] m v9 m9
    refine an_b 2 (pc2 := 14) (L2 := [some (vR 7 0 0), some (vI a1), none, none]) (st2 := [vI a1, vR 7 0 0, vR 7 0 0]) (m1 := m) rfl ?_
    refine an_call (r_X5_waits m a1 hQ) rfl rfl rfl rfl ?_
    refine an_b 1 (pc2 := if v_X5_waits m a1 = 0 then 24 else 20) (L2 := [some (vR 7 0 0), some (vI a1), none, none]) (st2 := [vR 7 0 0]) (m1 := m) rfl ?_
    refine re_if1 (c := v_X5_waits m a1 = 0) (a := (2 : Int32)) (b := (0 : Int32)) (fun x => (25, [some (vR 7 0 0), some (vI a1), none, none], [vI x, vR 7 0 0], m)) (fun h2 v9 m9 K2 => ?_) (fun h2 v9 m9 K2 => ?_) _ _ K1
    · show An MX5_giveUp 24 [some (vR 7 0 0), some (vI a1), none, none] [vR 7 0 0] m v9 m9
      refine an_b 1 (pc2 := 25) (L2 := [some (vR 7 0 0), some (vI a1), none, none]) (st2 := [vI (2 : Int32), vR 7 0 0]) (m1 := m) rfl ?_
      exact K2
    · show An MX5_giveUp 20 [some (vR 7 0 0), some (vI a1), none, none] [vR 7 0 0] m v9 m9
      refine an_b 2 (pc2 := 25) (L2 := [some (vR 7 0 0), some (vI a1), none, none]) (st2 := [vI (0 : Int32), vR 7 0 0]) (m1 := m) rfl ?_
      exact K2
  · show An MX5_giveUp 8 [some (vR 7 0 0), some (vI a1), none, none] [vR 7 0 0] m v9 m9
    refine an_b 2 (pc2 := 25) (L2 := [some (vR 7 0 0), some (vI a1), none, none]) (st2 := [vI (1 : Int32), vR 7 0 0]) (m1 := m) rfl ?_
    exact K1
def cd_pass (m : PM) (a1 : Int32) : Int32 := (if v_X5_within m a1 1 100 = 0 then (1 : Int32) else (0 : Int32))
theorem k_pass (m : PM) (a1 : Int32) : Re MX5_pass (0, [some (vR 7 0 0), some (vI a1), none, none, none], [], m) (16, [some (vR 7 0 0), some (vI a1), none, none, none], [vI (cd_pass m a1), vR 7 0 0], m) := by
  intro v9 m9 K0
  unfold cd_pass at K0
  show An MX5_pass 0 [some (vR 7 0 0), some (vI a1), none, none, none] [] m v9 m9
  refine an_b 4 (pc2 := 5) (L2 := [some (vR 7 0 0), some (vI a1), none, none, none]) (st2 := [vI 100, vI 1, vI a1, vR 7 0 0]) (m1 := m) rfl ?_
  refine an_call (r_X5_within m a1 1 100) rfl rfl rfl rfl ?_
  refine an_b 1 (pc2 := if v_X5_within m a1 1 100 = 0 then 15 else 11) (L2 := [some (vR 7 0 0), some (vI a1), none, none, none]) (st2 := [vR 7 0 0]) (m1 := m) rfl ?_
  refine re_if1 (c := v_X5_within m a1 1 100 = 0) (a := (1 : Int32)) (b := (0 : Int32)) (fun x => (16, [some (vR 7 0 0), some (vI a1), none, none, none], [vI x, vR 7 0 0], m)) (fun h1 v9 m9 K1 => ?_) (fun h1 v9 m9 K1 => ?_) _ _ K0
  · show An MX5_pass 15 [some (vR 7 0 0), some (vI a1), none, none, none] [vR 7 0 0] m v9 m9
    refine an_b 1 (pc2 := 16) (L2 := [some (vR 7 0 0), some (vI a1), none, none, none]) (st2 := [vI (1 : Int32), vR 7 0 0]) (m1 := m) rfl ?_
    exact K1
  · show An MX5_pass 11 [some (vR 7 0 0), some (vI a1), none, none, none] [vR 7 0 0] m v9 m9
    refine an_b 2 (pc2 := 16) (L2 := [some (vR 7 0 0), some (vI a1), none, none, none]) (st2 := [vI (0 : Int32), vR 7 0 0]) (m1 := m) rfl ?_
    exact K1
def cd_set (m : PM) (a1 : Int32) (a2 : Int32) : Int32 := (if ¬ v_X5_isSetting m a1 = 0 then (if v_X5_isValue m a1 a2 = 0 then (2 : Int32) else (0 : Int32)) else (1 : Int32))
theorem k_set (m : PM) (a1 : Int32) (a2 : Int32) : Re MX5_set (0, [some (vR 7 0 0), some (vI a1), some (vI a2), none], [], m) (25, [some (vR 7 0 0), some (vI a1), some (vI a2), none], [vI (cd_set m a1 a2), vR 7 0 0], m) := by
  intro v9 m9 K0
  unfold cd_set at K0
  show An MX5_set 0 [some (vR 7 0 0), some (vI a1), some (vI a2), none] [] m v9 m9
  refine an_b 2 (pc2 := 2) (L2 := [some (vR 7 0 0), some (vI a1), some (vI a2), none]) (st2 := [vI a1, vR 7 0 0]) (m1 := m) rfl ?_
  refine an_call (r_X5_isSetting m a1) rfl rfl rfl rfl ?_
  refine an_b 1 (pc2 := if ¬ v_X5_isSetting m a1 = 0 then 12 else 8) (L2 := [some (vR 7 0 0), some (vI a1), some (vI a2), none]) (st2 := [vR 7 0 0]) (m1 := m) rfl ?_
  refine re_if1 (c := ¬ v_X5_isSetting m a1 = 0) (a := (if v_X5_isValue m a1 a2 = 0 then (2 : Int32) else (0 : Int32))) (b := (1 : Int32)) (fun x => (25, [some (vR 7 0 0), some (vI a1), some (vI a2), none], [vI x, vR 7 0 0], m)) (fun h1 v9 m9 K1 => ?_) (fun h1 v9 m9 K1 => ?_) _ _ K0
  · show An MX5_set 12 [some (vR 7 0 0), some (vI a1), some (vI a2), none] [vR 7 0 0] m v9 m9
    refine an_b 2 (pc2 := 14) (L2 := [some (vR 7 0 0), some (vI a1), some (vI a2), none]) (st2 := [vI a2, vI a1, vR 7 0 0]) (m1 := m) rfl ?_
    refine an_call (r_X5_isValue m a1 a2) rfl rfl rfl rfl ?_
    refine an_b 1 (pc2 := if v_X5_isValue m a1 a2 = 0 then 24 else 20) (L2 := [some (vR 7 0 0), some (vI a1), some (vI a2), none]) (st2 := [vR 7 0 0]) (m1 := m) rfl ?_
    refine re_if1 (c := v_X5_isValue m a1 a2 = 0) (a := (2 : Int32)) (b := (0 : Int32)) (fun x => (25, [some (vR 7 0 0), some (vI a1), some (vI a2), none], [vI x, vR 7 0 0], m)) (fun h2 v9 m9 K2 => ?_) (fun h2 v9 m9 K2 => ?_) _ _ K1
    · show An MX5_set 24 [some (vR 7 0 0), some (vI a1), some (vI a2), none] [vR 7 0 0] m v9 m9
      refine an_b 1 (pc2 := 25) (L2 := [some (vR 7 0 0), some (vI a1), some (vI a2), none]) (st2 := [vI (2 : Int32), vR 7 0 0]) (m1 := m) rfl ?_
      exact K2
    · show An MX5_set 20 [some (vR 7 0 0), some (vI a1), some (vI a2), none] [vR 7 0 0] m v9 m9
      refine an_b 2 (pc2 := 25) (L2 := [some (vR 7 0 0), some (vI a1), some (vI a2), none]) (st2 := [vI (0 : Int32), vR 7 0 0]) (m1 := m) rfl ?_
      exact K2
  · show An MX5_set 8 [some (vR 7 0 0), some (vI a1), some (vI a2), none] [vR 7 0 0] m v9 m9
    refine an_b 2 (pc2 := 25) (L2 := [some (vR 7 0 0), some (vI a1), some (vI a2), none]) (st2 := [vI (1 : Int32), vR 7 0 0]) (m1 := m) rfl ?_
    exact K1
def cd_burnsIn (m : PM) (a1 : Int32) : Int32 := (if v_X5_isRow m a1 = 0 then (1 : Int32) else (0 : Int32))
theorem k_burnsIn (m : PM) (a1 : Int32) : Re MX5_burnsIn (0, [some (vR 7 0 0), some (vI a1)], [], m) (13, [some (vR 7 0 0), some (vI a1)], [vI (cd_burnsIn m a1), vR 7 0 0], m) := by
  intro v9 m9 K0
  unfold cd_burnsIn at K0
  show An MX5_burnsIn 0 [some (vR 7 0 0), some (vI a1)] [] m v9 m9
  refine an_b 2 (pc2 := 2) (L2 := [some (vR 7 0 0), some (vI a1)]) (st2 := [vI a1, vR 7 0 0]) (m1 := m) rfl ?_
  refine an_call (r_X5_isRow m a1) rfl rfl rfl rfl ?_
  refine an_b 1 (pc2 := if v_X5_isRow m a1 = 0 then 12 else 8) (L2 := [some (vR 7 0 0), some (vI a1)]) (st2 := [vR 7 0 0]) (m1 := m) rfl ?_
  refine re_if1 (c := v_X5_isRow m a1 = 0) (a := (1 : Int32)) (b := (0 : Int32)) (fun x => (13, [some (vR 7 0 0), some (vI a1)], [vI x, vR 7 0 0], m)) (fun h1 v9 m9 K1 => ?_) (fun h1 v9 m9 K1 => ?_) _ _ K0
  · show An MX5_burnsIn 12 [some (vR 7 0 0), some (vI a1)] [vR 7 0 0] m v9 m9
    refine an_b 1 (pc2 := 13) (L2 := [some (vR 7 0 0), some (vI a1)]) (st2 := [vI (1 : Int32), vR 7 0 0]) (m1 := m) rfl ?_
    exact K1
  · show An MX5_burnsIn 8 [some (vR 7 0 0), some (vI a1)] [vR 7 0 0] m v9 m9
    refine an_b 2 (pc2 := 13) (L2 := [some (vR 7 0 0), some (vI a1)]) (st2 := [vI (0 : Int32), vR 7 0 0]) (m1 := m) rfl ?_
    exact K1
def cd_ifAsked (m : PM) (a1 : Int32) (a2 : Int32) (a3 : Int32) (a4 : Int32) : Int32 := (if ¬ v_X5_areThere m a1 a2 = 0 then (if v_X5_isMode m a3 = 0 then (2 : Int32) else (if v_X5_within m a4 0 2 = 0 then (2 : Int32) else (0 : Int32))) else (1 : Int32))
theorem k_ifAsked (m : PM) (a1 : Int32) (a2 : Int32) (a3 : Int32) (a4 : Int32) : Re MX5_ifAsked (0, [some (vR 7 0 0), some (vI a1), some (vI a2), some (vI a3), some (vI a4)], [], m) (35, [some (vR 7 0 0), some (vI a1), some (vI a2), some (vI a3), some (vI a4)], [vI (cd_ifAsked m a1 a2 a3 a4), vR 7 0 0], m) := by
  intro v9 m9 K0
  unfold cd_ifAsked at K0
  show An MX5_ifAsked 0 [some (vR 7 0 0), some (vI a1), some (vI a2), some (vI a3), some (vI a4)] [] m v9 m9
  refine an_b 3 (pc2 := 3) (L2 := [some (vR 7 0 0), some (vI a1), some (vI a2), some (vI a3), some (vI a4)]) (st2 := [vI a2, vI a1, vR 7 0 0]) (m1 := m) rfl ?_
  refine an_call (r_X5_areThere m a1 a2) rfl rfl rfl rfl ?_
  refine an_b 1 (pc2 := if ¬ v_X5_areThere m a1 a2 = 0 then 13 else 9) (L2 := [some (vR 7 0 0), some (vI a1), some (vI a2), some (vI a3), some (vI a4)]) (st2 := [vR 7 0 0]) (m1 := m) rfl ?_
  refine re_if1 (c := ¬ v_X5_areThere m a1 a2 = 0) (a := (if v_X5_isMode m a3 = 0 then (2 : Int32) else (if v_X5_within m a4 0 2 = 0 then (2 : Int32) else (0 : Int32)))) (b := (1 : Int32)) (fun x => (35, [some (vR 7 0 0), some (vI a1), some (vI a2), some (vI a3), some (vI a4)], [vI x, vR 7 0 0], m)) (fun h1 v9 m9 K1 => ?_) (fun h1 v9 m9 K1 => ?_) _ _ K0
  · show An MX5_ifAsked 13 [some (vR 7 0 0), some (vI a1), some (vI a2), some (vI a3), some (vI a4)] [vR 7 0 0] m v9 m9
    refine an_b 1 (pc2 := 14) (L2 := [some (vR 7 0 0), some (vI a1), some (vI a2), some (vI a3), some (vI a4)]) (st2 := [vI a3, vR 7 0 0]) (m1 := m) rfl ?_
    refine an_call (r_X5_isMode m a3) rfl rfl rfl rfl ?_
    refine an_b 1 (pc2 := if v_X5_isMode m a3 = 0 then 34 else 20) (L2 := [some (vR 7 0 0), some (vI a1), some (vI a2), some (vI a3), some (vI a4)]) (st2 := [vR 7 0 0]) (m1 := m) rfl ?_
    refine re_if1 (c := v_X5_isMode m a3 = 0) (a := (2 : Int32)) (b := (if v_X5_within m a4 0 2 = 0 then (2 : Int32) else (0 : Int32))) (fun x => (35, [some (vR 7 0 0), some (vI a1), some (vI a2), some (vI a3), some (vI a4)], [vI x, vR 7 0 0], m)) (fun h2 v9 m9 K2 => ?_) (fun h2 v9 m9 K2 => ?_) _ _ K1
    · show An MX5_ifAsked 34 [some (vR 7 0 0), some (vI a1), some (vI a2), some (vI a3), some (vI a4)] [vR 7 0 0] m v9 m9
      refine an_b 1 (pc2 := 35) (L2 := [some (vR 7 0 0), some (vI a1), some (vI a2), some (vI a3), some (vI a4)]) (st2 := [vI (2 : Int32), vR 7 0 0]) (m1 := m) rfl ?_
      exact K2
    · show An MX5_ifAsked 20 [some (vR 7 0 0), some (vI a1), some (vI a2), some (vI a3), some (vI a4)] [vR 7 0 0] m v9 m9
      refine an_b 3 (pc2 := 24) (L2 := [some (vR 7 0 0), some (vI a1), some (vI a2), some (vI a3), some (vI a4)]) (st2 := [vI 2, vI 0, vI a4, vR 7 0 0]) (m1 := m) rfl ?_
      refine an_call (r_X5_within m a4 0 2) rfl rfl rfl rfl ?_
      refine an_b 1 (pc2 := if v_X5_within m a4 0 2 = 0 then 34 else 30) (L2 := [some (vR 7 0 0), some (vI a1), some (vI a2), some (vI a3), some (vI a4)]) (st2 := [vR 7 0 0]) (m1 := m) rfl ?_
      refine re_if1 (c := v_X5_within m a4 0 2 = 0) (a := (2 : Int32)) (b := (0 : Int32)) (fun x => (35, [some (vR 7 0 0), some (vI a1), some (vI a2), some (vI a3), some (vI a4)], [vI x, vR 7 0 0], m)) (fun h3 v9 m9 K3 => ?_) (fun h3 v9 m9 K3 => ?_) _ _ K2
      · show An MX5_ifAsked 34 [some (vR 7 0 0), some (vI a1), some (vI a2), some (vI a3), some (vI a4)] [vR 7 0 0] m v9 m9
        refine an_b 1 (pc2 := 35) (L2 := [some (vR 7 0 0), some (vI a1), some (vI a2), some (vI a3), some (vI a4)]) (st2 := [vI (2 : Int32), vR 7 0 0]) (m1 := m) rfl ?_
        exact K3
      · show An MX5_ifAsked 30 [some (vR 7 0 0), some (vI a1), some (vI a2), some (vI a3), some (vI a4)] [vR 7 0 0] m v9 m9
        refine an_b 2 (pc2 := 35) (L2 := [some (vR 7 0 0), some (vI a1), some (vI a2), some (vI a3), some (vI a4)]) (st2 := [vI (0 : Int32), vR 7 0 0]) (m1 := m) rfl ?_
        exact K3
  · show An MX5_ifAsked 9 [some (vR 7 0 0), some (vI a1), some (vI a2), some (vI a3), some (vI a4)] [vR 7 0 0] m v9 m9
    refine an_b 2 (pc2 := 35) (L2 := [some (vR 7 0 0), some (vI a1), some (vI a2), some (vI a3), some (vI a4)]) (st2 := [vI (1 : Int32), vR 7 0 0]) (m1 := m) rfl ?_
    exact K1
def cd_release (m : PM) (h : Nat) (r : Nat) : Int32 := (if ¬ v_X5_areThere m (nI h) (nI r) = 0 then (if v_X5_canRelease m h r = 0 then (2 : Int32) else (0 : Int32)) else (1 : Int32))
theorem k_release (m : PM) (h : Nat) (r : Nat) (hh : h < 8) (hr : r < 12) (hQ : QL m) : Re MX5_release (0, [some (vR 7 0 0), some (vI (nI h)), some (vI (nI r))], [], m) (27, [some (vR 7 0 0), some (vI (nI h)), some (vI (nI r))], [vI (cd_release m h r), vR 7 0 0], m) := by
  intro v9 m9 K0
  unfold cd_release at K0
  show An MX5_release 0 [some (vR 7 0 0), some (vI (nI h)), some (vI (nI r))] [] m v9 m9
  refine an_b 3 (pc2 := 3) (L2 := [some (vR 7 0 0), some (vI (nI h)), some (vI (nI r))]) (st2 := [vI (nI r), vI (nI h), vR 7 0 0]) (m1 := m) rfl ?_
  refine an_call (r_X5_areThere m (nI h) (nI r)) rfl rfl rfl rfl ?_
  refine an_b 1 (pc2 := if ¬ v_X5_areThere m (nI h) (nI r) = 0 then 13 else 9) (L2 := [some (vR 7 0 0), some (vI (nI h)), some (vI (nI r))]) (st2 := [vR 7 0 0]) (m1 := m) rfl ?_
  refine re_if1 (c := ¬ v_X5_areThere m (nI h) (nI r) = 0) (a := (if v_X5_canRelease m h r = 0 then (2 : Int32) else (0 : Int32))) (b := (1 : Int32)) (fun x => (27, [some (vR 7 0 0), some (vI (nI h)), some (vI (nI r))], [vI x, vR 7 0 0], m)) (fun h1 v9 m9 K1 => ?_) (fun h1 v9 m9 K1 => ?_) _ _ K0
  · show An MX5_release 13 [some (vR 7 0 0), some (vI (nI h)), some (vI (nI r))] [vR 7 0 0] m v9 m9
    refine an_b 3 (pc2 := 16) (L2 := [some (vR 7 0 0), some (vI (nI h)), some (vI (nI r))]) (st2 := [vI (nI r), vI (nI h), vR 7 0 0, vR 7 0 0]) (m1 := m) rfl ?_
    refine an_call (r_X5_canRelease m h r hh hr hQ) rfl rfl rfl rfl ?_
    refine an_b 1 (pc2 := if v_X5_canRelease m h r = 0 then 26 else 22) (L2 := [some (vR 7 0 0), some (vI (nI h)), some (vI (nI r))]) (st2 := [vR 7 0 0]) (m1 := m) rfl ?_
    refine re_if1 (c := v_X5_canRelease m h r = 0) (a := (2 : Int32)) (b := (0 : Int32)) (fun x => (27, [some (vR 7 0 0), some (vI (nI h)), some (vI (nI r))], [vI x, vR 7 0 0], m)) (fun h2 v9 m9 K2 => ?_) (fun h2 v9 m9 K2 => ?_) _ _ K1
    · show An MX5_release 26 [some (vR 7 0 0), some (vI (nI h)), some (vI (nI r))] [vR 7 0 0] m v9 m9
      refine an_b 1 (pc2 := 27) (L2 := [some (vR 7 0 0), some (vI (nI h)), some (vI (nI r))]) (st2 := [vI (2 : Int32), vR 7 0 0]) (m1 := m) rfl ?_
      exact K2
    · show An MX5_release 22 [some (vR 7 0 0), some (vI (nI h)), some (vI (nI r))] [vR 7 0 0] m v9 m9
      refine an_b 2 (pc2 := 27) (L2 := [some (vR 7 0 0), some (vI (nI h)), some (vI (nI r))]) (st2 := [vI (0 : Int32), vR 7 0 0]) (m1 := m) rfl ?_
      exact K2
  · show An MX5_release 9 [some (vR 7 0 0), some (vI (nI h)), some (vI (nI r))] [vR 7 0 0] m v9 m9
    refine an_b 2 (pc2 := 27) (L2 := [some (vR 7 0 0), some (vI (nI h)), some (vI (nI r))]) (st2 := [vI (1 : Int32), vR 7 0 0]) (m1 := m) rfl ?_
    exact K1
def cd_handOn (m : PM) (h : Nat) (r : Nat) (a3 : Int32) : Int32 := (if v_X5_areThere m (nI h) (nI r) = 0 then (1 : Int32) else (if ¬ v_X5_isHand m a3 = 0 then (if v_X5_canHandOn m h r a3 = 0 then (2 : Int32) else (0 : Int32)) else (1 : Int32)))
theorem k_handOn (m : PM) (h : Nat) (r : Nat) (a3 : Int32) (hh : h < 8) (hr : r < 12) (hQ : QL m) : Re MX5_handOn (0, [some (vR 7 0 0), some (vI (nI h)), some (vI (nI r)), some (vI a3), none, none], [], m) (35, [some (vR 7 0 0), some (vI (nI h)), some (vI (nI r)), some (vI a3), none, none], [vI (cd_handOn m h r a3), vR 7 0 0], m) := by
  intro v9 m9 K0
  unfold cd_handOn at K0
  show An MX5_handOn 0 [some (vR 7 0 0), some (vI (nI h)), some (vI (nI r)), some (vI a3), none, none] [] m v9 m9
  refine an_b 3 (pc2 := 3) (L2 := [some (vR 7 0 0), some (vI (nI h)), some (vI (nI r)), some (vI a3), none, none]) (st2 := [vI (nI r), vI (nI h), vR 7 0 0]) (m1 := m) rfl ?_
  refine an_call (r_X5_areThere m (nI h) (nI r)) rfl rfl rfl rfl ?_
  refine an_b 1 (pc2 := if v_X5_areThere m (nI h) (nI r) = 0 then 16 else 9) (L2 := [some (vR 7 0 0), some (vI (nI h)), some (vI (nI r)), some (vI a3), none, none]) (st2 := [vR 7 0 0]) (m1 := m) rfl ?_
  refine re_if1 (c := v_X5_areThere m (nI h) (nI r) = 0) (a := (1 : Int32)) (b := (if ¬ v_X5_isHand m a3 = 0 then (if v_X5_canHandOn m h r a3 = 0 then (2 : Int32) else (0 : Int32)) else (1 : Int32))) (fun x => (35, [some (vR 7 0 0), some (vI (nI h)), some (vI (nI r)), some (vI a3), none, none], [vI x, vR 7 0 0], m)) (fun h1 v9 m9 K1 => ?_) (fun h1 v9 m9 K1 => ?_) _ _ K0
  · show An MX5_handOn 16 [some (vR 7 0 0), some (vI (nI h)), some (vI (nI r)), some (vI a3), none, none] [vR 7 0 0] m v9 m9
    refine an_b 2 (pc2 := 35) (L2 := [some (vR 7 0 0), some (vI (nI h)), some (vI (nI r)), some (vI a3), none, none]) (st2 := [vI (1 : Int32), vR 7 0 0]) (m1 := m) rfl ?_
    exact K1
  · show An MX5_handOn 9 [some (vR 7 0 0), some (vI (nI h)), some (vI (nI r)), some (vI a3), none, none] [vR 7 0 0] m v9 m9
    refine an_b 1 (pc2 := 10) (L2 := [some (vR 7 0 0), some (vI (nI h)), some (vI (nI r)), some (vI a3), none, none]) (st2 := [vI a3, vR 7 0 0]) (m1 := m) rfl ?_
    refine an_call (r_X5_isHand m a3) rfl rfl rfl rfl ?_
    refine an_b 1 (pc2 := if ¬ v_X5_isHand m a3 = 0 then 20 else 16) (L2 := [some (vR 7 0 0), some (vI (nI h)), some (vI (nI r)), some (vI a3), none, none]) (st2 := [vR 7 0 0]) (m1 := m) rfl ?_
    refine re_if1 (c := ¬ v_X5_isHand m a3 = 0) (a := (if v_X5_canHandOn m h r a3 = 0 then (2 : Int32) else (0 : Int32))) (b := (1 : Int32)) (fun x => (35, [some (vR 7 0 0), some (vI (nI h)), some (vI (nI r)), some (vI a3), none, none], [vI x, vR 7 0 0], m)) (fun h2 v9 m9 K2 => ?_) (fun h2 v9 m9 K2 => ?_) _ _ K1
    · show An MX5_handOn 20 [some (vR 7 0 0), some (vI (nI h)), some (vI (nI r)), some (vI a3), none, none] [vR 7 0 0] m v9 m9
      refine an_b 4 (pc2 := 24) (L2 := [some (vR 7 0 0), some (vI (nI h)), some (vI (nI r)), some (vI a3), none, none]) (st2 := [vI a3, vI (nI r), vI (nI h), vR 7 0 0, vR 7 0 0]) (m1 := m) rfl ?_
      refine an_call (r_X5_canHandOn m h r a3 hh hr hQ) rfl rfl rfl rfl ?_
      refine an_b 1 (pc2 := if v_X5_canHandOn m h r a3 = 0 then 34 else 30) (L2 := [some (vR 7 0 0), some (vI (nI h)), some (vI (nI r)), some (vI a3), none, none]) (st2 := [vR 7 0 0]) (m1 := m) rfl ?_
      refine re_if1 (c := v_X5_canHandOn m h r a3 = 0) (a := (2 : Int32)) (b := (0 : Int32)) (fun x => (35, [some (vR 7 0 0), some (vI (nI h)), some (vI (nI r)), some (vI a3), none, none], [vI x, vR 7 0 0], m)) (fun h3 v9 m9 K3 => ?_) (fun h3 v9 m9 K3 => ?_) _ _ K2
      · show An MX5_handOn 34 [some (vR 7 0 0), some (vI (nI h)), some (vI (nI r)), some (vI a3), none, none] [vR 7 0 0] m v9 m9
        refine an_b 1 (pc2 := 35) (L2 := [some (vR 7 0 0), some (vI (nI h)), some (vI (nI r)), some (vI a3), none, none]) (st2 := [vI (2 : Int32), vR 7 0 0]) (m1 := m) rfl ?_
        exact K3
      · show An MX5_handOn 30 [some (vR 7 0 0), some (vI (nI h)), some (vI (nI r)), some (vI a3), none, none] [vR 7 0 0] m v9 m9
        refine an_b 2 (pc2 := 35) (L2 := [some (vR 7 0 0), some (vI (nI h)), some (vI (nI r)), some (vI a3), none, none]) (st2 := [vI (0 : Int32), vR 7 0 0]) (m1 := m) rfl ?_
        exact K3
    · show An MX5_handOn 16 [some (vR 7 0 0), some (vI (nI h)), some (vI (nI r)), some (vI a3), none, none] [vR 7 0 0] m v9 m9
      refine an_b 2 (pc2 := 35) (L2 := [some (vR 7 0 0), some (vI (nI h)), some (vI (nI r)), some (vI a3), none, none]) (st2 := [vI (1 : Int32), vR 7 0 0]) (m1 := m) rfl ?_
      exact K2
def cd_cool (m : PM) (r : Nat) : Int32 := (if ¬ v_X5_isRow m (nI r) = 0 then (if ¬ v_X5_holders m r = 0 then (2 : Int32) else (0 : Int32)) else (1 : Int32))
theorem k_cool (m : PM) (r : Nat) (hr : r < 12) : Re MX5_cool (0, [some (vR 7 0 0), some (vI (nI r)), none], [], m) (25, [some (vR 7 0 0), some (vI (nI r)), none], [vI (cd_cool m r), vR 7 0 0], m) := by
  intro v9 m9 K0
  unfold cd_cool at K0
  show An MX5_cool 0 [some (vR 7 0 0), some (vI (nI r)), none] [] m v9 m9
  refine an_b 2 (pc2 := 2) (L2 := [some (vR 7 0 0), some (vI (nI r)), none]) (st2 := [vI (nI r), vR 7 0 0]) (m1 := m) rfl ?_
  refine an_call (r_X5_isRow m (nI r)) rfl rfl rfl rfl ?_
  refine an_b 1 (pc2 := if ¬ v_X5_isRow m (nI r) = 0 then 12 else 8) (L2 := [some (vR 7 0 0), some (vI (nI r)), none]) (st2 := [vR 7 0 0]) (m1 := m) rfl ?_
  refine re_if1 (c := ¬ v_X5_isRow m (nI r) = 0) (a := (if ¬ v_X5_holders m r = 0 then (2 : Int32) else (0 : Int32))) (b := (1 : Int32)) (fun x => (25, [some (vR 7 0 0), some (vI (nI r)), none], [vI x, vR 7 0 0], m)) (fun h1 v9 m9 K1 => ?_) (fun h1 v9 m9 K1 => ?_) _ _ K0
  · show An MX5_cool 12 [some (vR 7 0 0), some (vI (nI r)), none] [vR 7 0 0] m v9 m9
    refine an_b 2 (pc2 := 14) (L2 := [some (vR 7 0 0), some (vI (nI r)), none]) (st2 := [vI (nI r), vR 7 0 0, vR 7 0 0]) (m1 := m) rfl ?_
    refine an_call (r_X5_holders m r hr) rfl rfl rfl rfl ?_
    refine an_b 1 (pc2 := if ¬ v_X5_holders m r = 0 then 24 else 20) (L2 := [some (vR 7 0 0), some (vI (nI r)), none]) (st2 := [vR 7 0 0]) (m1 := m) rfl ?_
    refine re_if1 (c := ¬ v_X5_holders m r = 0) (a := (2 : Int32)) (b := (0 : Int32)) (fun x => (25, [some (vR 7 0 0), some (vI (nI r)), none], [vI x, vR 7 0 0], m)) (fun h2 v9 m9 K2 => ?_) (fun h2 v9 m9 K2 => ?_) _ _ K1
    · show An MX5_cool 24 [some (vR 7 0 0), some (vI (nI r)), none] [vR 7 0 0] m v9 m9
      refine an_b 1 (pc2 := 25) (L2 := [some (vR 7 0 0), some (vI (nI r)), none]) (st2 := [vI (2 : Int32), vR 7 0 0]) (m1 := m) rfl ?_
      exact K2
    · show An MX5_cool 20 [some (vR 7 0 0), some (vI (nI r)), none] [vR 7 0 0] m v9 m9
      refine an_b 2 (pc2 := 25) (L2 := [some (vR 7 0 0), some (vI (nI r)), none]) (st2 := [vI (0 : Int32), vR 7 0 0]) (m1 := m) rfl ?_
      exact K2
  · show An MX5_cool 8 [some (vR 7 0 0), some (vI (nI r)), none] [vR 7 0 0] m v9 m9
    refine an_b 2 (pc2 := 25) (L2 := [some (vR 7 0 0), some (vI (nI r)), none]) (st2 := [vI (1 : Int32), vR 7 0 0]) (m1 := m) rfl ?_
    exact K1
