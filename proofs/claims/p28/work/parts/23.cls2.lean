def o_X4_ask (m : PM) (a1 : Int32) (a2 : Int32) (a3 : Int32) : OC := (if (v_X4_isHand m a1) = 0 then (.inr 40) else (if ¬ (v_X4_isRow m a2) = 0 then (if ¬ (v_X4_isMode m a3) = 0 then (if (v_X2_isWaiting m 0 a1) = 0 then (.inl (some (vI (v_X2_takeAsking (w_X0_save m 0) 0 a1 a2 a3)))) else (.inr 58)) else (.inr 50)) else (.inr 40)))
def w_X4_ask (m : PM) (a1 : Int32) (a2 : Int32) (a3 : Int32) : PM := (if (v_X4_isHand m a1) = 0 then m else (if ¬ (v_X4_isRow m a2) = 0 then (if ¬ (v_X4_isMode m a3) = 0 then (if (v_X2_isWaiting m 0 a1) = 0 then (w_X2_takeAsking (w_X0_save m 0) 0 a1 a2 a3) else m) else m) else m))
set_option maxRecDepth 100000 in
theorem t_X4_ask (m : PM) (a1 : Int32) (a2 : Int32) (a3 : Int32) : An MX4_ask 0 [some (vR 3 0 0), some (vI a1), some (vI a2), some (vI a3)] [] m (o_X4_ask m a1 a2 a3) (w_X4_ask m a1 a2 a3) := by
  unfold o_X4_ask w_X4_ask
  refine an_b 1 (pc2 := 1) (L2 := [some (vR 3 0 0), some (vI a1), some (vI a2), some (vI a3)]) (st2 := [vI a1]) (m1 := m) rfl ?_
  refine an_call (r_X4_isHand m a1) rfl rfl rfl rfl ?_
  refine an_b 1 (pc2 := if (v_X4_isHand m a1) = 0 then 14 else 7) (L2 := [some (vR 3 0 0), some (vI a1), some (vI a2), some (vI a3)]) (st2 := []) (m1 := m) rfl ?_
  refine an_ifo (c := (v_X4_isHand m a1) = 0) (fun h1 => ?_) (fun h1 => ?_)
  · exact an_thr rfl rfl rfl rfl rfl
  · refine an_b 1 (pc2 := 8) (L2 := [some (vR 3 0 0), some (vI a1), some (vI a2), some (vI a3)]) (st2 := [vI a2]) (m1 := m) rfl ?_
    refine an_call (r_X4_isRow m a2) rfl rfl rfl rfl ?_
    refine an_b 1 (pc2 := if ¬ (v_X4_isRow m a2) = 0 then 24 else 14) (L2 := [some (vR 3 0 0), some (vI a1), some (vI a2), some (vI a3)]) (st2 := []) (m1 := m) rfl ?_
    refine an_ifo (c := ¬ (v_X4_isRow m a2) = 0) (fun h2 => ?_) (fun h2 => ?_)
    · refine an_b 1 (pc2 := 25) (L2 := [some (vR 3 0 0), some (vI a1), some (vI a2), some (vI a3)]) (st2 := [vI a3]) (m1 := m) rfl ?_
      refine an_call (r_X4_isMode m a3) rfl rfl rfl rfl ?_
      refine an_b 1 (pc2 := if ¬ (v_X4_isMode m a3) = 0 then 41 else 31) (L2 := [some (vR 3 0 0), some (vI a1), some (vI a2), some (vI a3)]) (st2 := []) (m1 := m) rfl ?_
      refine an_ifo (c := ¬ (v_X4_isMode m a3) = 0) (fun h3 => ?_) (fun h3 => ?_)
      · refine an_b 3 (pc2 := 46) (L2 := [some (vR 3 0 0), some (vI a1), some (vI a2), some (vI a3)]) (st2 := [vI a1, vR 0 0 0]) (m1 := m) rfl ?_
        refine an_call (r_X2_isWaiting m 0 a1) rfl rfl rfl rfl ?_
        refine an_b 1 (pc2 := if (v_X2_isWaiting m 0 a1) = 0 then 62 else 52) (L2 := [some (vR 3 0 0), some (vI a1), some (vI a2), some (vI a3)]) (st2 := []) (m1 := m) rfl ?_
        refine an_ifo (c := (v_X2_isWaiting m 0 a1) = 0) (fun h4 => ?_) (fun h4 => ?_)
        · refine an_b 4 (pc2 := 70) (L2 := [some (vR 3 0 0), some (vI a1), some (vI a2), some (vI a3)]) (st2 := [vR 0 0 0, vR 4 0 0]) (m1 := m) rfl ?_
          refine an_call (r_X0_save m 0) rfl rfl rfl rfl ?_
          refine an_b 5 (pc2 := 80) (L2 := [some (vR 3 0 0), some (vI a1), some (vI a2), some (vI a3)]) (st2 := [vI a3, vI a2, vI a1, vR 0 0 0]) (m1 := (w_X0_save m 0)) rfl ?_
          refine an_call (r_X2_takeAsking (w_X0_save m 0) 0 a1 a2 a3) rfl rfl rfl rfl ?_
          exact an_ret rfl rfl rfl rfl rfl
        · exact an_thr rfl rfl rfl rfl rfl
      · exact an_thr rfl rfl rfl rfl rfl
    · exact an_thr rfl rfl rfl rfl rfl
def o_X4_release (m : PM) (a1 : Int32) (a2 : Int32) : OC := (if (v_X4_isHand m a1) = 0 then (.inr 40) else (if ¬ (v_X4_isRow m a2) = 0 then (if ¬ (v_X2_canLetGo m 0 a1 a2) = 0 then (.inl (some (vI (v_X2_letGo (w_X0_save m 0) 0 a1 a2)))) else (.inr 58)) else (.inr 40)))
def w_X4_release (m : PM) (a1 : Int32) (a2 : Int32) : PM := (if (v_X4_isHand m a1) = 0 then m else (if ¬ (v_X4_isRow m a2) = 0 then (if ¬ (v_X2_canLetGo m 0 a1 a2) = 0 then (w_X2_letGo (w_X0_save m 0) 0 a1 a2) else m) else m))
set_option maxRecDepth 100000 in
theorem t_X4_release (m : PM) (a1 : Int32) (a2 : Int32) : An MX4_release 0 [some (vR 3 0 0), some (vI a1), some (vI a2)] [] m (o_X4_release m a1 a2) (w_X4_release m a1 a2) := by
  unfold o_X4_release w_X4_release
  refine an_b 1 (pc2 := 1) (L2 := [some (vR 3 0 0), some (vI a1), some (vI a2)]) (st2 := [vI a1]) (m1 := m) rfl ?_
  refine an_call (r_X4_isHand m a1) rfl rfl rfl rfl ?_
  refine an_b 1 (pc2 := if (v_X4_isHand m a1) = 0 then 14 else 7) (L2 := [some (vR 3 0 0), some (vI a1), some (vI a2)]) (st2 := []) (m1 := m) rfl ?_
  refine an_ifo (c := (v_X4_isHand m a1) = 0) (fun h1 => ?_) (fun h1 => ?_)
  · exact an_thr rfl rfl rfl rfl rfl
  · refine an_b 1 (pc2 := 8) (L2 := [some (vR 3 0 0), some (vI a1), some (vI a2)]) (st2 := [vI a2]) (m1 := m) rfl ?_
    refine an_call (r_X4_isRow m a2) rfl rfl rfl rfl ?_
    refine an_b 1 (pc2 := if ¬ (v_X4_isRow m a2) = 0 then 24 else 14) (L2 := [some (vR 3 0 0), some (vI a1), some (vI a2)]) (st2 := []) (m1 := m) rfl ?_
    refine an_ifo (c := ¬ (v_X4_isRow m a2) = 0) (fun h2 => ?_) (fun h2 => ?_)
    · refine an_b 4 (pc2 := 30) (L2 := [some (vR 3 0 0), some (vI a1), some (vI a2)]) (st2 := [vI a2, vI a1, vR 0 0 0]) (m1 := m) rfl ?_
      refine an_call (r_X2_canLetGo m 0 a1 a2) rfl rfl rfl rfl ?_
      refine an_b 1 (pc2 := if ¬ (v_X2_canLetGo m 0 a1 a2) = 0 then 46 else 36) (L2 := [some (vR 3 0 0), some (vI a1), some (vI a2)]) (st2 := []) (m1 := m) rfl ?_
      refine an_ifo (c := ¬ (v_X2_canLetGo m 0 a1 a2) = 0) (fun h3 => ?_) (fun h3 => ?_)
      · refine an_b 4 (pc2 := 54) (L2 := [some (vR 3 0 0), some (vI a1), some (vI a2)]) (st2 := [vR 0 0 0, vR 4 0 0]) (m1 := m) rfl ?_
        refine an_call (r_X0_save m 0) rfl rfl rfl rfl ?_
        refine an_b 4 (pc2 := 63) (L2 := [some (vR 3 0 0), some (vI a1), some (vI a2)]) (st2 := [vI a2, vI a1, vR 0 0 0]) (m1 := (w_X0_save m 0)) rfl ?_
        refine an_call (r_X2_letGo (w_X0_save m 0) 0 a1 a2) rfl rfl rfl rfl ?_
        exact an_ret rfl rfl rfl rfl rfl
      · exact an_thr rfl rfl rfl rfl rfl
    · exact an_thr rfl rfl rfl rfl rfl
def o_X4_giveUp (m : PM) (a1 : Int32) : OC := (if ¬ (v_X4_isHand m a1) = 0 then (if ¬ (v_X2_isWaiting m 0 a1) = 0 then (.inl (some (vI (v_X2_stopWaiting (w_X0_save m 0) 0 a1)))) else (.inr 58)) else (.inr 40))
def w_X4_giveUp (m : PM) (a1 : Int32) : PM := (if ¬ (v_X4_isHand m a1) = 0 then (if ¬ (v_X2_isWaiting m 0 a1) = 0 then (w_X2_stopWaiting (w_X0_save m 0) 0 a1) else m) else m)
set_option maxRecDepth 100000 in
theorem t_X4_giveUp (m : PM) (a1 : Int32) : An MX4_giveUp 0 [some (vR 3 0 0), some (vI a1)] [] m (o_X4_giveUp m a1) (w_X4_giveUp m a1) := by
  unfold o_X4_giveUp w_X4_giveUp
  refine an_b 1 (pc2 := 1) (L2 := [some (vR 3 0 0), some (vI a1)]) (st2 := [vI a1]) (m1 := m) rfl ?_
  refine an_call (r_X4_isHand m a1) rfl rfl rfl rfl ?_
  refine an_b 1 (pc2 := if ¬ (v_X4_isHand m a1) = 0 then 17 else 7) (L2 := [some (vR 3 0 0), some (vI a1)]) (st2 := []) (m1 := m) rfl ?_
  refine an_ifo (c := ¬ (v_X4_isHand m a1) = 0) (fun h1 => ?_) (fun h1 => ?_)
  · refine an_b 3 (pc2 := 22) (L2 := [some (vR 3 0 0), some (vI a1)]) (st2 := [vI a1, vR 0 0 0]) (m1 := m) rfl ?_
    refine an_call (r_X2_isWaiting m 0 a1) rfl rfl rfl rfl ?_
    refine an_b 1 (pc2 := if ¬ (v_X2_isWaiting m 0 a1) = 0 then 38 else 28) (L2 := [some (vR 3 0 0), some (vI a1)]) (st2 := []) (m1 := m) rfl ?_
    refine an_ifo (c := ¬ (v_X2_isWaiting m 0 a1) = 0) (fun h2 => ?_) (fun h2 => ?_)
    · refine an_b 4 (pc2 := 46) (L2 := [some (vR 3 0 0), some (vI a1)]) (st2 := [vR 0 0 0, vR 4 0 0]) (m1 := m) rfl ?_
      refine an_call (r_X0_save m 0) rfl rfl rfl rfl ?_
      refine an_b 3 (pc2 := 54) (L2 := [some (vR 3 0 0), some (vI a1)]) (st2 := [vI a1, vR 0 0 0]) (m1 := (w_X0_save m 0)) rfl ?_
      refine an_call (r_X2_stopWaiting (w_X0_save m 0) 0 a1) rfl rfl rfl rfl ?_
      exact an_ret rfl rfl rfl rfl rfl
    · exact an_thr rfl rfl rfl rfl rfl
  · exact an_thr rfl rfl rfl rfl rfl
def o_X4_handOn (m : PM) (a1 : Int32) (a2 : Int32) (a3 : Int32) : OC := (if (v_X4_isHand m a1) = 0 then (.inr 40) else (if (v_X4_isRow m a2) = 0 then (.inr 40) else (if ¬ (v_X4_isHand m a3) = 0 then (if ¬ (v_X2_canPassOver m 0 a1 a2 a3) = 0 then (.inl (some (vI (v_X2_passOver (w_X0_save m 0) 0 a1 a2 a3)))) else (.inr 58)) else (.inr 40))))
def w_X4_handOn (m : PM) (a1 : Int32) (a2 : Int32) (a3 : Int32) : PM := (if (v_X4_isHand m a1) = 0 then m else (if (v_X4_isRow m a2) = 0 then m else (if ¬ (v_X4_isHand m a3) = 0 then (if ¬ (v_X2_canPassOver m 0 a1 a2 a3) = 0 then (w_X2_passOver (w_X0_save m 0) 0 a1 a2 a3) else m) else m)))
set_option maxRecDepth 100000 in
theorem t_X4_handOn (m : PM) (a1 : Int32) (a2 : Int32) (a3 : Int32) : An MX4_handOn 0 [some (vR 3 0 0), some (vI a1), some (vI a2), some (vI a3)] [] m (o_X4_handOn m a1 a2 a3) (w_X4_handOn m a1 a2 a3) := by
  unfold o_X4_handOn w_X4_handOn
  refine an_b 1 (pc2 := 1) (L2 := [some (vR 3 0 0), some (vI a1), some (vI a2), some (vI a3)]) (st2 := [vI a1]) (m1 := m) rfl ?_
  refine an_call (r_X4_isHand m a1) rfl rfl rfl rfl ?_
  refine an_b 1 (pc2 := if (v_X4_isHand m a1) = 0 then 21 else 7) (L2 := [some (vR 3 0 0), some (vI a1), some (vI a2), some (vI a3)]) (st2 := []) (m1 := m) rfl ?_
  refine an_ifo (c := (v_X4_isHand m a1) = 0) (fun h1 => ?_) (fun h1 => ?_)
  · exact an_thr rfl rfl rfl rfl rfl
  · refine an_b 1 (pc2 := 8) (L2 := [some (vR 3 0 0), some (vI a1), some (vI a2), some (vI a3)]) (st2 := [vI a2]) (m1 := m) rfl ?_
    refine an_call (r_X4_isRow m a2) rfl rfl rfl rfl ?_
    refine an_b 1 (pc2 := if (v_X4_isRow m a2) = 0 then 21 else 14) (L2 := [some (vR 3 0 0), some (vI a1), some (vI a2), some (vI a3)]) (st2 := []) (m1 := m) rfl ?_
    refine an_ifo (c := (v_X4_isRow m a2) = 0) (fun h2 => ?_) (fun h2 => ?_)
    · exact an_thr rfl rfl rfl rfl rfl
    · refine an_b 1 (pc2 := 15) (L2 := [some (vR 3 0 0), some (vI a1), some (vI a2), some (vI a3)]) (st2 := [vI a3]) (m1 := m) rfl ?_
      refine an_call (r_X4_isHand m a3) rfl rfl rfl rfl ?_
      refine an_b 1 (pc2 := if ¬ (v_X4_isHand m a3) = 0 then 31 else 21) (L2 := [some (vR 3 0 0), some (vI a1), some (vI a2), some (vI a3)]) (st2 := []) (m1 := m) rfl ?_
      refine an_ifo (c := ¬ (v_X4_isHand m a3) = 0) (fun h3 => ?_) (fun h3 => ?_)
      · refine an_b 5 (pc2 := 38) (L2 := [some (vR 3 0 0), some (vI a1), some (vI a2), some (vI a3)]) (st2 := [vI a3, vI a2, vI a1, vR 0 0 0]) (m1 := m) rfl ?_
        refine an_call (r_X2_canPassOver m 0 a1 a2 a3) rfl rfl rfl rfl ?_
        refine an_b 1 (pc2 := if ¬ (v_X2_canPassOver m 0 a1 a2 a3) = 0 then 54 else 44) (L2 := [some (vR 3 0 0), some (vI a1), some (vI a2), some (vI a3)]) (st2 := []) (m1 := m) rfl ?_
        refine an_ifo (c := ¬ (v_X2_canPassOver m 0 a1 a2 a3) = 0) (fun h4 => ?_) (fun h4 => ?_)
        · refine an_b 4 (pc2 := 62) (L2 := [some (vR 3 0 0), some (vI a1), some (vI a2), some (vI a3)]) (st2 := [vR 0 0 0, vR 4 0 0]) (m1 := m) rfl ?_
          refine an_call (r_X0_save m 0) rfl rfl rfl rfl ?_
          refine an_b 5 (pc2 := 72) (L2 := [some (vR 3 0 0), some (vI a1), some (vI a2), some (vI a3)]) (st2 := [vI a3, vI a2, vI a1, vR 0 0 0]) (m1 := (w_X0_save m 0)) rfl ?_
          refine an_call (r_X2_passOver (w_X0_save m 0) 0 a1 a2 a3) rfl rfl rfl rfl ?_
          exact an_ret rfl rfl rfl rfl rfl
        · exact an_thr rfl rfl rfl rfl rfl
      · exact an_thr rfl rfl rfl rfl rfl
def b_X4_pass_1 (m : PM) (a1 : Int32)  (j1 : Nat) (s1 : Int32 × PM) : Int32 × PM := ((s1.1 + (v_X2_tick s1.2 0)), (w_X2_tick s1.2 0))
def o_X4_pass (m : PM) (a1 : Int32) : OC := (if a1 < (1 : Int32) then (.inr 50) else (if a1 ≤ (100 : Int32) then (.inl (some (vI ((lp (b_X4_pass_1 m a1) (a1).toNatClampNeg 0 ((0 : Int32), (w_X0_save m 0))).1)))) else (.inr 50)))
def w_X4_pass (m : PM) (a1 : Int32) : PM := (if a1 < (1 : Int32) then m else (if a1 ≤ (100 : Int32) then (lp (b_X4_pass_1 m a1) (a1).toNatClampNeg 0 ((0 : Int32), (w_X0_save m 0))).2 else m))
set_option maxRecDepth 100000 in
theorem t_X4_pass (m : PM) (a1 : Int32) : An MX4_pass 0 [some (vR 3 0 0), some (vI a1), none, none] [] m (o_X4_pass m a1) (w_X4_pass m a1) := by
  unfold o_X4_pass w_X4_pass
  refine an_b 3 (pc2 := if a1 < (1 : Int32) then 11 else 5) (L2 := [some (vR 3 0 0), some (vI a1), none, none]) (st2 := []) (m1 := m) rfl ?_
  refine an_ifo (c := a1 < (1 : Int32)) (fun h1 => ?_) (fun h1 => ?_)
  · exact an_thr rfl rfl rfl rfl rfl
  · refine an_b 3 (pc2 := if a1 ≤ (100 : Int32) then 21 else 11) (L2 := [some (vR 3 0 0), some (vI a1), none, none]) (st2 := []) (m1 := m) rfl ?_
    refine an_ifo (c := a1 ≤ (100 : Int32)) (fun h2 => ?_) (fun h2 => ?_)
    · refine an_b 4 (pc2 := 29) (L2 := [some (vR 3 0 0), some (vI a1), none, none]) (st2 := [vR 0 0 0, vR 4 0 0]) (m1 := m) rfl ?_
      refine an_call (r_X0_save m 0) rfl rfl rfl rfl ?_
      refine an_b 4 (pc2 := 36) (L2 := [some (vR 3 0 0), some (vI a1), some (vI (0 : Int32)), some (vI (0 : Int32))]) (st2 := []) (m1 := (w_X0_save m 0)) rfl ?_
      refine re_lp (σ := Int32 × PM) (b_X4_pass_1 m a1) (fun j1 s1 => (36, [some (vR 3 0 0), some (vI a1), some (vI s1.1), some (vI (nI j1))], [], s1.2)) (a1).toNatClampNeg (fun s1 => (57, [some (vR 3 0 0), some (vI a1), some (vI s1.1), none], [], s1.2)) (fun j1 s1 hj1 v9 m9 K1 => ?_) (fun s1 v9 m9 K1 => ?_) (a1).toNatClampNeg 0 ((0 : Int32), (w_X0_save m 0)) (Nat.add_zero _) _ _ ?_
      · show An MX4_pass 36 [some (vR 3 0 0), some (vI a1), some (vI s1.1), some (vI (nI j1))] [] s1.2 v9 m9
        refine an_b 3 (pc2 := if a1 ≤ (nI j1) then 57 else 41) (L2 := [some (vR 3 0 0), some (vI a1), some (vI s1.1), some (vI (nI j1))]) (st2 := []) (m1 := s1.2) rfl ?_
        refine an_f (bnd_lt hj1) ?_
        refine an_b 3 (pc2 := 46) (L2 := [some (vR 3 0 0), some (vI a1), some (vI s1.1), some (vI (nI j1))]) (st2 := [vR 0 0 0, vI s1.1]) (m1 := s1.2) rfl ?_
        refine an_call (r_X2_tick s1.2 0) rfl rfl rfl rfl ?_
        refine an_b 4 (pc2 := 36) (L2 := [some (vR 3 0 0), some (vI a1), some (vI (s1.1 + (v_X2_tick s1.2 0))), some (vI ((nI j1) + (1 : Int32)))]) (st2 := []) (m1 := (w_X2_tick s1.2 0)) rfl ?_
        refine an_cL (K := [some (vR 3 0 0), some (vI a1), some (vI (s1.1 + (v_X2_tick s1.2 0))), some (vI (nI (j1 + 1)))]) (by simp only [nI_1]) ?_
        exact K1
      · show An MX4_pass 36 [some (vR 3 0 0), some (vI a1), some (vI s1.1), some (vI (nI ((a1).toNatClampNeg)))] [] s1.2 v9 m9
        refine an_b 3 (pc2 := if a1 ≤ (nI ((a1).toNatClampNeg)) then 57 else 41) (L2 := [some (vR 3 0 0), some (vI a1), some (vI s1.1), some (vI (nI ((a1).toNatClampNeg)))]) (st2 := []) (m1 := s1.2) rfl ?_
        refine an_t (bnd_ge rfl) ?_
        refine an_weak (L := [some (vR 3 0 0), some (vI a1), some (vI s1.1), none]) (⟨rfl, rfl, rfl, trivial⟩) ?_
        exact K1
      show An MX4_pass 57 [some (vR 3 0 0), some (vI a1), some (vI ((lp (b_X4_pass_1 m a1) (a1).toNatClampNeg 0 ((0 : Int32), (w_X0_save m 0))).1)), none] [] (lp (b_X4_pass_1 m a1) (a1).toNatClampNeg 0 ((0 : Int32), (w_X0_save m 0))).2 _ _
      refine an_b 1 (pc2 := 58) (L2 := [some (vR 3 0 0), some (vI a1), some (vI ((lp (b_X4_pass_1 m a1) (a1).toNatClampNeg 0 ((0 : Int32), (w_X0_save m 0))).1)), none]) (st2 := [vI ((lp (b_X4_pass_1 m a1) (a1).toNatClampNeg 0 ((0 : Int32), (w_X0_save m 0))).1)]) (m1 := (lp (b_X4_pass_1 m a1) (a1).toNatClampNeg 0 ((0 : Int32), (w_X0_save m 0))).2) rfl ?_
      exact an_ret rfl rfl rfl rfl rfl
    · exact an_thr rfl rfl rfl rfl rfl
def o_X4_set (m : PM) (a1 : Int32) (a2 : Int32) : OC := (if ¬ (v_X4_isSetting m a1) = 0 then (if a2 < (v_X4_leastValue m a1) then (.inr 50) else (if a2 ≤ (v_X4_greatestValue m a1) then (.inl (some (vI (v_X1_at (w_X0_save m 0) 10 0 a1)))) else (.inr 50))) else (.inr 40))
def w_X4_set (m : PM) (a1 : Int32) (a2 : Int32) : PM := (if ¬ (v_X4_isSetting m a1) = 0 then (if a2 < (v_X4_leastValue m a1) then m else (if a2 ≤ (v_X4_greatestValue m a1) then (w_X1_put (w_X0_save m 0) 10 0 a1 a2) else m)) else m)
set_option maxRecDepth 100000 in
theorem t_X4_set (m : PM) (a1 : Int32) (a2 : Int32) : An MX4_set 0 [some (vR 3 0 0), some (vI a1), some (vI a2), none] [] m (o_X4_set m a1 a2) (w_X4_set m a1 a2) := by
  unfold o_X4_set w_X4_set
  refine an_b 1 (pc2 := 1) (L2 := [some (vR 3 0 0), some (vI a1), some (vI a2), none]) (st2 := [vI a1]) (m1 := m) rfl ?_
  refine an_call (r_X4_isSetting m a1) rfl rfl rfl rfl ?_
  refine an_b 1 (pc2 := if ¬ (v_X4_isSetting m a1) = 0 then 17 else 7) (L2 := [some (vR 3 0 0), some (vI a1), some (vI a2), none]) (st2 := []) (m1 := m) rfl ?_
  refine an_ifo (c := ¬ (v_X4_isSetting m a1) = 0) (fun h1 => ?_) (fun h1 => ?_)
  · refine an_b 2 (pc2 := 19) (L2 := [some (vR 3 0 0), some (vI a1), some (vI a2), none]) (st2 := [vI a1, vI a2]) (m1 := m) rfl ?_
    refine an_call (r_X4_leastValue m a1) rfl rfl rfl rfl ?_
    refine an_b 1 (pc2 := if a2 < (v_X4_leastValue m a1) then 33 else 25) (L2 := [some (vR 3 0 0), some (vI a1), some (vI a2), none]) (st2 := []) (m1 := m) rfl ?_
    refine an_ifo (c := a2 < (v_X4_leastValue m a1)) (fun h2 => ?_) (fun h2 => ?_)
    · exact an_thr rfl rfl rfl rfl rfl
    · refine an_b 2 (pc2 := 27) (L2 := [some (vR 3 0 0), some (vI a1), some (vI a2), none]) (st2 := [vI a1, vI a2]) (m1 := m) rfl ?_
      refine an_call (r_X4_greatestValue m a1) rfl rfl rfl rfl ?_
      refine an_b 1 (pc2 := if a2 ≤ (v_X4_greatestValue m a1) then 43 else 33) (L2 := [some (vR 3 0 0), some (vI a1), some (vI a2), none]) (st2 := []) (m1 := m) rfl ?_
      refine an_ifo (c := a2 ≤ (v_X4_greatestValue m a1)) (fun h3 => ?_) (fun h3 => ?_)
      · refine an_b 4 (pc2 := 51) (L2 := [some (vR 3 0 0), some (vI a1), some (vI a2), none]) (st2 := [vR 0 0 0, vR 4 0 0]) (m1 := m) rfl ?_
        refine an_call (r_X0_save m 0) rfl rfl rfl rfl ?_
        refine an_b 4 (pc2 := 62) (L2 := [some (vR 3 0 0), some (vI a1), some (vI a2), none]) (st2 := [vI a1, vR 1 10 0]) (m1 := (w_X0_save m 0)) rfl ?_
        refine an_call (r_X1_at (w_X0_save m 0) 10 0 a1) rfl rfl rfl rfl ?_
        refine an_b 6 (pc2 := 75) (L2 := [some (vR 3 0 0), some (vI a1), some (vI a2), some (vI (v_X1_at (w_X0_save m 0) 10 0 a1))]) (st2 := [vI a2, vI a1, vR 1 10 0]) (m1 := (w_X0_save m 0)) rfl ?_
        refine an_call (r_X1_put (w_X0_save m 0) 10 0 a1 a2) rfl rfl rfl rfl ?_
        refine an_b 1 (pc2 := 79) (L2 := [some (vR 3 0 0), some (vI a1), some (vI a2), some (vI (v_X1_at (w_X0_save m 0) 10 0 a1))]) (st2 := [vI (v_X1_at (w_X0_save m 0) 10 0 a1)]) (m1 := (w_X1_put (w_X0_save m 0) 10 0 a1 a2)) rfl ?_
        exact an_ret rfl rfl rfl rfl rfl
      · exact an_thr rfl rfl rfl rfl rfl
  · exact an_thr rfl rfl rfl rfl rfl
def o_X4_lock (m : PM) (a1 : Int32) (a2 : Int32) : OC := (if (v_X4_isHand m a1) = 0 then (.inr 40) else (if ¬ (v_X4_isRow m a2) = 0 then (.inl (some (vI (v_X1_at m 0 0 (v_X4_cell m a1 a2))))) else (.inr 40)))
set_option maxRecDepth 100000 in
theorem t_X4_lock (m : PM) (a1 : Int32) (a2 : Int32) : An MX4_lock 0 [some (vR 3 0 0), some (vI a1), some (vI a2)] [] m (o_X4_lock m a1 a2) m := by
  unfold o_X4_lock
  refine an_b 1 (pc2 := 1) (L2 := [some (vR 3 0 0), some (vI a1), some (vI a2)]) (st2 := [vI a1]) (m1 := m) rfl ?_
  refine an_call (r_X4_isHand m a1) rfl rfl rfl rfl ?_
  refine an_b 1 (pc2 := if (v_X4_isHand m a1) = 0 then 14 else 7) (L2 := [some (vR 3 0 0), some (vI a1), some (vI a2)]) (st2 := []) (m1 := m) rfl ?_
  refine an_ifp (c := (v_X4_isHand m a1) = 0) (fun h1 => ?_) (fun h1 => ?_)
  · exact an_thr rfl rfl rfl rfl rfl
  · refine an_b 1 (pc2 := 8) (L2 := [some (vR 3 0 0), some (vI a1), some (vI a2)]) (st2 := [vI a2]) (m1 := m) rfl ?_
    refine an_call (r_X4_isRow m a2) rfl rfl rfl rfl ?_
    refine an_b 1 (pc2 := if ¬ (v_X4_isRow m a2) = 0 then 24 else 14) (L2 := [some (vR 3 0 0), some (vI a1), some (vI a2)]) (st2 := []) (m1 := m) rfl ?_
    refine an_ifp (c := ¬ (v_X4_isRow m a2) = 0) (fun h2 => ?_) (fun h2 => ?_)
    · refine an_b 5 (pc2 := 33) (L2 := [some (vR 3 0 0), some (vI a1), some (vI a2)]) (st2 := [vI a2, vI a1, vR 1 0 0]) (m1 := m) rfl ?_
      refine an_call (r_X4_cell m a1 a2) rfl rfl rfl rfl ?_
      refine an_call (r_X1_at m 0 0 (v_X4_cell m a1 a2)) rfl rfl rfl rfl ?_
      exact an_ret rfl rfl rfl rfl rfl
    · exact an_thr rfl rfl rfl rfl rfl
def o_X4_hand (m : PM) (a1 : Int32) (a2 : Int32) : OC := (if ¬ (v_X4_isHand m a1) = 0 then (if a2 < 0 then (.inr 50) else (if a2 < (9 : Int32) then (.inl (some (vI (v_X2_handPart m 0 a1 a2)))) else (.inr 50))) else (.inr 40))
set_option maxRecDepth 100000 in
theorem t_X4_hand (m : PM) (a1 : Int32) (a2 : Int32) : An MX4_hand 0 [some (vR 3 0 0), some (vI a1), some (vI a2)] [] m (o_X4_hand m a1 a2) m := by
  unfold o_X4_hand
  refine an_b 1 (pc2 := 1) (L2 := [some (vR 3 0 0), some (vI a1), some (vI a2)]) (st2 := [vI a1]) (m1 := m) rfl ?_
  refine an_call (r_X4_isHand m a1) rfl rfl rfl rfl ?_
  refine an_b 1 (pc2 := if ¬ (v_X4_isHand m a1) = 0 then 17 else 7) (L2 := [some (vR 3 0 0), some (vI a1), some (vI a2)]) (st2 := []) (m1 := m) rfl ?_
  refine an_ifp (c := ¬ (v_X4_isHand m a1) = 0) (fun h1 => ?_) (fun h1 => ?_)
  · refine an_b 2 (pc2 := if a2 < 0 then 27 else 21) (L2 := [some (vR 3 0 0), some (vI a1), some (vI a2)]) (st2 := []) (m1 := m) rfl ?_
    refine an_ifp (c := a2 < 0) (fun h2 => ?_) (fun h2 => ?_)
    · exact an_thr rfl rfl rfl rfl rfl
    · refine an_b 3 (pc2 := if a2 < (9 : Int32) then 37 else 27) (L2 := [some (vR 3 0 0), some (vI a1), some (vI a2)]) (st2 := []) (m1 := m) rfl ?_
      refine an_ifp (c := a2 < (9 : Int32)) (fun h3 => ?_) (fun h3 => ?_)
      · refine an_b 4 (pc2 := 43) (L2 := [some (vR 3 0 0), some (vI a1), some (vI a2)]) (st2 := [vI a2, vI a1, vR 0 0 0]) (m1 := m) rfl ?_
        refine an_call (r_X2_handPart m 0 a1 a2) rfl rfl rfl rfl ?_
        exact an_ret rfl rfl rfl rfl rfl
      · exact an_thr rfl rfl rfl rfl rfl
  · exact an_thr rfl rfl rfl rfl rfl
def o_X4_row (m : PM) (a1 : Int32) (a2 : Int32) : OC := (if ¬ (v_X4_isRow m a1) = 0 then (if a2 < 0 then (.inr 50) else (if a2 < (6 : Int32) then (.inl (some (vI (v_X2_rowPart m 0 a1 a2)))) else (.inr 50))) else (.inr 40))
set_option maxRecDepth 100000 in
theorem t_X4_row (m : PM) (a1 : Int32) (a2 : Int32) : An MX4_row 0 [some (vR 3 0 0), some (vI a1), some (vI a2)] [] m (o_X4_row m a1 a2) m := by
  unfold o_X4_row
  refine an_b 1 (pc2 := 1) (L2 := [some (vR 3 0 0), some (vI a1), some (vI a2)]) (st2 := [vI a1]) (m1 := m) rfl ?_
  refine an_call (r_X4_isRow m a1) rfl rfl rfl rfl ?_
  refine an_b 1 (pc2 := if ¬ (v_X4_isRow m a1) = 0 then 17 else 7) (L2 := [some (vR 3 0 0), some (vI a1), some (vI a2)]) (st2 := []) (m1 := m) rfl ?_
  refine an_ifp (c := ¬ (v_X4_isRow m a1) = 0) (fun h1 => ?_) (fun h1 => ?_)
  · refine an_b 2 (pc2 := if a2 < 0 then 27 else 21) (L2 := [some (vR 3 0 0), some (vI a1), some (vI a2)]) (st2 := []) (m1 := m) rfl ?_
    refine an_ifp (c := a2 < 0) (fun h2 => ?_) (fun h2 => ?_)
    · exact an_thr rfl rfl rfl rfl rfl
    · refine an_b 3 (pc2 := if a2 < (6 : Int32) then 37 else 27) (L2 := [some (vR 3 0 0), some (vI a1), some (vI a2)]) (st2 := []) (m1 := m) rfl ?_
      refine an_ifp (c := a2 < (6 : Int32)) (fun h3 => ?_) (fun h3 => ?_)
      · refine an_b 4 (pc2 := 43) (L2 := [some (vR 3 0 0), some (vI a1), some (vI a2)]) (st2 := [vI a2, vI a1, vR 0 0 0]) (m1 := m) rfl ?_
        refine an_call (r_X2_rowPart m 0 a1 a2) rfl rfl rfl rfl ?_
        exact an_ret rfl rfl rfl rfl rfl
      · exact an_thr rfl rfl rfl rfl rfl
  · exact an_thr rfl rfl rfl rfl rfl
def o_X4_request (m : PM) (a1 : Int32) (a2 : Int32) (a3 : Int32) : OC := (if ¬ (v_X4_isRow m a1) = 0 then (if a2 < 0 then (.inr 50) else (if (8 : Int32) ≤ a2 then (.inr 50) else (if a3 < 0 then (.inr 50) else (if a3 < (2 : Int32) then (.inl (some (vI (v_X2_requestPart m 0 a1 a2 a3)))) else (.inr 50))))) else (.inr 40))
set_option maxRecDepth 100000 in
theorem t_X4_request (m : PM) (a1 : Int32) (a2 : Int32) (a3 : Int32) : An MX4_request 0 [some (vR 3 0 0), some (vI a1), some (vI a2), some (vI a3)] [] m (o_X4_request m a1 a2 a3) m := by
  unfold o_X4_request
  refine an_b 1 (pc2 := 1) (L2 := [some (vR 3 0 0), some (vI a1), some (vI a2), some (vI a3)]) (st2 := [vI a1]) (m1 := m) rfl ?_
  refine an_call (r_X4_isRow m a1) rfl rfl rfl rfl ?_
  refine an_b 1 (pc2 := if ¬ (v_X4_isRow m a1) = 0 then 17 else 7) (L2 := [some (vR 3 0 0), some (vI a1), some (vI a2), some (vI a3)]) (st2 := []) (m1 := m) rfl ?_
  refine an_ifp (c := ¬ (v_X4_isRow m a1) = 0) (fun h1 => ?_) (fun h1 => ?_)
  · refine an_b 2 (pc2 := if a2 < 0 then 36 else 21) (L2 := [some (vR 3 0 0), some (vI a1), some (vI a2), some (vI a3)]) (st2 := []) (m1 := m) rfl ?_
    refine an_ifp (c := a2 < 0) (fun h2 => ?_) (fun h2 => ?_)
    · exact an_thr rfl rfl rfl rfl rfl
    · refine an_b 3 (pc2 := if (8 : Int32) ≤ a2 then 36 else 27) (L2 := [some (vR 3 0 0), some (vI a1), some (vI a2), some (vI a3)]) (st2 := []) (m1 := m) rfl ?_
      refine an_ifp (c := (8 : Int32) ≤ a2) (fun h3 => ?_) (fun h3 => ?_)
      · exact an_thr rfl rfl rfl rfl rfl
      · refine an_b 2 (pc2 := if a3 < 0 then 36 else 31) (L2 := [some (vR 3 0 0), some (vI a1), some (vI a2), some (vI a3)]) (st2 := []) (m1 := m) rfl ?_
        refine an_ifp (c := a3 < 0) (fun h4 => ?_) (fun h4 => ?_)
        · exact an_thr rfl rfl rfl rfl rfl
        · refine an_b 3 (pc2 := if a3 < (2 : Int32) then 46 else 36) (L2 := [some (vR 3 0 0), some (vI a1), some (vI a2), some (vI a3)]) (st2 := []) (m1 := m) rfl ?_
          refine an_ifp (c := a3 < (2 : Int32)) (fun h5 => ?_) (fun h5 => ?_)
          · refine an_b 5 (pc2 := 53) (L2 := [some (vR 3 0 0), some (vI a1), some (vI a2), some (vI a3)]) (st2 := [vI a3, vI a2, vI a1, vR 0 0 0]) (m1 := m) rfl ?_
            refine an_call (r_X2_requestPart m 0 a1 a2 a3) rfl rfl rfl rfl ?_
            exact an_ret rfl rfl rfl rfl rfl
          · exact an_thr rfl rfl rfl rfl rfl
  · exact an_thr rfl rfl rfl rfl rfl
def o_X4_count (m : PM) (a1 : Int32) : OC := (if a1 < 0 then (.inr 50) else (if a1 < (10 : Int32) then (.inl (some (vI (v_X4_numberOf m a1)))) else (.inr 50)))
set_option maxRecDepth 100000 in
theorem t_X4_count (m : PM) (a1 : Int32) : An MX4_count 0 [some (vR 3 0 0), some (vI a1)] [] m (o_X4_count m a1) m := by
  unfold o_X4_count
  refine an_b 2 (pc2 := if a1 < 0 then 10 else 4) (L2 := [some (vR 3 0 0), some (vI a1)]) (st2 := []) (m1 := m) rfl ?_
  refine an_ifp (c := a1 < 0) (fun h1 => ?_) (fun h1 => ?_)
  · exact an_thr rfl rfl rfl rfl rfl
  · refine an_b 3 (pc2 := if a1 < (10 : Int32) then 20 else 10) (L2 := [some (vR 3 0 0), some (vI a1)]) (st2 := []) (m1 := m) rfl ?_
    refine an_ifp (c := a1 < (10 : Int32)) (fun h2 => ?_) (fun h2 => ?_)
    · refine an_b 2 (pc2 := 22) (L2 := [some (vR 3 0 0), some (vI a1)]) (st2 := [vI a1, vR 3 0 0]) (m1 := m) rfl ?_
      refine an_call (r_X4_numberOf m a1) rfl rfl rfl rfl ?_
      exact an_ret rfl rfl rfl rfl rfl
    · exact an_thr rfl rfl rfl rfl rfl
def o_X4_takers (m : PM) (a1 : Int32) (a2 : Int32) : OC := (if (v_X4_isHand m a1) = 0 then (.inr 40) else (if ¬ (v_X4_isRow m a2) = 0 then (.inl (some (vI (v_X2_takersOf m 0 a1 a2)))) else (.inr 40)))
set_option maxRecDepth 100000 in
theorem t_X4_takers (m : PM) (a1 : Int32) (a2 : Int32) : An MX4_takers 0 [some (vR 3 0 0), some (vI a1), some (vI a2)] [] m (o_X4_takers m a1 a2) m := by
  unfold o_X4_takers
  refine an_b 1 (pc2 := 1) (L2 := [some (vR 3 0 0), some (vI a1), some (vI a2)]) (st2 := [vI a1]) (m1 := m) rfl ?_
  refine an_call (r_X4_isHand m a1) rfl rfl rfl rfl ?_
  refine an_b 1 (pc2 := if (v_X4_isHand m a1) = 0 then 14 else 7) (L2 := [some (vR 3 0 0), some (vI a1), some (vI a2)]) (st2 := []) (m1 := m) rfl ?_
  refine an_ifp (c := (v_X4_isHand m a1) = 0) (fun h1 => ?_) (fun h1 => ?_)
  · exact an_thr rfl rfl rfl rfl rfl
  · refine an_b 1 (pc2 := 8) (L2 := [some (vR 3 0 0), some (vI a1), some (vI a2)]) (st2 := [vI a2]) (m1 := m) rfl ?_
    refine an_call (r_X4_isRow m a2) rfl rfl rfl rfl ?_
    refine an_b 1 (pc2 := if ¬ (v_X4_isRow m a2) = 0 then 24 else 14) (L2 := [some (vR 3 0 0), some (vI a1), some (vI a2)]) (st2 := []) (m1 := m) rfl ?_
    refine an_ifp (c := ¬ (v_X4_isRow m a2) = 0) (fun h2 => ?_) (fun h2 => ?_)
    · refine an_b 4 (pc2 := 30) (L2 := [some (vR 3 0 0), some (vI a1), some (vI a2)]) (st2 := [vI a2, vI a1, vR 0 0 0]) (m1 := m) rfl ?_
      refine an_call (r_X2_takersOf m 0 a1 a2) rfl rfl rfl rfl ?_
      exact an_ret rfl rfl rfl rfl rfl
    · exact an_thr rfl rfl rfl rfl rfl
def o_X4_waitsFor (m : PM) (a1 : Int32) : OC := (if ¬ (v_X4_isHand m a1) = 0 then (.inl (some (vI (v_X2_reach m 0 a1)))) else (.inr 40))
set_option maxRecDepth 100000 in
theorem t_X4_waitsFor (m : PM) (a1 : Int32) : An MX4_waitsFor 0 [some (vR 3 0 0), some (vI a1)] [] m (o_X4_waitsFor m a1) m := by
  unfold o_X4_waitsFor
  refine an_b 1 (pc2 := 1) (L2 := [some (vR 3 0 0), some (vI a1)]) (st2 := [vI a1]) (m1 := m) rfl ?_
  refine an_call (r_X4_isHand m a1) rfl rfl rfl rfl ?_
  refine an_b 1 (pc2 := if ¬ (v_X4_isHand m a1) = 0 then 17 else 7) (L2 := [some (vR 3 0 0), some (vI a1)]) (st2 := []) (m1 := m) rfl ?_
  refine an_ifp (c := ¬ (v_X4_isHand m a1) = 0) (fun h1 => ?_) (fun h1 => ?_)
  · refine an_b 3 (pc2 := 22) (L2 := [some (vR 3 0 0), some (vI a1)]) (st2 := [vI a1, vR 0 0 0]) (m1 := m) rfl ?_
    refine an_call (r_X2_reach m 0 a1) rfl rfl rfl rfl ?_
    exact an_ret rfl rfl rfl rfl rfl
  · exact an_thr rfl rfl rfl rfl rfl
