def b_X3_numberBetween_1 (m : PM) (a1 : Int32) (a2 : Int32)  (j1 : Nat) (s1 : Int32) : Int32 := (((s1 * (10 : Int32)) + (v_X1_at m 11 0 ((a1 + (1 : Int32)) + nI j1))) - (48 : Int32))
def v_X3_numberBetween (m : PM) (a1 : Int32) (a2 : Int32) : Int32 := (lp (b_X3_numberBetween_1 m a1 a2) (bdist a2 (a1 + (1 : Int32))) 0 (0 : Int32))
set_option maxRecDepth 100000 in
theorem r_X3_numberBetween (m : PM) (a1 : Int32) (a2 : Int32) : Rn MX3_numberBetween [vR 6 0 0, vI a1, vI a2] m (some (vI (v_X3_numberBetween m a1 a2))) m := by
  refine rn_of [some (vR 6 0 0), some (vI a1), some (vI a2), none, none] rfl ?_
  unfold v_X3_numberBetween
  refine an_b 6 (pc2 := 7) (L2 := [some (vR 6 0 0), some (vI a1), some (vI a2), some (vI (0 : Int32)), some (vI (a1 + (1 : Int32)))]) (st2 := []) (m1 := m) rfl ?_
  refine an_cL (K := [some (vR 6 0 0), some (vI a1), some (vI a2), some (vI (0 : Int32)), some (vI ((a1 + (1 : Int32)) + nI 0))]) (by simp only [nI_0, Int32.add_zero]) ?_
  refine re_lp (σ := Int32) (b_X3_numberBetween_1 m a1 a2) (fun j1 s1 => (7, [some (vR 6 0 0), some (vI a1), some (vI a2), some (vI s1), some (vI ((a1 + (1 : Int32)) + nI j1))], [], m)) (bdist a2 (a1 + (1 : Int32))) (fun s1 => (37, [some (vR 6 0 0), some (vI a1), some (vI a2), some (vI s1), none], [], m)) (fun j1 s1 hj1 v9 m9 K1 => ?_) (fun s1 v9 m9 K1 => ?_) (bdist a2 (a1 + (1 : Int32))) 0 (0 : Int32) (Nat.add_zero _) _ _ ?_
  · show An MX3_numberBetween 7 [some (vR 6 0 0), some (vI a1), some (vI a2), some (vI s1), some (vI ((a1 + (1 : Int32)) + nI j1))] [] m v9 m9
    refine an_b 3 (pc2 := if a2 ≤ ((a1 + (1 : Int32)) + nI j1) then 37 else 13) (L2 := [some (vR 6 0 0), some (vI a1), some (vI a2), some (vI s1), some (vI ((a1 + (1 : Int32)) + nI j1))]) (st2 := []) (m1 := m) rfl ?_
    refine an_f (bd_lt hj1) ?_
    refine an_b 6 (pc2 := 23) (L2 := [some (vR 6 0 0), some (vI a1), some (vI a2), some (vI s1), some (vI ((a1 + (1 : Int32)) + nI j1))]) (st2 := [vI ((a1 + (1 : Int32)) + nI j1), vR 1 11 0, vI (s1 * (10 : Int32))]) (m1 := m) rfl ?_
    refine an_call (r_X1_at m 11 0 ((a1 + (1 : Int32)) + nI j1)) rfl rfl rfl rfl ?_
    refine an_b 6 (pc2 := 7) (L2 := [some (vR 6 0 0), some (vI a1), some (vI a2), some (vI (((s1 * (10 : Int32)) + (v_X1_at m 11 0 ((a1 + (1 : Int32)) + nI j1))) - (48 : Int32))), some (vI (((a1 + (1 : Int32)) + nI j1) + (1 : Int32)))]) (st2 := []) (m1 := m) rfl ?_
    refine an_cL (K := [some (vR 6 0 0), some (vI a1), some (vI a2), some (vI (((s1 * (10 : Int32)) + (v_X1_at m 11 0 ((a1 + (1 : Int32)) + nI j1))) - (48 : Int32))), some (vI ((a1 + (1 : Int32)) + nI (j1 + 1)))]) (by simp only [Int32.add_assoc, nI_1]) ?_
    exact K1
  · show An MX3_numberBetween 7 [some (vR 6 0 0), some (vI a1), some (vI a2), some (vI s1), some (vI ((a1 + (1 : Int32)) + nI (bdist a2 (a1 + (1 : Int32)))))] [] m v9 m9
    refine an_b 3 (pc2 := if a2 ≤ ((a1 + (1 : Int32)) + nI (bdist a2 (a1 + (1 : Int32)))) then 37 else 13) (L2 := [some (vR 6 0 0), some (vI a1), some (vI a2), some (vI s1), some (vI ((a1 + (1 : Int32)) + nI (bdist a2 (a1 + (1 : Int32)))))]) (st2 := []) (m1 := m) rfl ?_
    refine an_t (bd_ge rfl) ?_
    refine an_weak (L := [some (vR 6 0 0), some (vI a1), some (vI a2), some (vI s1), none]) (⟨rfl, rfl, rfl, rfl, trivial⟩) ?_
    exact K1
  show An MX3_numberBetween 37 [some (vR 6 0 0), some (vI a1), some (vI a2), some (vI (lp (b_X3_numberBetween_1 m a1 a2) (bdist a2 (a1 + (1 : Int32))) 0 (0 : Int32))), none] [] m _ _
  refine an_b 1 (pc2 := 38) (L2 := [some (vR 6 0 0), some (vI a1), some (vI a2), some (vI (lp (b_X3_numberBetween_1 m a1 a2) (bdist a2 (a1 + (1 : Int32))) 0 (0 : Int32))), none]) (st2 := [vI (lp (b_X3_numberBetween_1 m a1 a2) (bdist a2 (a1 + (1 : Int32))) 0 (0 : Int32))]) (m1 := m) rfl ?_
  exact an_ret rfl rfl rfl rfl rfl
def o_X4_ask (m : PM) (a1 : Int32) (a2 : Int32) (a3 : Int32) : OC := (if (v_X4_isHand m a1) = 0 then (.inr 40) else (if ¬ (v_X4_isRow m a2) = 0 then (if ¬ (v_X4_isMode m a3) = 0 then (if (v_X2_isWaiting m 0 a1) = 0 then (.inl (some (vI (v_X2_takeAsking (w_X0_save m 0) 0 a1 a2 a3)))) else (.inr 58)) else (.inr 50)) else (.inr 40)))
def w_X4_ask (m : PM) (a1 : Int32) (a2 : Int32) (a3 : Int32) : PM := (if (v_X4_isHand m a1) = 0 then m else (if ¬ (v_X4_isRow m a2) = 0 then (if ¬ (v_X4_isMode m a3) = 0 then (if (v_X2_isWaiting m 0 a1) = 0 then (w_X2_takeAsking (w_X0_save m 0) 0 a1 a2 a3) else m) else m) else m))
set_option maxRecDepth 100000 in
theorem t_X4_ask (m : PM) (a1 : Int32) (a2 : Int32) (a3 : Int32) : An MX4_ask 0 [some (vR 3 0 0), some (vI a1), some (vI a2), some (vI a3)] [] m (o_X4_ask m a1 a2 a3) (w_X4_ask m a1 a2 a3) := by
  unfold o_X4_ask w_X4_ask
  refine an_b 1 (pc2 := 1) (L2 := [some (vR 3 0 0), some (vI a1), some (vI a2), some (vI a3)]) (st2 := [vI a1]) (m1 := m) rfl ?_
  refine an_call (r_X4_isHand m a1) rfl rfl rfl rfl ?_
  refine an_b 1 (pc2 := if (v_X4_isHand m a1) = 0 then 14 else 7) (L2 := [some (vR 3 0 0), some (vI a1), some (vI a2), some (vI a3)]) (st2 := []) (m1 := m) rfl ?_
  refine an_ifo (c := (v_X4_isHand m a1) = 0) (fun h1 => ?_) (fun h1 => ?_)
  · exact an_thr rfl rfl rfl rfl rfl
  · refine an_b 1 (pc2 := 8) (L2 := [some (vR 3 0 0), some (vI a1), some (vI a2), some (vI a3)]) (st2 := [vI a2]) (m1 := m) rfl ?_
    refine an_call (r_X4_isRow m a2) rfl rfl rfl rfl ?_
    refine an_b 1 (pc2 := if ¬ (v_X4_isRow m a2) = 0 then 24 else 14) (L2 := [some (vR 3 0 0), some (vI a1), some (vI a2), some (vI a3)]) (st2 := []) (m1 := m) rfl ?_
    refine an_ifo (c := ¬ (v_X4_isRow m a2) = 0) (fun h2 => ?_) (fun h2 => ?_)
    · refine an_b 1 (pc2 := 25) (L2 := [some (vR 3 0 0), some (vI a1), some (vI a2), some (vI a3)]) (st2 := [vI a3]) (m1 := m) rfl ?_
      refine an_call (r_X4_isMode m a3) rfl rfl rfl rfl ?_
      refine an_b 1 (pc2 := if ¬ (v_X4_isMode m a3) = 0 then 41 else 31) (L2 := [some (vR 3 0 0), some (vI a1), some (vI a2), some (vI a3)]) (st2 := []) (m1 := m) rfl ?_
      refine an_ifo (c := ¬ (v_X4_isMode m a3) = 0) (fun h3 => ?_) (fun h3 => ?_)
      · refine an_b 3 (pc2 := 46) (L2 := [some (vR 3 0 0), some (vI a1), some (vI a2), some (vI a3)]) (st2 := [vI a1, vR 0 0 0]) (m1 := m) rfl ?_
        refine an_call (r_X2_isWaiting m 0 a1) rfl rfl rfl rfl ?_
        refine an_b 1 (pc2 := if (v_X2_isWaiting m 0 a1) = 0 then 62 else 52) (L2 := [some (vR 3 0 0), some (vI a1), some (vI a2), some (vI a3)]) (st2 := []) (m1 := m) rfl ?_
        refine an_ifo (c := (v_X2_isWaiting m 0 a1) = 0) (fun h4 => ?_) (fun h4 => ?_)
        · refine an_b 4 (pc2 := 70) (L2 := [some (vR 3 0 0), some (vI a1), some (vI a2), some (vI a3)]) (st2 := [vR 0 0 0, vR 4 0 0]) (m1 := m) rfl ?_
          refine an_call (r_X0_save m 0) rfl rfl rfl rfl ?_
          refine an_b 5 (pc2 := 80) (L2 := [some (vR 3 0 0), some (vI a1), some (vI a2), some (vI a3)]) (st2 := [vI a3, vI a2, vI a1, vR 0 0 0]) (m1 := (w_X0_save m 0)) rfl ?_
          refine an_call (r_X2_takeAsking (w_X0_save m 0) 0 a1 a2 a3) rfl rfl rfl rfl ?_
          exact an_ret rfl rfl rfl rfl rfl
        · exact an_thr rfl rfl rfl rfl rfl
      · exact an_thr rfl rfl rfl rfl rfl
    · exact an_thr rfl rfl rfl rfl rfl
def o_X4_release (m : PM) (a1 : Int32) (a2 : Int32) : OC := (if (v_X4_isHand m a1) = 0 then (.inr 40) else (if ¬ (v_X4_isRow m a2) = 0 then (if ¬ (v_X2_canLetGo m 0 a1 a2) = 0 then (.inl (some (vI (v_X2_letGo (w_X0_save m 0) 0 a1 a2)))) else (.inr 58)) else (.inr 40)))
def w_X4_release (m : PM) (a1 : Int32) (a2 : Int32) : PM := (if (v_X4_isHand m a1) = 0 then m else (if ¬ (v_X4_isRow m a2) = 0 then (if ¬ (v_X2_canLetGo m 0 a1 a2) = 0 then (w_X2_letGo (w_X0_save m 0) 0 a1 a2) else m) else m))
set_option maxRecDepth 100000 in
theorem t_X4_release (m : PM) (a1 : Int32) (a2 : Int32) : An MX4_release 0 [some (vR 3 0 0), some (vI a1), some (vI a2)] [] m (o_X4_release m a1 a2) (w_X4_release m a1 a2) := by
  unfold o_X4_release w_X4_release
  refine an_b 1 (pc2 := 1) (L2 := [some (vR 3 0 0), some (vI a1), some (vI a2)]) (st2 := [vI a1]) (m1 := m) rfl ?_
  refine an_call (r_X4_isHand m a1) rfl rfl rfl rfl ?_
  refine an_b 1 (pc2 := if (v_X4_isHand m a1) = 0 then 14 else 7) (L2 := [some (vR 3 0 0), some (vI a1), some (vI a2)]) (st2 := []) (m1 := m) rfl ?_
  refine an_ifo (c := (v_X4_isHand m a1) = 0) (fun h1 => ?_) (fun h1 => ?_)
  · exact an_thr rfl rfl rfl rfl rfl
  · refine an_b 1 (pc2 := 8) (L2 := [some (vR 3 0 0), some (vI a1), some (vI a2)]) (st2 := [vI a2]) (m1 := m) rfl ?_
    refine an_call (r_X4_isRow m a2) rfl rfl rfl rfl ?_
    refine an_b 1 (pc2 := if ¬ (v_X4_isRow m a2) = 0 then 24 else 14) (L2 := [some (vR 3 0 0), some (vI a1), some (vI a2)]) (st2 := []) (m1 := m) rfl ?_
    refine an_ifo (c := ¬ (v_X4_isRow m a2) = 0) (fun h2 => ?_) (fun h2 => ?_)
    · refine an_b 4 (pc2 := 30) (L2 := [some (vR 3 0 0), some (vI a1), some (vI a2)]) (st2 := [vI a2, vI a1, vR 0 0 0]) (m1 := m) rfl ?_
      refine an_call (r_X2_canLetGo m 0 a1 a2) rfl rfl rfl rfl ?_
      refine an_b 1 (pc2 := if ¬ (v_X2_canLetGo m 0 a1 a2) = 0 then 46 else 36) (L2 := [some (vR 3 0 0), some (vI a1), some (vI a2)]) (st2 := []) (m1 := m) rfl ?_
      refine an_ifo (c := ¬ (v_X2_canLetGo m 0 a1 a2) = 0) (fun h3 => ?_) (fun h3 => ?_)
      · refine an_b 4 (pc2 := 54) (L2 := [some (vR 3 0 0), some (vI a1), some (vI a2)]) (st2 := [vR 0 0 0, vR 4 0 0]) (m1 := m) rfl ?_
        refine an_call (r_X0_save m 0) rfl rfl rfl rfl ?_
        refine an_b 4 (pc2 := 63) (L2 := [some (vR 3 0 0), some (vI a1), some (vI a2)]) (st2 := [vI a2, vI a1, vR 0 0 0]) (m1 := (w_X0_save m 0)) rfl ?_
        refine an_call (r_X2_letGo (w_X0_save m 0) 0 a1 a2) rfl rfl rfl rfl ?_
        exact an_ret rfl rfl rfl rfl rfl
      · exact an_thr rfl rfl rfl rfl rfl
    · exact an_thr rfl rfl rfl rfl rfl
def o_X4_giveUp (m : PM) (a1 : Int32) : OC := (if ¬ (v_X4_isHand m a1) = 0 then (if ¬ (v_X2_isWaiting m 0 a1) = 0 then (.inl (some (vI (v_X2_stopWaiting (w_X0_save m 0) 0 a1)))) else (.inr 58)) else (.inr 40))
def w_X4_giveUp (m : PM) (a1 : Int32) : PM := (if ¬ (v_X4_isHand m a1) = 0 then (if ¬ (v_X2_isWaiting m 0 a1) = 0 then (w_X2_stopWaiting (w_X0_save m 0) 0 a1) else m) else m)
set_option maxRecDepth 100000 in
theorem t_X4_giveUp (m : PM) (a1 : Int32) : An MX4_giveUp 0 [some (vR 3 0 0), some (vI a1)] [] m (o_X4_giveUp m a1) (w_X4_giveUp m a1) := by
  unfold o_X4_giveUp w_X4_giveUp
  refine an_b 1 (pc2 := 1) (L2 := [some (vR 3 0 0), some (vI a1)]) (st2 := [vI a1]) (m1 := m) rfl ?_
  refine an_call (r_X4_isHand m a1) rfl rfl rfl rfl ?_
  refine an_b 1 (pc2 := if ¬ (v_X4_isHand m a1) = 0 then 17 else 7) (L2 := [some (vR 3 0 0), some (vI a1)]) (st2 := []) (m1 := m) rfl ?_
  refine an_ifo (c := ¬ (v_X4_isHand m a1) = 0) (fun h1 => ?_) (fun h1 => ?_)
  · refine an_b 3 (pc2 := 22) (L2 := [some (vR 3 0 0), some (vI a1)]) (st2 := [vI a1, vR 0 0 0]) (m1 := m) rfl ?_
    refine an_call (r_X2_isWaiting m 0 a1) rfl rfl rfl rfl ?_
    refine an_b 1 (pc2 := if ¬ (v_X2_isWaiting m 0 a1) = 0 then 38 else 28) (L2 := [some (vR 3 0 0), some (vI a1)]) (st2 := []) (m1 := m) rfl ?_
    refine an_ifo (c := ¬ (v_X2_isWaiting m 0 a1) = 0) (fun h2 => ?_) (fun h2 => ?_)
    · refine an_b 4 (pc2 := 46) (L2 := [some (vR 3 0 0), some (vI a1)]) (st2 := [vR 0 0 0, vR 4 0 0]) (m1 := m) rfl ?_
      refine an_call (r_X0_save m 0) rfl rfl rfl rfl ?_
      refine an_b 3 (pc2 := 54) (L2 := [some (vR 3 0 0), some (vI a1)]) (st2 := [vI a1, vR 0 0 0]) (m1 := (w_X0_save m 0)) rfl ?_
      refine an_call (r_X2_stopWaiting (w_X0_save m 0) 0 a1) rfl rfl rfl rfl ?_
      exact an_ret rfl rfl rfl rfl rfl
    · exact an_thr rfl rfl rfl rfl rfl
  · exact an_thr rfl rfl rfl rfl rfl
def o_X4_handOn (m : PM) (a1 : Int32) (a2 : Int32) (a3 : Int32) : OC := (if (v_X4_isHand m a1) = 0 then (.inr 40) else (if (v_X4_isRow m a2) = 0 then (.inr 40) else (if ¬ (v_X4_isHand m a3) = 0 then (if ¬ (v_X2_canPassOver m 0 a1 a2 a3) = 0 then (.inl (some (vI (v_X2_passOver (w_X0_save m 0) 0 a1 a2 a3)))) else (.inr 58)) else (.inr 40))))
def w_X4_handOn (m : PM) (a1 : Int32) (a2 : Int32) (a3 : Int32) : PM := (if (v_X4_isHand m a1) = 0 then m else (if (v_X4_isRow m a2) = 0 then m else (if ¬ (v_X4_isHand m a3) = 0 then (if ¬ (v_X2_canPassOver m 0 a1 a2 a3) = 0 then (w_X2_passOver (w_X0_save m 0) 0 a1 a2 a3) else m) else m)))
set_option maxRecDepth 100000 in
theorem t_X4_handOn (m : PM) (a1 : Int32) (a2 : Int32) (a3 : Int32) : An MX4_handOn 0 [some (vR 3 0 0), some (vI a1), some (vI a2), some (vI a3)] [] m (o_X4_handOn m a1 a2 a3) (w_X4_handOn m a1 a2 a3) := by
  unfold o_X4_handOn w_X4_handOn
  refine an_b 1 (pc2 := 1) (L2 := [some (vR 3 0 0), some (vI a1), some (vI a2), some (vI a3)]) (st2 := [vI a1]) (m1 := m) rfl ?_
  refine an_call (r_X4_isHand m a1) rfl rfl rfl rfl ?_
  refine an_b 1 (pc2 := if (v_X4_isHand m a1) = 0 then 21 else 7) (L2 := [some (vR 3 0 0), some (vI a1), some (vI a2), some (vI a3)]) (st2 := []) (m1 := m) rfl ?_
  refine an_ifo (c := (v_X4_isHand m a1) = 0) (fun h1 => ?_) (fun h1 => ?_)
  · exact an_thr rfl rfl rfl rfl rfl
  · refine an_b 1 (pc2 := 8) (L2 := [some (vR 3 0 0), some (vI a1), some (vI a2), some (vI a3)]) (st2 := [vI a2]) (m1 := m) rfl ?_
    refine an_call (r_X4_isRow m a2) rfl rfl rfl rfl ?_
    refine an_b 1 (pc2 := if (v_X4_isRow m a2) = 0 then 21 else 14) (L2 := [some (vR 3 0 0), some (vI a1), some (vI a2), some (vI a3)]) (st2 := []) (m1 := m) rfl ?_
    refine an_ifo (c := (v_X4_isRow m a2) = 0) (fun h2 => ?_) (fun h2 => ?_)
    · exact an_thr rfl rfl rfl rfl rfl
    · refine an_b 1 (pc2 := 15) (L2 := [some (vR 3 0 0), some (vI a1), some (vI a2), some (vI a3)]) (st2 := [vI a3]) (m1 := m) rfl ?_
      refine an_call (r_X4_isHand m a3) rfl rfl rfl rfl ?_
      refine an_b 1 (pc2 := if ¬ (v_X4_isHand m a3) = 0 then 31 else 21) (L2 := [some (vR 3 0 0), some (vI a1), some (vI a2), some (vI a3)]) (st2 := []) (m1 := m) rfl ?_
      refine an_ifo (c := ¬ (v_X4_isHand m a3) = 0) (fun h3 => ?_) (fun h3 => ?_)
      · refine an_b 5 (pc2 := 38) (L2 := [some (vR 3 0 0), some (vI a1), some (vI a2), some (vI a3)]) (st2 := [vI a3, vI a2, vI a1, vR 0 0 0]) (m1 := m) rfl ?_
        refine an_call (r_X2_canPassOver m 0 a1 a2 a3) rfl rfl rfl rfl ?_
        refine an_b 1 (pc2 := if ¬ (v_X2_canPassOver m 0 a1 a2 a3) = 0 then 54 else 44) (L2 := [some (vR 3 0 0), some (vI a1), some (vI a2), some (vI a3)]) (st2 := []) (m1 := m) rfl ?_
        refine an_ifo (c := ¬ (v_X2_canPassOver m 0 a1 a2 a3) = 0) (fun h4 => ?_) (fun h4 => ?_)
        · refine an_b 4 (pc2 := 62) (L2 := [some (vR 3 0 0), some (vI a1), some (vI a2), some (vI a3)]) (st2 := [vR 0 0 0, vR 4 0 0]) (m1 := m) rfl ?_
          refine an_call (r_X0_save m 0) rfl rfl rfl rfl ?_
          refine an_b 5 (pc2 := 72) (L2 := [some (vR 3 0 0), some (vI a1), some (vI a2), some (vI a3)]) (st2 := [vI a3, vI a2, vI a1, vR 0 0 0]) (m1 := (w_X0_save m 0)) rfl ?_
          refine an_call (r_X2_passOver (w_X0_save m 0) 0 a1 a2 a3) rfl rfl rfl rfl ?_
          exact an_ret rfl rfl rfl rfl rfl
        · exact an_thr rfl rfl rfl rfl rfl
      · exact an_thr rfl rfl rfl rfl rfl
def b_X4_pass_1 (m : PM) (a1 : Int32)  (j1 : Nat) (s1 : Int32 × PM) : Int32 × PM := ((s1.1 + (v_X2_tick s1.2 0)), (w_X2_tick s1.2 0))
def o_X4_pass (m : PM) (a1 : Int32) : OC := (if a1 < (1 : Int32) then (.inr 50) else (if a1 ≤ (100 : Int32) then (.inl (some (vI ((lp (b_X4_pass_1 m a1) (a1).toNatClampNeg 0 ((0 : Int32), (w_X0_save m 0))).1)))) else (.inr 50)))
def w_X4_pass (m : PM) (a1 : Int32) : PM := (if a1 < (1 : Int32) then m else (if a1 ≤ (100 : Int32) then (lp (b_X4_pass_1 m a1) (a1).toNatClampNeg 0 ((0 : Int32), (w_X0_save m 0))).2 else m))
set_option maxRecDepth 100000 in
theorem t_X4_pass (m : PM) (a1 : Int32) : An MX4_pass 0 [some (vR 3 0 0), some (vI a1), none, none] [] m (o_X4_pass m a1) (w_X4_pass m a1) := by
  unfold o_X4_pass w_X4_pass
  refine an_b 3 (pc2 := if a1 < (1 : Int32) then 11 else 5) (L2 := [some (vR 3 0 0), some (vI a1), none, none]) (st2 := []) (m1 := m) rfl ?_
  refine an_ifo (c := a1 < (1 : Int32)) (fun h1 => ?_) (fun h1 => ?_)
  · exact an_thr rfl rfl rfl rfl rfl
  · refine an_b 3 (pc2 := if a1 ≤ (100 : Int32) then 21 else 11) (L2 := [some (vR 3 0 0), some (vI a1), none, none]) (st2 := []) (m1 := m) rfl ?_
    refine an_ifo (c := a1 ≤ (100 : Int32)) (fun h2 => ?_) (fun h2 => ?_)
    · refine an_b 4 (pc2 := 29) (L2 := [some (vR 3 0 0), some (vI a1), none, none]) (st2 := [vR 0 0 0, vR 4 0 0]) (m1 := m) rfl ?_
      refine an_call (r_X0_save m 0) rfl rfl rfl rfl ?_
      refine an_b 4 (pc2 := 36) (L2 := [some (vR 3 0 0), some (vI a1), some (vI (0 : Int32)), some (vI (0 : Int32))]) (st2 := []) (m1 := (w_X0_save m 0)) rfl ?_
      refine re_lp (σ := Int32 × PM) (b_X4_pass_1 m a1) (fun j1 s1 => (36, [some (vR 3 0 0), some (vI a1), some (vI s1.1), some (vI (nI j1))], [], s1.2)) (a1).toNatClampNeg (fun s1 => (57, [some (vR 3 0 0), some (vI a1), some (vI s1.1), none], [], s1.2)) (fun j1 s1 hj1 v9 m9 K1 => ?_) (fun s1 v9 m9 K1 => ?_) (a1).toNatClampNeg 0 ((0 : Int32), (w_X0_save m 0)) (Nat.add_zero _) _ _ ?_
      · show An MX4_pass 36 [some (vR 3 0 0), some (vI a1), some (vI s1.1), some (vI (nI j1))] [] s1.2 v9 m9
        refine an_b 3 (pc2 := if a1 ≤ (nI j1) then 57 else 41) (L2 := [some (vR 3 0 0), some (vI a1), some (vI s1.1), some (vI (nI j1))]) (st2 := []) (m1 := s1.2) rfl ?_
        refine an_f (bnd_lt hj1) ?_
        refine an_b 3 (pc2 := 46) (L2 := [some (vR 3 0 0), some (vI a1), some (vI s1.1), some (vI (nI j1))]) (st2 := [vR 0 0 0, vI s1.1]) (m1 := s1.2) rfl ?_
        refine an_call (r_X2_tick s1.2 0) rfl rfl rfl rfl ?_
        refine an_b 4 (pc2 := 36) (L2 := [some (vR 3 0 0), some (vI a1), some (vI (s1.1 + (v_X2_tick s1.2 0))), some (vI ((nI j1) + (1 : Int32)))]) (st2 := []) (m1 := (w_X2_tick s1.2 0)) rfl ?_
        refine an_cL (K := [some (vR 3 0 0), some (vI a1), some (vI (s1.1 + (v_X2_tick s1.2 0))), some (vI (nI (j1 + 1)))]) (by simp only [nI_1]) ?_
        exact K1
      · show An MX4_pass 36 [some (vR 3 0 0), some (vI a1), some (vI s1.1), some (vI (nI ((a1).toNatClampNeg)))] [] s1.2 v9 m9
        refine an_b 3 (pc2 := if a1 ≤ (nI ((a1).toNatClampNeg)) then 57 else 41) (L2 := [some (vR 3 0 0), some (vI a1), some (vI s1.1), some (vI (nI ((a1).toNatClampNeg)))]) (st2 := []) (m1 := s1.2) rfl ?_
        refine an_t (bnd_ge rfl) ?_
        refine an_weak (L := [some (vR 3 0 0), some (vI a1), some (vI s1.1), none]) (⟨rfl, rfl, rfl, trivial⟩) ?_
        exact K1
      show An MX4_pass 57 [some (vR 3 0 0), some (vI a1), some (vI ((lp (b_X4_pass_1 m a1) (a1).toNatClampNeg 0 ((0 : Int32), (w_X0_save m 0))).1)), none] [] (lp (b_X4_pass_1 m a1) (a1).toNatClampNeg 0 ((0 : Int32), (w_X0_save m 0))).2 _ _
      refine an_b 1 (pc2 := 58) (L2 := [some (vR 3 0 0), some (vI a1), some (vI ((lp (b_X4_pass_1 m a1) (a1).toNatClampNeg 0 ((0 : Int32), (w_X0_save m 0))).1)), none]) (st2 := [vI ((lp (b_X4_pass_1 m a1) (a1).toNatClampNeg 0 ((0 : Int32), (w_X0_save m 0))).1)]) (m1 := (lp (b_X4_pass_1 m a1) (a1).toNatClampNeg 0 ((0 : Int32), (w_X0_save m 0))).2) rfl ?_
      exact an_ret rfl rfl rfl rfl rfl
    · exact an_thr rfl rfl rfl rfl rfl
def o_X4_cool (m : PM) (a1 : Int32) : OC := (if ¬ (v_X4_isRow m a1) = 0 then (if (v_X2_holders m 0 a1) = 0 then (.inl (some (vI (v_X1_at (w_X0_save m 0) 4 0 a1)))) else (.inr 58)) else (.inr 40))
def w_X4_cool (m : PM) (a1 : Int32) : PM := (if ¬ (v_X4_isRow m a1) = 0 then (if (v_X2_holders m 0 a1) = 0 then (w_X1_put (w_X0_save m 0) 4 0 a1 (0 : Int32)) else m) else m)
set_option maxRecDepth 100000 in
theorem t_X4_cool (m : PM) (a1 : Int32) : An MX4_cool 0 [some (vR 3 0 0), some (vI a1), none] [] m (o_X4_cool m a1) (w_X4_cool m a1) := by
  unfold o_X4_cool w_X4_cool
  refine an_b 1 (pc2 := 1) (L2 := [some (vR 3 0 0), some (vI a1), none]) (st2 := [vI a1]) (m1 := m) rfl ?_
  refine an_call (r_X4_isRow m a1) rfl rfl rfl rfl ?_
  refine an_b 1 (pc2 := if ¬ (v_X4_isRow m a1) = 0 then 17 else 7) (L2 := [some (vR 3 0 0), some (vI a1), none]) (st2 := []) (m1 := m) rfl ?_
  refine an_ifo (c := ¬ (v_X4_isRow m a1) = 0) (fun h1 => ?_) (fun h1 => ?_)
  · refine an_b 3 (pc2 := 22) (L2 := [some (vR 3 0 0), some (vI a1), none]) (st2 := [vI a1, vR 0 0 0]) (m1 := m) rfl ?_
    refine an_call (r_X2_holders m 0 a1) rfl rfl rfl rfl ?_
    refine an_b 1 (pc2 := if (v_X2_holders m 0 a1) = 0 then 38 else 28) (L2 := [some (vR 3 0 0), some (vI a1), none]) (st2 := []) (m1 := m) rfl ?_
    refine an_ifo (c := (v_X2_holders m 0 a1) = 0) (fun h2 => ?_) (fun h2 => ?_)
    · refine an_b 4 (pc2 := 46) (L2 := [some (vR 3 0 0), some (vI a1), none]) (st2 := [vR 0 0 0, vR 4 0 0]) (m1 := m) rfl ?_
      refine an_call (r_X0_save m 0) rfl rfl rfl rfl ?_
      refine an_b 4 (pc2 := 57) (L2 := [some (vR 3 0 0), some (vI a1), none]) (st2 := [vI a1, vR 1 4 0]) (m1 := (w_X0_save m 0)) rfl ?_
      refine an_call (r_X1_at (w_X0_save m 0) 4 0 a1) rfl rfl rfl rfl ?_
      refine an_b 6 (pc2 := 70) (L2 := [some (vR 3 0 0), some (vI a1), some (vI (v_X1_at (w_X0_save m 0) 4 0 a1))]) (st2 := [vI (0 : Int32), vI a1, vR 1 4 0]) (m1 := (w_X0_save m 0)) rfl ?_
      refine an_call (r_X1_put (w_X0_save m 0) 4 0 a1 (0 : Int32)) rfl rfl rfl rfl ?_
      refine an_b 1 (pc2 := 74) (L2 := [some (vR 3 0 0), some (vI a1), some (vI (v_X1_at (w_X0_save m 0) 4 0 a1))]) (st2 := [vI (v_X1_at (w_X0_save m 0) 4 0 a1)]) (m1 := (w_X1_put (w_X0_save m 0) 4 0 a1 (0 : Int32))) rfl ?_
      exact an_ret rfl rfl rfl rfl rfl
    · exact an_thr rfl rfl rfl rfl rfl
  · exact an_thr rfl rfl rfl rfl rfl
def o_X4_set (m : PM) (a1 : Int32) (a2 : Int32) : OC := (if ¬ (v_X4_isSetting m a1) = 0 then (if a2 < (v_X4_leastValue m a1) then (.inr 50) else (if a2 ≤ (v_X4_greatestValue m a1) then (.inl (some (vI (v_X1_at (w_X0_save m 0) 10 0 a1)))) else (.inr 50))) else (.inr 40))
def w_X4_set (m : PM) (a1 : Int32) (a2 : Int32) : PM := (if ¬ (v_X4_isSetting m a1) = 0 then (if a2 < (v_X4_leastValue m a1) then m else (if a2 ≤ (v_X4_greatestValue m a1) then (w_X1_put (w_X0_save m 0) 10 0 a1 a2) else m)) else m)
set_option maxRecDepth 100000 in
theorem t_X4_set (m : PM) (a1 : Int32) (a2 : Int32) : An MX4_set 0 [some (vR 3 0 0), some (vI a1), some (vI a2), none] [] m (o_X4_set m a1 a2) (w_X4_set m a1 a2) := by
  unfold o_X4_set w_X4_set
  refine an_b 1 (pc2 := 1) (L2 := [some (vR 3 0 0), some (vI a1), some (vI a2), none]) (st2 := [vI a1]) (m1 := m) rfl ?_
  refine an_call (r_X4_isSetting m a1) rfl rfl rfl rfl ?_
  refine an_b 1 (pc2 := if ¬ (v_X4_isSetting m a1) = 0 then 17 else 7) (L2 := [some (vR 3 0 0), some (vI a1), some (vI a2), none]) (st2 := []) (m1 := m) rfl ?_
  refine an_ifo (c := ¬ (v_X4_isSetting m a1) = 0) (fun h1 => ?_) (fun h1 => ?_)
  · refine an_b 2 (pc2 := 19) (L2 := [some (vR 3 0 0), some (vI a1), some (vI a2), none]) (st2 := [vI a1, vI a2]) (m1 := m) rfl ?_
    refine an_call (r_X4_leastValue m a1) rfl rfl rfl rfl ?_
    refine an_b 1 (pc2 := if a2 < (v_X4_leastValue m a1) then 33 else 25) (L2 := [some (vR 3 0 0), some (vI a1), some (vI a2), none]) (st2 := []) (m1 := m) rfl ?_
    refine an_ifo (c := a2 < (v_X4_leastValue m a1)) (fun h2 => ?_) (fun h2 => ?_)
    · exact an_thr rfl rfl rfl rfl rfl
    · refine an_b 2 (pc2 := 27) (L2 := [some (vR 3 0 0), some (vI a1), some (vI a2), none]) (st2 := [vI a1, vI a2]) (m1 := m) rfl ?_
      refine an_call (r_X4_greatestValue m a1) rfl rfl rfl rfl ?_
      refine an_b 1 (pc2 := if a2 ≤ (v_X4_greatestValue m a1) then 43 else 33) (L2 := [some (vR 3 0 0), some (vI a1), some (vI a2), none]) (st2 := []) (m1 := m) rfl ?_
      refine an_ifo (c := a2 ≤ (v_X4_greatestValue m a1)) (fun h3 => ?_) (fun h3 => ?_)
      · refine an_b 4 (pc2 := 51) (L2 := [some (vR 3 0 0), some (vI a1), some (vI a2), none]) (st2 := [vR 0 0 0, vR 4 0 0]) (m1 := m) rfl ?_
        refine an_call (r_X0_save m 0) rfl rfl rfl rfl ?_
        refine an_b 4 (pc2 := 62) (L2 := [some (vR 3 0 0), some (vI a1), some (vI a2), none]) (st2 := [vI a1, vR 1 10 0]) (m1 := (w_X0_save m 0)) rfl ?_
        refine an_call (r_X1_at (w_X0_save m 0) 10 0 a1) rfl rfl rfl rfl ?_
        refine an_b 6 (pc2 := 75) (L2 := [some (vR 3 0 0), some (vI a1), some (vI a2), some (vI (v_X1_at (w_X0_save m 0) 10 0 a1))]) (st2 := [vI a2, vI a1, vR 1 10 0]) (m1 := (w_X0_save m 0)) rfl ?_
        refine an_call (r_X1_put (w_X0_save m 0) 10 0 a1 a2) rfl rfl rfl rfl ?_
        refine an_b 1 (pc2 := 79) (L2 := [some (vR 3 0 0), some (vI a1), some (vI a2), some (vI (v_X1_at (w_X0_save m 0) 10 0 a1))]) (st2 := [vI (v_X1_at (w_X0_save m 0) 10 0 a1)]) (m1 := (w_X1_put (w_X0_save m 0) 10 0 a1 a2)) rfl ?_
        exact an_ret rfl rfl rfl rfl rfl
      · exact an_thr rfl rfl rfl rfl rfl
  · exact an_thr rfl rfl rfl rfl rfl
def o_X4_append (m : PM) (a1 : Int32) : OC := (if a1 < (33 : Int32) then (.inr 50) else (if a1 ≤ (126 : Int32) then (if (m.1 6 0 0 1) < (60 : Int32) then (.inl (some (vI (v_X3_add m a1)))) else (.inr 58)) else (.inr 50)))
def w_X4_append (m : PM) (a1 : Int32) : PM := (if a1 < (33 : Int32) then m else (if a1 ≤ (126 : Int32) then (if (m.1 6 0 0 1) < (60 : Int32) then (w_X3_add m a1) else m) else m))
set_option maxRecDepth 100000 in
theorem t_X4_append (m : PM) (a1 : Int32) : An MX4_append 0 [some (vR 3 0 0), some (vI a1)] [] m (o_X4_append m a1) (w_X4_append m a1) := by
  unfold o_X4_append w_X4_append
  refine an_b 3 (pc2 := if a1 < (33 : Int32) then 12 else 6) (L2 := [some (vR 3 0 0), some (vI a1)]) (st2 := []) (m1 := m) rfl ?_
  refine an_ifo (c := a1 < (33 : Int32)) (fun h1 => ?_) (fun h1 => ?_)
  · exact an_thr rfl rfl rfl rfl rfl
  · refine an_b 3 (pc2 := if a1 ≤ (126 : Int32) then 22 else 12) (L2 := [some (vR 3 0 0), some (vI a1)]) (st2 := []) (m1 := m) rfl ?_
    refine an_ifo (c := a1 ≤ (126 : Int32)) (fun h2 => ?_) (fun h2 => ?_)
    · refine an_b 5 (pc2 := if (m.1 6 0 0 1) < (60 : Int32) then 44 else 34) (L2 := [some (vR 3 0 0), some (vI a1)]) (st2 := []) (m1 := m) rfl ?_
      refine an_ifo (c := (m.1 6 0 0 1) < (60 : Int32)) (fun h3 => ?_) (fun h3 => ?_)
      · refine an_b 3 (pc2 := 49) (L2 := [some (vR 3 0 0), some (vI a1)]) (st2 := [vI a1, vR 6 0 0]) (m1 := m) rfl ?_
        refine an_call (r_X3_add m a1) rfl rfl rfl rfl ?_
        exact an_ret rfl rfl rfl rfl rfl
      · exact an_thr rfl rfl rfl rfl rfl
    · exact an_thr rfl rfl rfl rfl rfl
def v_X4_carryOut (m : PM) (a1 : Int32) (a2 : Int32) : Int32 := (if ¬ (v_X4_modeOf m (v_X1_at m 11 0 a2)) = 0 then (if (v_X2_isWaiting m 0 ((v_X1_at m 11 0 a1) - (97 : Int32))) = 0 then (1 : Int32) else (0 : Int32)) else (if ¬ (v_X2_canLetGo m 0 ((v_X1_at m 11 0 a1) - (97 : Int32)) (v_X3_numberBetween m a1 a2)) = 0 then (1 : Int32) else (0 : Int32)))
def w_X4_carryOut (m : PM) (a1 : Int32) (a2 : Int32) : PM := (if ¬ (v_X4_modeOf m (v_X1_at m 11 0 a2)) = 0 then (if (v_X2_isWaiting m 0 ((v_X1_at m 11 0 a1) - (97 : Int32))) = 0 then (w_X2_takeAsking m 0 ((v_X1_at m 11 0 a1) - (97 : Int32)) (v_X3_numberBetween m a1 a2) (v_X4_modeOf m (v_X1_at m 11 0 a2))) else m) else (if ¬ (v_X2_canLetGo m 0 ((v_X1_at m 11 0 a1) - (97 : Int32)) (v_X3_numberBetween m a1 a2)) = 0 then (w_X2_letGo m 0 ((v_X1_at m 11 0 a1) - (97 : Int32)) (v_X3_numberBetween m a1 a2)) else m))
set_option maxRecDepth 100000 in
theorem r_X4_carryOut (m : PM) (a1 : Int32) (a2 : Int32) : Rn MX4_carryOut [vR 3 0 0, vI a1, vI a2] m (some (vI (v_X4_carryOut m a1 a2))) (w_X4_carryOut m a1 a2) := by
  refine rn_of [some (vR 3 0 0), some (vI a1), some (vI a2), none, none, none] rfl ?_
  unfold v_X4_carryOut w_X4_carryOut
  refine an_b 4 (pc2 := 8) (L2 := [some (vR 3 0 0), some (vI a1), some (vI a2), none, none, none]) (st2 := [vI a1, vR 1 11 0]) (m1 := m) rfl ?_
  refine an_call (r_X1_at m 11 0 a1) rfl rfl rfl rfl ?_
  refine an_b 7 (pc2 := 21) (L2 := [some (vR 3 0 0), some (vI a1), some (vI a2), some (vI ((v_X1_at m 11 0 a1) - (97 : Int32))), none, none]) (st2 := [vI a2, vI a1, vR 6 0 0]) (m1 := m) rfl ?_
  refine an_call (r_X3_numberBetween m a1 a2) rfl rfl rfl rfl ?_
  refine an_b 5 (pc2 := 34) (L2 := [some (vR 3 0 0), some (vI a1), some (vI a2), some (vI ((v_X1_at m 11 0 a1) - (97 : Int32))), some (vI (v_X3_numberBetween m a1 a2)), none]) (st2 := [vI a2, vR 1 11 0]) (m1 := m) rfl ?_
  refine an_call (r_X1_at m 11 0 a2) rfl rfl rfl rfl ?_
  refine an_call (r_X4_modeOf m (v_X1_at m 11 0 a2)) rfl rfl rfl rfl ?_
  refine an_b 3 (pc2 := if ¬ (v_X4_modeOf m (v_X1_at m 11 0 a2)) = 0 then 75 else 47) (L2 := [some (vR 3 0 0), some (vI a1), some (vI a2), some (vI ((v_X1_at m 11 0 a1) - (97 : Int32))), some (vI (v_X3_numberBetween m a1 a2)), some (vI (v_X4_modeOf m (v_X1_at m 11 0 a2)))]) (st2 := []) (m1 := m) rfl ?_
  refine an_ifim (c := ¬ (v_X4_modeOf m (v_X1_at m 11 0 a2)) = 0) (fun h1 => ?_) (fun h1 => ?_)
  · refine an_b 3 (pc2 := 80) (L2 := [some (vR 3 0 0), some (vI a1), some (vI a2), some (vI ((v_X1_at m 11 0 a1) - (97 : Int32))), some (vI (v_X3_numberBetween m a1 a2)), some (vI (v_X4_modeOf m (v_X1_at m 11 0 a2)))]) (st2 := [vI ((v_X1_at m 11 0 a1) - (97 : Int32)), vR 0 0 0]) (m1 := m) rfl ?_
    refine an_call (r_X2_isWaiting m 0 ((v_X1_at m 11 0 a1) - (97 : Int32))) rfl rfl rfl rfl ?_
    refine an_b 1 (pc2 := if (v_X2_isWaiting m 0 ((v_X1_at m 11 0 a1) - (97 : Int32))) = 0 then 88 else 86) (L2 := [some (vR 3 0 0), some (vI a1), some (vI a2), some (vI ((v_X1_at m 11 0 a1) - (97 : Int32))), some (vI (v_X3_numberBetween m a1 a2)), some (vI (v_X4_modeOf m (v_X1_at m 11 0 a2)))]) (st2 := []) (m1 := m) rfl ?_
    refine an_ifim (c := (v_X2_isWaiting m 0 ((v_X1_at m 11 0 a1) - (97 : Int32))) = 0) (fun h2 => ?_) (fun h2 => ?_)
    · refine an_b 5 (pc2 := 97) (L2 := [some (vR 3 0 0), some (vI a1), some (vI a2), some (vI ((v_X1_at m 11 0 a1) - (97 : Int32))), some (vI (v_X3_numberBetween m a1 a2)), some (vI (v_X4_modeOf m (v_X1_at m 11 0 a2)))]) (st2 := [vI (v_X4_modeOf m (v_X1_at m 11 0 a2)), vI (v_X3_numberBetween m a1 a2), vI ((v_X1_at m 11 0 a1) - (97 : Int32)), vR 0 0 0]) (m1 := m) rfl ?_
      refine an_call (r_X2_takeAsking m 0 ((v_X1_at m 11 0 a1) - (97 : Int32)) (v_X3_numberBetween m a1 a2) (v_X4_modeOf m (v_X1_at m 11 0 a2))) rfl rfl rfl rfl ?_
      refine an_b 2 (pc2 := 102) (L2 := [some (vR 3 0 0), some (vI a1), some (vI a2), some (vI ((v_X1_at m 11 0 a1) - (97 : Int32))), some (vI (v_X3_numberBetween m a1 a2)), some (vI (v_X4_modeOf m (v_X1_at m 11 0 a2)))]) (st2 := [vI (1 : Int32)]) (m1 := (w_X2_takeAsking m 0 ((v_X1_at m 11 0 a1) - (97 : Int32)) (v_X3_numberBetween m a1 a2) (v_X4_modeOf m (v_X1_at m 11 0 a2)))) rfl ?_
      exact an_ret rfl rfl rfl rfl rfl
    · refine an_b 1 (pc2 := 87) (L2 := [some (vR 3 0 0), some (vI a1), some (vI a2), some (vI ((v_X1_at m 11 0 a1) - (97 : Int32))), some (vI (v_X3_numberBetween m a1 a2)), some (vI (v_X4_modeOf m (v_X1_at m 11 0 a2)))]) (st2 := [vI (0 : Int32)]) (m1 := m) rfl ?_
      exact an_ret rfl rfl rfl rfl rfl
  · refine an_b 4 (pc2 := 54) (L2 := [some (vR 3 0 0), some (vI a1), some (vI a2), some (vI ((v_X1_at m 11 0 a1) - (97 : Int32))), some (vI (v_X3_numberBetween m a1 a2)), some (vI (v_X4_modeOf m (v_X1_at m 11 0 a2)))]) (st2 := [vI (v_X3_numberBetween m a1 a2), vI ((v_X1_at m 11 0 a1) - (97 : Int32)), vR 0 0 0]) (m1 := m) rfl ?_
    refine an_call (r_X2_canLetGo m 0 ((v_X1_at m 11 0 a1) - (97 : Int32)) (v_X3_numberBetween m a1 a2)) rfl rfl rfl rfl ?_
    refine an_b 1 (pc2 := if ¬ (v_X2_canLetGo m 0 ((v_X1_at m 11 0 a1) - (97 : Int32)) (v_X3_numberBetween m a1 a2)) = 0 then 62 else 60) (L2 := [some (vR 3 0 0), some (vI a1), some (vI a2), some (vI ((v_X1_at m 11 0 a1) - (97 : Int32))), some (vI (v_X3_numberBetween m a1 a2)), some (vI (v_X4_modeOf m (v_X1_at m 11 0 a2)))]) (st2 := []) (m1 := m) rfl ?_
    refine an_ifim (c := ¬ (v_X2_canLetGo m 0 ((v_X1_at m 11 0 a1) - (97 : Int32)) (v_X3_numberBetween m a1 a2)) = 0) (fun h3 => ?_) (fun h3 => ?_)
    · refine an_b 4 (pc2 := 69) (L2 := [some (vR 3 0 0), some (vI a1), some (vI a2), some (vI ((v_X1_at m 11 0 a1) - (97 : Int32))), some (vI (v_X3_numberBetween m a1 a2)), some (vI (v_X4_modeOf m (v_X1_at m 11 0 a2)))]) (st2 := [vI (v_X3_numberBetween m a1 a2), vI ((v_X1_at m 11 0 a1) - (97 : Int32)), vR 0 0 0]) (m1 := m) rfl ?_
      refine an_call (r_X2_letGo m 0 ((v_X1_at m 11 0 a1) - (97 : Int32)) (v_X3_numberBetween m a1 a2)) rfl rfl rfl rfl ?_
      refine an_b 2 (pc2 := 74) (L2 := [some (vR 3 0 0), some (vI a1), some (vI a2), some (vI ((v_X1_at m 11 0 a1) - (97 : Int32))), some (vI (v_X3_numberBetween m a1 a2)), some (vI (v_X4_modeOf m (v_X1_at m 11 0 a2)))]) (st2 := [vI (1 : Int32)]) (m1 := (w_X2_letGo m 0 ((v_X1_at m 11 0 a1) - (97 : Int32)) (v_X3_numberBetween m a1 a2))) rfl ?_
      exact an_ret rfl rfl rfl rfl rfl
    · refine an_b 1 (pc2 := 61) (L2 := [some (vR 3 0 0), some (vI a1), some (vI a2), some (vI ((v_X1_at m 11 0 a1) - (97 : Int32))), some (vI (v_X3_numberBetween m a1 a2)), some (vI (v_X4_modeOf m (v_X1_at m 11 0 a2)))]) (st2 := [vI (0 : Int32)]) (m1 := m) rfl ?_
      exact an_ret rfl rfl rfl rfl rfl
def b_X4_run_1 (m : PM)   (j1 : Nat) (s1 : Int32 × Int32 × PM) : (Int32 × Int32 × PM) ⊕ (Int32 × Int32 × PM) := if (s1.2.2.1 6 0 0 1) ≤ s1.2.1 then .inr (s1.1, s1.2.1, s1.2.2) else if ¬ (v_X4_carryOut s1.2.2 s1.2.1 (v_X3_deedFrom s1.2.2 s1.2.1)) = 0 then .inl (s1.1 + (1 : Int32), ((v_X3_deedFrom s1.2.2 s1.2.1) + (2 : Int32)), (w_X4_carryOut s1.2.2 s1.2.1 (v_X3_deedFrom s1.2.2 s1.2.1))) else .inr (s1.1, s1.2.1, (w_X4_carryOut s1.2.2 s1.2.1 (v_X3_deedFrom s1.2.2 s1.2.1)))
def o_X4_run (m : PM)  : OC := (if ¬ (v_X3_isComplete m) = 0 then (.inl (some (vI ((lqv (lq (b_X4_run_1 m) 60 0 ((0 : Int32), (0 : Int32), (w_X0_save m 0)))).1)))) else (.inr 50))
def w_X4_run (m : PM)  : PM := (if ¬ (v_X3_isComplete m) = 0 then (w_X3_empty ((lqv (lq (b_X4_run_1 m) 60 0 ((0 : Int32), (0 : Int32), (w_X0_save m 0)))).2.2)) else m)
set_option maxRecDepth 100000 in
theorem t_X4_run (m : PM)  : An MX4_run 0 [some (vR 3 0 0), none, none, none, none] [] m (o_X4_run m) (w_X4_run m) := by
  unfold o_X4_run w_X4_run
  refine an_b 2 (pc2 := 4) (L2 := [some (vR 3 0 0), none, none, none, none]) (st2 := [vR 6 0 0]) (m1 := m) rfl ?_
  refine an_call (r_X3_isComplete m) rfl rfl rfl rfl ?_
  refine an_b 1 (pc2 := if ¬ (v_X3_isComplete m) = 0 then 20 else 10) (L2 := [some (vR 3 0 0), none, none, none, none]) (st2 := []) (m1 := m) rfl ?_
  refine an_ifo (c := ¬ (v_X3_isComplete m) = 0) (fun h1 => ?_) (fun h1 => ?_)
  · refine an_b 4 (pc2 := 28) (L2 := [some (vR 3 0 0), none, none, none, none]) (st2 := [vR 0 0 0, vR 4 0 0]) (m1 := m) rfl ?_
    refine an_call (r_X0_save m 0) rfl rfl rfl rfl ?_
    refine an_b 6 (pc2 := 37) (L2 := [some (vR 3 0 0), some (vI (0 : Int32)), some (vI (0 : Int32)), some (vI (0 : Int32)), none]) (st2 := []) (m1 := (w_X0_save m 0)) rfl ?_
    refine re_lq (σ := Int32 × Int32 × PM) (ρ := Int32 × Int32 × PM) (b_X4_run_1 m) (fun j1 s1 => (37, [some (vR 3 0 0), some (vI s1.1), some (vI s1.2.1), some (vI (nI j1)), none], [], s1.2.2)) 60 (fun x9 => (91, [some (vR 3 0 0), some (vI ((lqv x9).1)), none, none, none], [], (lqv x9).2.2)) (fun j1 s1 hj1 v9 m9 hc1 hr1 => ?_) (fun s1 v9 m9 K1 => ?_) 60 0 ((0 : Int32), (0 : Int32), (w_X0_save m 0)) (Nat.add_zero _) _ _ ?_
    · show An MX4_run 37 [some (vR 3 0 0), some (vI s1.1), some (vI s1.2.1), some (vI (nI j1)), none] [] s1.2.2 v9 m9
      refine an_b 3 (pc2 := if (60 : Int32) ≤ (nI j1) then 91 else 43) (L2 := [some (vR 3 0 0), some (vI s1.1), some (vI s1.2.1), some (vI (nI j1)), none]) (st2 := []) (m1 := s1.2.2) rfl ?_
      refine an_f (nI_ge (a := j1) (b := 60) (by omega) (by omega)) ?_
      refine an_b 5 (pc2 := if (s1.2.2.1 6 0 0 1) ≤ s1.2.1 then 91 else 54) (L2 := [some (vR 3 0 0), some (vI s1.1), some (vI s1.2.1), some (vI (nI j1)), none]) (st2 := []) (m1 := s1.2.2) rfl ?_
      refine an_if (c := (s1.2.2.1 6 0 0 1) ≤ s1.2.1) (fun h2 => ?_) (fun h2 => ?_)
      · refine an_weak (L := [some (vR 3 0 0), some (vI s1.1), none, none, none]) (⟨rfl, rfl, trivial⟩) ?_
        exact hr1 _ (by unfold b_X4_run_1; rw [if_pos h2])
      · refine an_b 3 (pc2 := 59) (L2 := [some (vR 3 0 0), some (vI s1.1), some (vI s1.2.1), some (vI (nI j1)), none]) (st2 := [vI s1.2.1, vR 6 0 0]) (m1 := s1.2.2) rfl ?_
        refine an_call (r_X3_deedFrom s1.2.2 s1.2.1) rfl rfl rfl rfl ?_
        refine an_b 4 (pc2 := 68) (L2 := [some (vR 3 0 0), some (vI s1.1), some (vI s1.2.1), some (vI (nI j1)), some (vI (v_X3_deedFrom s1.2.2 s1.2.1))]) (st2 := [vI (v_X3_deedFrom s1.2.2 s1.2.1), vI s1.2.1, vR 3 0 0]) (m1 := s1.2.2) rfl ?_
        refine an_call (r_X4_carryOut s1.2.2 s1.2.1 (v_X3_deedFrom s1.2.2 s1.2.1)) rfl rfl rfl rfl ?_
        refine an_b 1 (pc2 := if ¬ (v_X4_carryOut s1.2.2 s1.2.1 (v_X3_deedFrom s1.2.2 s1.2.1)) = 0 then 77 else 74) (L2 := [some (vR 3 0 0), some (vI s1.1), some (vI s1.2.1), some (vI (nI j1)), some (vI (v_X3_deedFrom s1.2.2 s1.2.1))]) (st2 := []) (m1 := (w_X4_carryOut s1.2.2 s1.2.1 (v_X3_deedFrom s1.2.2 s1.2.1))) rfl ?_
        refine an_if (c := ¬ (v_X4_carryOut s1.2.2 s1.2.1 (v_X3_deedFrom s1.2.2 s1.2.1)) = 0) (fun h3 => ?_) (fun h3 => ?_)
        · refine an_b 7 (pc2 := 37) (L2 := [some (vR 3 0 0), some (vI (s1.1 + (1 : Int32))), some (vI ((v_X3_deedFrom s1.2.2 s1.2.1) + (2 : Int32))), some (vI ((nI j1) + (1 : Int32))), some (vI (v_X3_deedFrom s1.2.2 s1.2.1))]) (st2 := []) (m1 := (w_X4_carryOut s1.2.2 s1.2.1 (v_X3_deedFrom s1.2.2 s1.2.1))) rfl ?_
          refine an_weak (L := [some (vR 3 0 0), some (vI (s1.1 + (1 : Int32))), some (vI ((v_X3_deedFrom s1.2.2 s1.2.1) + (2 : Int32))), some (vI ((nI j1) + (1 : Int32))), none]) (⟨rfl, rfl, rfl, rfl, trivial⟩) ?_
          refine an_cL (K := [some (vR 3 0 0), some (vI (s1.1 + (1 : Int32))), some (vI ((v_X3_deedFrom s1.2.2 s1.2.1) + (2 : Int32))), some (vI (nI (j1 + 1))), none]) (by simp only [nI_1]) ?_
          exact hc1 _ (by unfold b_X4_run_1; rw [if_neg h2, if_pos h3])
        · refine an_b 1 (pc2 := 91) (L2 := [some (vR 3 0 0), some (vI s1.1), some (vI s1.2.1), some (vI (nI j1)), some (vI (v_X3_deedFrom s1.2.2 s1.2.1))]) (st2 := []) (m1 := (w_X4_carryOut s1.2.2 s1.2.1 (v_X3_deedFrom s1.2.2 s1.2.1))) rfl ?_
          refine an_weak (L := [some (vR 3 0 0), some (vI s1.1), none, none, none]) (⟨rfl, rfl, trivial⟩) ?_
          exact hr1 _ (by unfold b_X4_run_1; rw [if_neg h2, if_neg h3])
    · show An MX4_run 37 [some (vR 3 0 0), some (vI s1.1), some (vI s1.2.1), some (vI (nI 60)), none] [] s1.2.2 v9 m9
      refine an_b 3 (pc2 := if (60 : Int32) ≤ (nI 60) then 91 else 43) (L2 := [some (vR 3 0 0), some (vI s1.1), some (vI s1.2.1), some (vI (nI 60)), none]) (st2 := []) (m1 := s1.2.2) rfl ?_
      refine an_t (nI_le (a := 60) (b := 60) (by omega) (by omega)) ?_
      refine an_weak (L := [some (vR 3 0 0), some (vI s1.1), none, none, none]) (⟨rfl, rfl, trivial⟩) ?_
      exact K1
    show An MX4_run 91 [some (vR 3 0 0), some (vI ((lqv (lq (b_X4_run_1 m) 60 0 ((0 : Int32), (0 : Int32), (w_X0_save m 0)))).1)), none, none, none] [] (lqv (lq (b_X4_run_1 m) 60 0 ((0 : Int32), (0 : Int32), (w_X0_save m 0)))).2.2 _ _
    refine an_b 2 (pc2 := 95) (L2 := [some (vR 3 0 0), some (vI ((lqv (lq (b_X4_run_1 m) 60 0 ((0 : Int32), (0 : Int32), (w_X0_save m 0)))).1)), none, none, none]) (st2 := [vR 6 0 0]) (m1 := (lqv (lq (b_X4_run_1 m) 60 0 ((0 : Int32), (0 : Int32), (w_X0_save m 0)))).2.2) rfl ?_
    refine an_call (r_X3_empty ((lqv (lq (b_X4_run_1 m) 60 0 ((0 : Int32), (0 : Int32), (w_X0_save m 0)))).2.2)) rfl rfl rfl rfl ?_
    refine an_b 2 (pc2 := 100) (L2 := [some (vR 3 0 0), some (vI ((lqv (lq (b_X4_run_1 m) 60 0 ((0 : Int32), (0 : Int32), (w_X0_save m 0)))).1)), none, none, none]) (st2 := [vI ((lqv (lq (b_X4_run_1 m) 60 0 ((0 : Int32), (0 : Int32), (w_X0_save m 0)))).1)]) (m1 := (w_X3_empty ((lqv (lq (b_X4_run_1 m) 60 0 ((0 : Int32), (0 : Int32), (w_X0_save m 0)))).2.2))) rfl ?_
    exact an_ret rfl rfl rfl rfl rfl
  · exact an_thr rfl rfl rfl rfl rfl
def o_X4_undo (m : PM)  : OC := (if ¬ (m.1 4 0 0 2) = 0 then (.inl (some (vI (v_X0_restore m 0)))) else (.inr 58))
def w_X4_undo (m : PM)  : PM := (if ¬ (m.1 4 0 0 2) = 0 then (w_X0_restore m 0) else m)
set_option maxRecDepth 100000 in
theorem t_X4_undo (m : PM)  : An MX4_undo 0 [some (vR 3 0 0)] [] m (o_X4_undo m) (w_X4_undo m) := by
  unfold o_X4_undo w_X4_undo
  refine an_b 4 (pc2 := if ¬ (m.1 4 0 0 2) = 0 then 20 else 10) (L2 := [some (vR 3 0 0)]) (st2 := []) (m1 := m) rfl ?_
  refine an_ifo (c := ¬ (m.1 4 0 0 2) = 0) (fun h1 => ?_) (fun h1 => ?_)
  · refine an_b 4 (pc2 := 28) (L2 := [some (vR 3 0 0)]) (st2 := [vR 0 0 0, vR 4 0 0]) (m1 := m) rfl ?_
    refine an_call (r_X0_restore m 0) rfl rfl rfl rfl ?_
    exact an_ret rfl rfl rfl rfl rfl
  · exact an_thr rfl rfl rfl rfl rfl
def o_X4_lock (m : PM) (a1 : Int32) (a2 : Int32) : OC := (if (v_X4_isHand m a1) = 0 then (.inr 40) else (if ¬ (v_X4_isRow m a2) = 0 then (.inl (some (vI (v_X1_at m 0 0 (v_X4_cell m a1 a2))))) else (.inr 40)))
set_option maxRecDepth 100000 in
theorem t_X4_lock (m : PM) (a1 : Int32) (a2 : Int32) : An MX4_lock 0 [some (vR 3 0 0), some (vI a1), some (vI a2)] [] m (o_X4_lock m a1 a2) m := by
  unfold o_X4_lock
  refine an_b 1 (pc2 := 1) (L2 := [some (vR 3 0 0), some (vI a1), some (vI a2)]) (st2 := [vI a1]) (m1 := m) rfl ?_
  refine an_call (r_X4_isHand m a1) rfl rfl rfl rfl ?_
  refine an_b 1 (pc2 := if (v_X4_isHand m a1) = 0 then 14 else 7) (L2 := [some (vR 3 0 0), some (vI a1), some (vI a2)]) (st2 := []) (m1 := m) rfl ?_
  refine an_ifp (c := (v_X4_isHand m a1) = 0) (fun h1 => ?_) (fun h1 => ?_)
  · exact an_thr rfl rfl rfl rfl rfl
  · refine an_b 1 (pc2 := 8) (L2 := [some (vR 3 0 0), some (vI a1), some (vI a2)]) (st2 := [vI a2]) (m1 := m) rfl ?_
    refine an_call (r_X4_isRow m a2) rfl rfl rfl rfl ?_
    refine an_b 1 (pc2 := if ¬ (v_X4_isRow m a2) = 0 then 24 else 14) (L2 := [some (vR 3 0 0), some (vI a1), some (vI a2)]) (st2 := []) (m1 := m) rfl ?_
    refine an_ifp (c := ¬ (v_X4_isRow m a2) = 0) (fun h2 => ?_) (fun h2 => ?_)
    · refine an_b 5 (pc2 := 33) (L2 := [some (vR 3 0 0), some (vI a1), some (vI a2)]) (st2 := [vI a2, vI a1, vR 1 0 0]) (m1 := m) rfl ?_
      refine an_call (r_X4_cell m a1 a2) rfl rfl rfl rfl ?_
      refine an_call (r_X1_at m 0 0 (v_X4_cell m a1 a2)) rfl rfl rfl rfl ?_
      exact an_ret rfl rfl rfl rfl rfl
    · exact an_thr rfl rfl rfl rfl rfl
def o_X4_hand (m : PM) (a1 : Int32) (a2 : Int32) : OC := (if ¬ (v_X4_isHand m a1) = 0 then (if a2 < 0 then (.inr 50) else (if a2 < (9 : Int32) then (.inl (some (vI (v_X2_handPart m 0 a1 a2)))) else (.inr 50))) else (.inr 40))
set_option maxRecDepth 100000 in
theorem t_X4_hand (m : PM) (a1 : Int32) (a2 : Int32) : An MX4_hand 0 [some (vR 3 0 0), some (vI a1), some (vI a2)] [] m (o_X4_hand m a1 a2) m := by
  unfold o_X4_hand
  refine an_b 1 (pc2 := 1) (L2 := [some (vR 3 0 0), some (vI a1), some (vI a2)]) (st2 := [vI a1]) (m1 := m) rfl ?_
  refine an_call (r_X4_isHand m a1) rfl rfl rfl rfl ?_
  refine an_b 1 (pc2 := if ¬ (v_X4_isHand m a1) = 0 then 17 else 7) (L2 := [some (vR 3 0 0), some (vI a1), some (vI a2)]) (st2 := []) (m1 := m) rfl ?_
  refine an_ifp (c := ¬ (v_X4_isHand m a1) = 0) (fun h1 => ?_) (fun h1 => ?_)
  · refine an_b 2 (pc2 := if a2 < 0 then 27 else 21) (L2 := [some (vR 3 0 0), some (vI a1), some (vI a2)]) (st2 := []) (m1 := m) rfl ?_
    refine an_ifp (c := a2 < 0) (fun h2 => ?_) (fun h2 => ?_)
    · exact an_thr rfl rfl rfl rfl rfl
    · refine an_b 3 (pc2 := if a2 < (9 : Int32) then 37 else 27) (L2 := [some (vR 3 0 0), some (vI a1), some (vI a2)]) (st2 := []) (m1 := m) rfl ?_
      refine an_ifp (c := a2 < (9 : Int32)) (fun h3 => ?_) (fun h3 => ?_)
      · refine an_b 4 (pc2 := 43) (L2 := [some (vR 3 0 0), some (vI a1), some (vI a2)]) (st2 := [vI a2, vI a1, vR 0 0 0]) (m1 := m) rfl ?_
        refine an_call (r_X2_handPart m 0 a1 a2) rfl rfl rfl rfl ?_
        exact an_ret rfl rfl rfl rfl rfl
      · exact an_thr rfl rfl rfl rfl rfl
  · exact an_thr rfl rfl rfl rfl rfl
def o_X4_row (m : PM) (a1 : Int32) (a2 : Int32) : OC := (if ¬ (v_X4_isRow m a1) = 0 then (if a2 < 0 then (.inr 50) else (if a2 < (6 : Int32) then (.inl (some (vI (v_X2_rowPart m 0 a1 a2)))) else (.inr 50))) else (.inr 40))
set_option maxRecDepth 100000 in
theorem t_X4_row (m : PM) (a1 : Int32) (a2 : Int32) : An MX4_row 0 [some (vR 3 0 0), some (vI a1), some (vI a2)] [] m (o_X4_row m a1 a2) m := by
  unfold o_X4_row
  refine an_b 1 (pc2 := 1) (L2 := [some (vR 3 0 0), some (vI a1), some (vI a2)]) (st2 := [vI a1]) (m1 := m) rfl ?_
  refine an_call (r_X4_isRow m a1) rfl rfl rfl rfl ?_
  refine an_b 1 (pc2 := if ¬ (v_X4_isRow m a1) = 0 then 17 else 7) (L2 := [some (vR 3 0 0), some (vI a1), some (vI a2)]) (st2 := []) (m1 := m) rfl ?_
  refine an_ifp (c := ¬ (v_X4_isRow m a1) = 0) (fun h1 => ?_) (fun h1 => ?_)
  · refine an_b 2 (pc2 := if a2 < 0 then 27 else 21) (L2 := [some (vR 3 0 0), some (vI a1), some (vI a2)]) (st2 := []) (m1 := m) rfl ?_
    refine an_ifp (c := a2 < 0) (fun h2 => ?_) (fun h2 => ?_)
    · exact an_thr rfl rfl rfl rfl rfl
    · refine an_b 3 (pc2 := if a2 < (6 : Int32) then 37 else 27) (L2 := [some (vR 3 0 0), some (vI a1), some (vI a2)]) (st2 := []) (m1 := m) rfl ?_
      refine an_ifp (c := a2 < (6 : Int32)) (fun h3 => ?_) (fun h3 => ?_)
      · refine an_b 4 (pc2 := 43) (L2 := [some (vR 3 0 0), some (vI a1), some (vI a2)]) (st2 := [vI a2, vI a1, vR 0 0 0]) (m1 := m) rfl ?_
        refine an_call (r_X2_rowPart m 0 a1 a2) rfl rfl rfl rfl ?_
        exact an_ret rfl rfl rfl rfl rfl
      · exact an_thr rfl rfl rfl rfl rfl
  · exact an_thr rfl rfl rfl rfl rfl
def o_X4_request (m : PM) (a1 : Int32) (a2 : Int32) (a3 : Int32) : OC := (if ¬ (v_X4_isRow m a1) = 0 then (if a2 < 0 then (.inr 50) else (if (8 : Int32) ≤ a2 then (.inr 50) else (if a3 < 0 then (.inr 50) else (if a3 < (2 : Int32) then (.inl (some (vI (v_X2_requestPart m 0 a1 a2 a3)))) else (.inr 50))))) else (.inr 40))
set_option maxRecDepth 100000 in
theorem t_X4_request (m : PM) (a1 : Int32) (a2 : Int32) (a3 : Int32) : An MX4_request 0 [some (vR 3 0 0), some (vI a1), some (vI a2), some (vI a3)] [] m (o_X4_request m a1 a2 a3) m := by
  unfold o_X4_request
  refine an_b 1 (pc2 := 1) (L2 := [some (vR 3 0 0), some (vI a1), some (vI a2), some (vI a3)]) (st2 := [vI a1]) (m1 := m) rfl ?_
  refine an_call (r_X4_isRow m a1) rfl rfl rfl rfl ?_
  refine an_b 1 (pc2 := if ¬ (v_X4_isRow m a1) = 0 then 17 else 7) (L2 := [some (vR 3 0 0), some (vI a1), some (vI a2), some (vI a3)]) (st2 := []) (m1 := m) rfl ?_
  refine an_ifp (c := ¬ (v_X4_isRow m a1) = 0) (fun h1 => ?_) (fun h1 => ?_)
  · refine an_b 2 (pc2 := if a2 < 0 then 36 else 21) (L2 := [some (vR 3 0 0), some (vI a1), some (vI a2), some (vI a3)]) (st2 := []) (m1 := m) rfl ?_
    refine an_ifp (c := a2 < 0) (fun h2 => ?_) (fun h2 => ?_)
    · exact an_thr rfl rfl rfl rfl rfl
    · refine an_b 3 (pc2 := if (8 : Int32) ≤ a2 then 36 else 27) (L2 := [some (vR 3 0 0), some (vI a1), some (vI a2), some (vI a3)]) (st2 := []) (m1 := m) rfl ?_
      refine an_ifp (c := (8 : Int32) ≤ a2) (fun h3 => ?_) (fun h3 => ?_)
      · exact an_thr rfl rfl rfl rfl rfl
      · refine an_b 2 (pc2 := if a3 < 0 then 36 else 31) (L2 := [some (vR 3 0 0), some (vI a1), some (vI a2), some (vI a3)]) (st2 := []) (m1 := m) rfl ?_
        refine an_ifp (c := a3 < 0) (fun h4 => ?_) (fun h4 => ?_)
        · exact an_thr rfl rfl rfl rfl rfl
        · refine an_b 3 (pc2 := if a3 < (2 : Int32) then 46 else 36) (L2 := [some (vR 3 0 0), some (vI a1), some (vI a2), some (vI a3)]) (st2 := []) (m1 := m) rfl ?_
          refine an_ifp (c := a3 < (2 : Int32)) (fun h5 => ?_) (fun h5 => ?_)
          · refine an_b 5 (pc2 := 53) (L2 := [some (vR 3 0 0), some (vI a1), some (vI a2), some (vI a3)]) (st2 := [vI a3, vI a2, vI a1, vR 0 0 0]) (m1 := m) rfl ?_
            refine an_call (r_X2_requestPart m 0 a1 a2 a3) rfl rfl rfl rfl ?_
            exact an_ret rfl rfl rfl rfl rfl
          · exact an_thr rfl rfl rfl rfl rfl
  · exact an_thr rfl rfl rfl rfl rfl
def o_X4_count (m : PM) (a1 : Int32) : OC := (if a1 < 0 then (.inr 50) else (if a1 < (10 : Int32) then (.inl (some (vI (v_X4_numberOf m a1)))) else (.inr 50)))
set_option maxRecDepth 100000 in
theorem t_X4_count (m : PM) (a1 : Int32) : An MX4_count 0 [some (vR 3 0 0), some (vI a1)] [] m (o_X4_count m a1) m := by
  unfold o_X4_count
  refine an_b 2 (pc2 := if a1 < 0 then 10 else 4) (L2 := [some (vR 3 0 0), some (vI a1)]) (st2 := []) (m1 := m) rfl ?_
  refine an_ifp (c := a1 < 0) (fun h1 => ?_) (fun h1 => ?_)
  · exact an_thr rfl rfl rfl rfl rfl
  · refine an_b 3 (pc2 := if a1 < (10 : Int32) then 20 else 10) (L2 := [some (vR 3 0 0), some (vI a1)]) (st2 := []) (m1 := m) rfl ?_
    refine an_ifp (c := a1 < (10 : Int32)) (fun h2 => ?_) (fun h2 => ?_)
    · refine an_b 2 (pc2 := 22) (L2 := [some (vR 3 0 0), some (vI a1)]) (st2 := [vI a1, vR 3 0 0]) (m1 := m) rfl ?_
      refine an_call (r_X4_numberOf m a1) rfl rfl rfl rfl ?_
      exact an_ret rfl rfl rfl rfl rfl
    · exact an_thr rfl rfl rfl rfl rfl
def o_X4_setting (m : PM) (a1 : Int32) : OC := (if ¬ (v_X4_isSetting m a1) = 0 then (.inl (some (vI (v_X1_at m 10 0 a1)))) else (.inr 40))
set_option maxRecDepth 100000 in
theorem t_X4_setting (m : PM) (a1 : Int32) : An MX4_setting 0 [some (vR 3 0 0), some (vI a1)] [] m (o_X4_setting m a1) m := by
  unfold o_X4_setting
  refine an_b 1 (pc2 := 1) (L2 := [some (vR 3 0 0), some (vI a1)]) (st2 := [vI a1]) (m1 := m) rfl ?_
  refine an_call (r_X4_isSetting m a1) rfl rfl rfl rfl ?_
  refine an_b 1 (pc2 := if ¬ (v_X4_isSetting m a1) = 0 then 17 else 7) (L2 := [some (vR 3 0 0), some (vI a1)]) (st2 := []) (m1 := m) rfl ?_
  refine an_ifp (c := ¬ (v_X4_isSetting m a1) = 0) (fun h1 => ?_) (fun h1 => ?_)
  · refine an_b 4 (pc2 := 25) (L2 := [some (vR 3 0 0), some (vI a1)]) (st2 := [vI a1, vR 1 10 0]) (m1 := m) rfl ?_
    refine an_call (r_X1_at m 10 0 a1) rfl rfl rfl rfl ?_
    exact an_ret rfl rfl rfl rfl rfl
  · exact an_thr rfl rfl rfl rfl rfl
def o_X4_ifAsked (m : PM) (a1 : Int32) (a2 : Int32) (a3 : Int32) (a4 : Int32) : OC := (if (v_X4_isHand m a1) = 0 then (.inr 40) else (if ¬ (v_X4_isRow m a2) = 0 then (if (v_X4_isMode m a3) = 0 then (.inr 50) else (if a4 < 0 then (.inr 50) else (if a4 < (3 : Int32) then (.inl (some (vI (v_X4_trialPart (w_X4_tryAsking m a1 a2 a3) (v_X4_tryAsking m a1 a2 a3) a4)))) else (.inr 50)))) else (.inr 40)))
def w_X4_ifAsked (m : PM) (a1 : Int32) (a2 : Int32) (a3 : Int32) (a4 : Int32) : PM := (if (v_X4_isHand m a1) = 0 then m else (if ¬ (v_X4_isRow m a2) = 0 then (if (v_X4_isMode m a3) = 0 then m else (if a4 < 0 then m else (if a4 < (3 : Int32) then (w_X4_tryAsking m a1 a2 a3) else m))) else m))
set_option maxRecDepth 100000 in
theorem t_X4_ifAsked (m : PM) (a1 : Int32) (a2 : Int32) (a3 : Int32) (a4 : Int32) : An MX4_ifAsked 0 [some (vR 3 0 0), some (vI a1), some (vI a2), some (vI a3), some (vI a4)] [] m (o_X4_ifAsked m a1 a2 a3 a4) (w_X4_ifAsked m a1 a2 a3 a4) := by
  unfold o_X4_ifAsked w_X4_ifAsked
  refine an_b 1 (pc2 := 1) (L2 := [some (vR 3 0 0), some (vI a1), some (vI a2), some (vI a3), some (vI a4)]) (st2 := [vI a1]) (m1 := m) rfl ?_
  refine an_call (r_X4_isHand m a1) rfl rfl rfl rfl ?_
  refine an_b 1 (pc2 := if (v_X4_isHand m a1) = 0 then 14 else 7) (L2 := [some (vR 3 0 0), some (vI a1), some (vI a2), some (vI a3), some (vI a4)]) (st2 := []) (m1 := m) rfl ?_
  refine an_ifo (c := (v_X4_isHand m a1) = 0) (fun h1 => ?_) (fun h1 => ?_)
  · exact an_thr rfl rfl rfl rfl rfl
  · refine an_b 1 (pc2 := 8) (L2 := [some (vR 3 0 0), some (vI a1), some (vI a2), some (vI a3), some (vI a4)]) (st2 := [vI a2]) (m1 := m) rfl ?_
    refine an_call (r_X4_isRow m a2) rfl rfl rfl rfl ?_
    refine an_b 1 (pc2 := if ¬ (v_X4_isRow m a2) = 0 then 24 else 14) (L2 := [some (vR 3 0 0), some (vI a1), some (vI a2), some (vI a3), some (vI a4)]) (st2 := []) (m1 := m) rfl ?_
    refine an_ifo (c := ¬ (v_X4_isRow m a2) = 0) (fun h2 => ?_) (fun h2 => ?_)
    · refine an_b 1 (pc2 := 25) (L2 := [some (vR 3 0 0), some (vI a1), some (vI a2), some (vI a3), some (vI a4)]) (st2 := [vI a3]) (m1 := m) rfl ?_
      refine an_call (r_X4_isMode m a3) rfl rfl rfl rfl ?_
      refine an_b 1 (pc2 := if (v_X4_isMode m a3) = 0 then 42 else 31) (L2 := [some (vR 3 0 0), some (vI a1), some (vI a2), some (vI a3), some (vI a4)]) (st2 := []) (m1 := m) rfl ?_
      refine an_ifo (c := (v_X4_isMode m a3) = 0) (fun h3 => ?_) (fun h3 => ?_)
      · exact an_thr rfl rfl rfl rfl rfl
      · refine an_b 2 (pc2 := if a4 < 0 then 42 else 36) (L2 := [some (vR 3 0 0), some (vI a1), some (vI a2), some (vI a3), some (vI a4)]) (st2 := []) (m1 := m) rfl ?_
        refine an_ifo (c := a4 < 0) (fun h4 => ?_) (fun h4 => ?_)
        · exact an_thr rfl rfl rfl rfl rfl
        · refine an_b 3 (pc2 := if a4 < (3 : Int32) then 52 else 42) (L2 := [some (vR 3 0 0), some (vI a1), some (vI a2), some (vI a3), some (vI a4)]) (st2 := []) (m1 := m) rfl ?_
          refine an_ifo (c := a4 < (3 : Int32)) (fun h5 => ?_) (fun h5 => ?_)
          · refine an_b 5 (pc2 := 57) (L2 := [some (vR 3 0 0), some (vI a1), some (vI a2), some (vI a3), some (vI a4)]) (st2 := [vI a3, vI a2, vI a1, vR 3 0 0, vR 3 0 0]) (m1 := m) rfl ?_
            refine an_call (r_X4_tryAsking m a1 a2 a3) rfl rfl rfl rfl ?_
            refine an_b 1 (pc2 := 62) (L2 := [some (vR 3 0 0), some (vI a1), some (vI a2), some (vI a3), some (vI a4)]) (st2 := [vI a4, vI (v_X4_tryAsking m a1 a2 a3), vR 3 0 0]) (m1 := (w_X4_tryAsking m a1 a2 a3)) rfl ?_
            refine an_call (r_X4_trialPart (w_X4_tryAsking m a1 a2 a3) (v_X4_tryAsking m a1 a2 a3) a4) rfl rfl rfl rfl ?_
            exact an_ret rfl rfl rfl rfl rfl
          · exact an_thr rfl rfl rfl rfl rfl
    · exact an_thr rfl rfl rfl rfl rfl
def o_X4_takers (m : PM) (a1 : Int32) (a2 : Int32) : OC := (if (v_X4_isHand m a1) = 0 then (.inr 40) else (if ¬ (v_X4_isRow m a2) = 0 then (.inl (some (vI (v_X2_takersOf m 0 a1 a2)))) else (.inr 40)))
set_option maxRecDepth 100000 in
theorem t_X4_takers (m : PM) (a1 : Int32) (a2 : Int32) : An MX4_takers 0 [some (vR 3 0 0), some (vI a1), some (vI a2)] [] m (o_X4_takers m a1 a2) m := by
  unfold o_X4_takers
  refine an_b 1 (pc2 := 1) (L2 := [some (vR 3 0 0), some (vI a1), some (vI a2)]) (st2 := [vI a1]) (m1 := m) rfl ?_
  refine an_call (r_X4_isHand m a1) rfl rfl rfl rfl ?_
  refine an_b 1 (pc2 := if (v_X4_isHand m a1) = 0 then 14 else 7) (L2 := [some (vR 3 0 0), some (vI a1), some (vI a2)]) (st2 := []) (m1 := m) rfl ?_
  refine an_ifp (c := (v_X4_isHand m a1) = 0) (fun h1 => ?_) (fun h1 => ?_)
  · exact an_thr rfl rfl rfl rfl rfl
  · refine an_b 1 (pc2 := 8) (L2 := [some (vR 3 0 0), some (vI a1), some (vI a2)]) (st2 := [vI a2]) (m1 := m) rfl ?_
    refine an_call (r_X4_isRow m a2) rfl rfl rfl rfl ?_
    refine an_b 1 (pc2 := if ¬ (v_X4_isRow m a2) = 0 then 24 else 14) (L2 := [some (vR 3 0 0), some (vI a1), some (vI a2)]) (st2 := []) (m1 := m) rfl ?_
    refine an_ifp (c := ¬ (v_X4_isRow m a2) = 0) (fun h2 => ?_) (fun h2 => ?_)
    · refine an_b 4 (pc2 := 30) (L2 := [some (vR 3 0 0), some (vI a1), some (vI a2)]) (st2 := [vI a2, vI a1, vR 0 0 0]) (m1 := m) rfl ?_
      refine an_call (r_X2_takersOf m 0 a1 a2) rfl rfl rfl rfl ?_
      exact an_ret rfl rfl rfl rfl rfl
    · exact an_thr rfl rfl rfl rfl rfl
def o_X4_burnsIn (m : PM) (a1 : Int32) : OC := (if ¬ (v_X4_isRow m a1) = 0 then (.inl (some (vI (v_X2_ticksToBurn m 0 a1)))) else (.inr 40))
set_option maxRecDepth 100000 in
theorem t_X4_burnsIn (m : PM) (a1 : Int32) : An MX4_burnsIn 0 [some (vR 3 0 0), some (vI a1)] [] m (o_X4_burnsIn m a1) m := by
  unfold o_X4_burnsIn
  refine an_b 1 (pc2 := 1) (L2 := [some (vR 3 0 0), some (vI a1)]) (st2 := [vI a1]) (m1 := m) rfl ?_
  refine an_call (r_X4_isRow m a1) rfl rfl rfl rfl ?_
  refine an_b 1 (pc2 := if ¬ (v_X4_isRow m a1) = 0 then 17 else 7) (L2 := [some (vR 3 0 0), some (vI a1)]) (st2 := []) (m1 := m) rfl ?_
  refine an_ifp (c := ¬ (v_X4_isRow m a1) = 0) (fun h1 => ?_) (fun h1 => ?_)
  · refine an_b 3 (pc2 := 22) (L2 := [some (vR 3 0 0), some (vI a1)]) (st2 := [vI a1, vR 0 0 0]) (m1 := m) rfl ?_
    refine an_call (r_X2_ticksToBurn m 0 a1) rfl rfl rfl rfl ?_
    exact an_ret rfl rfl rfl rfl rfl
  · exact an_thr rfl rfl rfl rfl rfl
def o_X4_waitsFor (m : PM) (a1 : Int32) : OC := (if ¬ (v_X4_isHand m a1) = 0 then (.inl (some (vI (v_X2_reach m 0 a1)))) else (.inr 40))
set_option maxRecDepth 100000 in
theorem t_X4_waitsFor (m : PM) (a1 : Int32) : An MX4_waitsFor 0 [some (vR 3 0 0), some (vI a1)] [] m (o_X4_waitsFor m a1) m := by
  unfold o_X4_waitsFor
  refine an_b 1 (pc2 := 1) (L2 := [some (vR 3 0 0), some (vI a1)]) (st2 := [vI a1]) (m1 := m) rfl ?_
  refine an_call (r_X4_isHand m a1) rfl rfl rfl rfl ?_
  refine an_b 1 (pc2 := if ¬ (v_X4_isHand m a1) = 0 then 17 else 7) (L2 := [some (vR 3 0 0), some (vI a1)]) (st2 := []) (m1 := m) rfl ?_
  refine an_ifp (c := ¬ (v_X4_isHand m a1) = 0) (fun h1 => ?_) (fun h1 => ?_)
  · refine an_b 3 (pc2 := 22) (L2 := [some (vR 3 0 0), some (vI a1)]) (st2 := [vI a1, vR 0 0 0]) (m1 := m) rfl ?_
    refine an_call (r_X2_reach m 0 a1) rfl rfl rfl rfl ?_
    exact an_ret rfl rfl rfl rfl rfl
  · exact an_thr rfl rfl rfl rfl rfl
def v_X4_grantedShare (m : PM)  : UInt64 := (v_X2_shareGranted m 0)
set_option maxRecDepth 100000 in
theorem r_X4_grantedShare (m : PM)  : Rn MX4_grantedShare [vR 3 0 0] m (some (vD (v_X4_grantedShare m))) m := by
  refine rn_of [some (vR 3 0 0)] rfl ?_
  unfold v_X4_grantedShare
  refine an_b 2 (pc2 := 4) (L2 := [some (vR 3 0 0)]) (st2 := [vR 0 0 0]) (m1 := m) rfl ?_
  refine an_call (r_X2_shareGranted m 0) rfl rfl rfl rfl ?_
  exact an_ret rfl rfl rfl rfl rfl
def b_X4_digest_1 (m : PM)   (j1 : Nat) (s1 : Int64) : Int64 := (v_X4_mix m s1 (((v_X4_numberOf m (nI j1))).toInt64))
def b_X4_digest_2 (m : PM)   (j2 : Nat) (s2 : Int64) : Int64 := (v_X4_mix m s2 (((v_X1_at m 10 0 (nI j2))).toInt64))
def b_X4_digest_3 (m : PM)   (j3 : Nat) (s3 : Int64) : Int64 := (v_X4_mixHand m s3 (nI j3))
def b_X4_digest_4 (m : PM)   (j4 : Nat) (s4 : Int64 × PM) : Int64 × PM := ((v_X4_mixRow (w_X4_tryAsking s4.2 (0 : Int32) (nI j4) (3 : Int32)) s4.1 (nI j4) (v_X4_tryAsking s4.2 (0 : Int32) (nI j4) (3 : Int32))), (w_X4_tryAsking s4.2 (0 : Int32) (nI j4) (3 : Int32)))
def b_X4_digest_5 (m : PM)   (j5 : Nat) (s5 : Int64) : Int64 := (v_X4_mix ((lp (b_X4_digest_4 m) 12 0 ((lp (b_X4_digest_3 m) 8 0 (lp (b_X4_digest_2 m) 3 0 (lp (b_X4_digest_1 m) 10 0 (2447 : Int64)))), m)).2) s5 (((v_X1_at ((lp (b_X4_digest_4 m) 12 0 ((lp (b_X4_digest_3 m) 8 0 (lp (b_X4_digest_2 m) 3 0 (lp (b_X4_digest_1 m) 10 0 (2447 : Int64)))), m)).2) 11 0 (nI j5))).toInt64))
def v_X4_digest (m : PM)  : Int64 := (lp (b_X4_digest_5 m) (((lp (b_X4_digest_4 m) 12 0 ((lp (b_X4_digest_3 m) 8 0 (lp (b_X4_digest_2 m) 3 0 (lp (b_X4_digest_1 m) 10 0 (2447 : Int64)))), m)).2.1 6 0 0 1)).toNatClampNeg 0 (v_X4_mix ((lp (b_X4_digest_4 m) 12 0 ((lp (b_X4_digest_3 m) 8 0 (lp (b_X4_digest_2 m) 3 0 (lp (b_X4_digest_1 m) 10 0 (2447 : Int64)))), m)).2) (v_X4_mix ((lp (b_X4_digest_4 m) 12 0 ((lp (b_X4_digest_3 m) 8 0 (lp (b_X4_digest_2 m) 3 0 (lp (b_X4_digest_1 m) 10 0 (2447 : Int64)))), m)).2) (v_X4_mix ((lp (b_X4_digest_4 m) 12 0 ((lp (b_X4_digest_3 m) 8 0 (lp (b_X4_digest_2 m) 3 0 (lp (b_X4_digest_1 m) 10 0 (2447 : Int64)))), m)).2) ((lp (b_X4_digest_4 m) 12 0 ((lp (b_X4_digest_3 m) 8 0 (lp (b_X4_digest_2 m) 3 0 (lp (b_X4_digest_1 m) 10 0 (2447 : Int64)))), m)).1) (((v_X2_mostWaitedFor ((lp (b_X4_digest_4 m) 12 0 ((lp (b_X4_digest_3 m) 8 0 (lp (b_X4_digest_2 m) 3 0 (lp (b_X4_digest_1 m) 10 0 (2447 : Int64)))), m)).2) 0)).toInt64)) (v_X4_bitsOfShare ((lp (b_X4_digest_4 m) 12 0 ((lp (b_X4_digest_3 m) 8 0 (lp (b_X4_digest_2 m) 3 0 (lp (b_X4_digest_1 m) 10 0 (2447 : Int64)))), m)).2) (v_X2_shareGranted ((lp (b_X4_digest_4 m) 12 0 ((lp (b_X4_digest_3 m) 8 0 (lp (b_X4_digest_2 m) 3 0 (lp (b_X4_digest_1 m) 10 0 (2447 : Int64)))), m)).2) 0))) ((((lp (b_X4_digest_4 m) 12 0 ((lp (b_X4_digest_3 m) 8 0 (lp (b_X4_digest_2 m) 3 0 (lp (b_X4_digest_1 m) 10 0 (2447 : Int64)))), m)).2.1 6 0 0 1)).toInt64)))
def w_X4_digest (m : PM)  : PM := (lp (b_X4_digest_4 m) 12 0 ((lp (b_X4_digest_3 m) 8 0 (lp (b_X4_digest_2 m) 3 0 (lp (b_X4_digest_1 m) 10 0 (2447 : Int64)))), m)).2
set_option maxRecDepth 100000 in
theorem r_X4_digest (m : PM)  (hs : gsh (v_X2_shareGranted ((lp (b_X4_digest_4 m) 12 0 ((lp (b_X4_digest_3 m) 8 0 (lp (b_X4_digest_2 m) 3 0 (lp (b_X4_digest_1 m) 10 0 (2447 : Int64)))), m)).2) 0)) : Rn MX4_digest [vR 3 0 0] m (some (vL (v_X4_digest m))) (w_X4_digest m) := by
  refine rn_of [some (vR 3 0 0), none, none, none] rfl ?_
  unfold v_X4_digest w_X4_digest
  refine an_b 4 (pc2 := 6) (L2 := [some (vR 3 0 0), some (vL (2447 : Int64)), none, some (vI (0 : Int32))]) (st2 := []) (m1 := m) rfl ?_
  refine re_lp (σ := Int64) (b_X4_digest_1 m) (fun j1 s1 => (6, [some (vR 3 0 0), some (vL s1), none, some (vI (nI j1))], [], m)) 10 (fun s1 => (29, [some (vR 3 0 0), some (vL s1), none, none], [], m)) (fun j1 s1 hj1 v9 m9 K1 => ?_) (fun s1 v9 m9 K1 => ?_) 10 0 (2447 : Int64) (Nat.add_zero _) _ _ ?_
  · show An MX4_digest 6 [some (vR 3 0 0), some (vL s1), none, some (vI (nI j1))] [] m v9 m9
    refine an_b 3 (pc2 := if (10 : Int32) ≤ (nI j1) then 29 else 12) (L2 := [some (vR 3 0 0), some (vL s1), none, some (vI (nI j1))]) (st2 := []) (m1 := m) rfl ?_
    refine an_f (nI_ge (a := j1) (b := 10) (by omega) (by omega)) ?_
    refine an_b 3 (pc2 := 15) (L2 := [some (vR 3 0 0), some (vL s1), none, some (vI (nI j1))]) (st2 := [vI (nI j1), vR 3 0 0, vL s1]) (m1 := m) rfl ?_
    refine an_call (r_X4_numberOf m (nI j1)) rfl rfl rfl rfl ?_
    refine an_b 1 (pc2 := 19) (L2 := [some (vR 3 0 0), some (vL s1), none, some (vI (nI j1))]) (st2 := [vL (((v_X4_numberOf m (nI j1))).toInt64), vL s1]) (m1 := m) rfl ?_
    refine an_call (r_X4_mix m s1 (((v_X4_numberOf m (nI j1))).toInt64)) rfl rfl rfl rfl ?_
    refine an_b 3 (pc2 := 6) (L2 := [some (vR 3 0 0), some (vL (v_X4_mix m s1 (((v_X4_numberOf m (nI j1))).toInt64))), none, some (vI ((nI j1) + (1 : Int32)))]) (st2 := []) (m1 := m) rfl ?_
    refine an_cL (K := [some (vR 3 0 0), some (vL (v_X4_mix m s1 (((v_X4_numberOf m (nI j1))).toInt64))), none, some (vI (nI (j1 + 1)))]) (by simp only [nI_1]) ?_
    exact K1
  · show An MX4_digest 6 [some (vR 3 0 0), some (vL s1), none, some (vI (nI 10))] [] m v9 m9
    refine an_b 3 (pc2 := if (10 : Int32) ≤ (nI 10) then 29 else 12) (L2 := [some (vR 3 0 0), some (vL s1), none, some (vI (nI 10))]) (st2 := []) (m1 := m) rfl ?_
    refine an_t (nI_le (a := 10) (b := 10) (by omega) (by omega)) ?_
    refine an_weak (L := [some (vR 3 0 0), some (vL s1), none, none]) (⟨rfl, rfl, trivial⟩) ?_
    exact K1
  show An MX4_digest 29 [some (vR 3 0 0), some (vL (lp (b_X4_digest_1 m) 10 0 (2447 : Int64))), none, none] [] m _ _
  refine an_b 2 (pc2 := 31) (L2 := [some (vR 3 0 0), some (vL (lp (b_X4_digest_1 m) 10 0 (2447 : Int64))), none, some (vI (0 : Int32))]) (st2 := []) (m1 := m) rfl ?_
  refine re_lp (σ := Int64) (b_X4_digest_2 m) (fun j2 s2 => (31, [some (vR 3 0 0), some (vL s2), none, some (vI (nI j2))], [], m)) 3 (fun s2 => (59, [some (vR 3 0 0), some (vL s2), none, none], [], m)) (fun j2 s2 hj2 v9 m9 K2 => ?_) (fun s2 v9 m9 K2 => ?_) 3 0 (lp (b_X4_digest_1 m) 10 0 (2447 : Int64)) (Nat.add_zero _) _ _ ?_
  · show An MX4_digest 31 [some (vR 3 0 0), some (vL s2), none, some (vI (nI j2))] [] m v9 m9
    refine an_b 3 (pc2 := if (3 : Int32) ≤ (nI j2) then 59 else 36) (L2 := [some (vR 3 0 0), some (vL s2), none, some (vI (nI j2))]) (st2 := []) (m1 := m) rfl ?_
    refine an_f (nI_ge (a := j2) (b := 3) (by omega) (by omega)) ?_
    refine an_b 5 (pc2 := 45) (L2 := [some (vR 3 0 0), some (vL s2), none, some (vI (nI j2))]) (st2 := [vI (nI j2), vR 1 10 0, vL s2]) (m1 := m) rfl ?_
    refine an_call (r_X1_at m 10 0 (nI j2)) rfl rfl rfl rfl ?_
    refine an_b 1 (pc2 := 49) (L2 := [some (vR 3 0 0), some (vL s2), none, some (vI (nI j2))]) (st2 := [vL (((v_X1_at m 10 0 (nI j2))).toInt64), vL s2]) (m1 := m) rfl ?_
    refine an_call (r_X4_mix m s2 (((v_X1_at m 10 0 (nI j2))).toInt64)) rfl rfl rfl rfl ?_
    refine an_b 3 (pc2 := 31) (L2 := [some (vR 3 0 0), some (vL (v_X4_mix m s2 (((v_X1_at m 10 0 (nI j2))).toInt64))), none, some (vI ((nI j2) + (1 : Int32)))]) (st2 := []) (m1 := m) rfl ?_
    refine an_cL (K := [some (vR 3 0 0), some (vL (v_X4_mix m s2 (((v_X1_at m 10 0 (nI j2))).toInt64))), none, some (vI (nI (j2 + 1)))]) (by simp only [nI_1]) ?_
    exact K2
  · show An MX4_digest 31 [some (vR 3 0 0), some (vL s2), none, some (vI (nI 3))] [] m v9 m9
    refine an_b 3 (pc2 := if (3 : Int32) ≤ (nI 3) then 59 else 36) (L2 := [some (vR 3 0 0), some (vL s2), none, some (vI (nI 3))]) (st2 := []) (m1 := m) rfl ?_
    refine an_t (nI_le (a := 3) (b := 3) (by omega) (by omega)) ?_
    refine an_weak (L := [some (vR 3 0 0), some (vL s2), none, none]) (⟨rfl, rfl, trivial⟩) ?_
    exact K2
  show An MX4_digest 59 [some (vR 3 0 0), some (vL (lp (b_X4_digest_2 m) 3 0 (lp (b_X4_digest_1 m) 10 0 (2447 : Int64)))), none, none] [] m _ _
  refine an_b 2 (pc2 := 61) (L2 := [some (vR 3 0 0), some (vL (lp (b_X4_digest_2 m) 3 0 (lp (b_X4_digest_1 m) 10 0 (2447 : Int64)))), none, some (vI (0 : Int32))]) (st2 := []) (m1 := m) rfl ?_
  refine re_lp (σ := Int64) (b_X4_digest_3 m) (fun j3 s3 => (61, [some (vR 3 0 0), some (vL s3), none, some (vI (nI j3))], [], m)) 8 (fun s3 => (80, [some (vR 3 0 0), some (vL s3), none, none], [], m)) (fun j3 s3 hj3 v9 m9 K3 => ?_) (fun s3 v9 m9 K3 => ?_) 8 0 (lp (b_X4_digest_2 m) 3 0 (lp (b_X4_digest_1 m) 10 0 (2447 : Int64))) (Nat.add_zero _) _ _ ?_
  · show An MX4_digest 61 [some (vR 3 0 0), some (vL s3), none, some (vI (nI j3))] [] m v9 m9
    refine an_b 3 (pc2 := if (8 : Int32) ≤ (nI j3) then 80 else 67) (L2 := [some (vR 3 0 0), some (vL s3), none, some (vI (nI j3))]) (st2 := []) (m1 := m) rfl ?_
    refine an_f (nI_ge (a := j3) (b := 8) (by omega) (by omega)) ?_
    refine an_b 3 (pc2 := 70) (L2 := [some (vR 3 0 0), some (vL s3), none, some (vI (nI j3))]) (st2 := [vI (nI j3), vL s3, vR 3 0 0]) (m1 := m) rfl ?_
    refine an_call (r_X4_mixHand m s3 (nI j3)) rfl rfl rfl rfl ?_
    refine an_b 3 (pc2 := 61) (L2 := [some (vR 3 0 0), some (vL (v_X4_mixHand m s3 (nI j3))), none, some (vI ((nI j3) + (1 : Int32)))]) (st2 := []) (m1 := m) rfl ?_
    refine an_cL (K := [some (vR 3 0 0), some (vL (v_X4_mixHand m s3 (nI j3))), none, some (vI (nI (j3 + 1)))]) (by simp only [nI_1]) ?_
    exact K3
  · show An MX4_digest 61 [some (vR 3 0 0), some (vL s3), none, some (vI (nI 8))] [] m v9 m9
    refine an_b 3 (pc2 := if (8 : Int32) ≤ (nI 8) then 80 else 67) (L2 := [some (vR 3 0 0), some (vL s3), none, some (vI (nI 8))]) (st2 := []) (m1 := m) rfl ?_
    refine an_t (nI_le (a := 8) (b := 8) (by omega) (by omega)) ?_
    refine an_weak (L := [some (vR 3 0 0), some (vL s3), none, none]) (⟨rfl, rfl, trivial⟩) ?_
    exact K3
  show An MX4_digest 80 [some (vR 3 0 0), some (vL (lp (b_X4_digest_3 m) 8 0 (lp (b_X4_digest_2 m) 3 0 (lp (b_X4_digest_1 m) 10 0 (2447 : Int64))))), none, none] [] m _ _
  refine an_b 2 (pc2 := 82) (L2 := [some (vR 3 0 0), some (vL (lp (b_X4_digest_3 m) 8 0 (lp (b_X4_digest_2 m) 3 0 (lp (b_X4_digest_1 m) 10 0 (2447 : Int64))))), none, some (vI (0 : Int32))]) (st2 := []) (m1 := m) rfl ?_
  refine re_lp (σ := Int64 × PM) (b_X4_digest_4 m) (fun j4 s4 => (82, [some (vR 3 0 0), some (vL s4.1), none, some (vI (nI j4))], [], s4.2)) 12 (fun s4 => (108, [some (vR 3 0 0), some (vL s4.1), none, none], [], s4.2)) (fun j4 s4 hj4 v9 m9 K4 => ?_) (fun s4 v9 m9 K4 => ?_) 12 0 ((lp (b_X4_digest_3 m) 8 0 (lp (b_X4_digest_2 m) 3 0 (lp (b_X4_digest_1 m) 10 0 (2447 : Int64)))), m) (Nat.add_zero _) _ _ ?_
  · show An MX4_digest 82 [some (vR 3 0 0), some (vL s4.1), none, some (vI (nI j4))] [] s4.2 v9 m9
    refine an_b 3 (pc2 := if (12 : Int32) ≤ (nI j4) then 108 else 88) (L2 := [some (vR 3 0 0), some (vL s4.1), none, some (vI (nI j4))]) (st2 := []) (m1 := s4.2) rfl ?_
    refine an_f (nI_ge (a := j4) (b := 12) (by omega) (by omega)) ?_
    refine an_b 7 (pc2 := 95) (L2 := [some (vR 3 0 0), some (vL s4.1), none, some (vI (nI j4))]) (st2 := [vI (3 : Int32), vI (nI j4), vI (0 : Int32), vR 3 0 0, vI (nI j4), vL s4.1, vR 3 0 0]) (m1 := s4.2) rfl ?_
    refine an_call (r_X4_tryAsking s4.2 (0 : Int32) (nI j4) (3 : Int32)) rfl rfl rfl rfl ?_
    refine an_call (r_X4_mixRow (w_X4_tryAsking s4.2 (0 : Int32) (nI j4) (3 : Int32)) s4.1 (nI j4) (v_X4_tryAsking s4.2 (0 : Int32) (nI j4) (3 : Int32))) rfl rfl rfl rfl ?_
    refine an_b 3 (pc2 := 82) (L2 := [some (vR 3 0 0), some (vL (v_X4_mixRow (w_X4_tryAsking s4.2 (0 : Int32) (nI j4) (3 : Int32)) s4.1 (nI j4) (v_X4_tryAsking s4.2 (0 : Int32) (nI j4) (3 : Int32)))), none, some (vI ((nI j4) + (1 : Int32)))]) (st2 := []) (m1 := (w_X4_tryAsking s4.2 (0 : Int32) (nI j4) (3 : Int32))) rfl ?_
    refine an_cL (K := [some (vR 3 0 0), some (vL (v_X4_mixRow (w_X4_tryAsking s4.2 (0 : Int32) (nI j4) (3 : Int32)) s4.1 (nI j4) (v_X4_tryAsking s4.2 (0 : Int32) (nI j4) (3 : Int32)))), none, some (vI (nI (j4 + 1)))]) (by simp only [nI_1]) ?_
    exact K4
  · show An MX4_digest 82 [some (vR 3 0 0), some (vL s4.1), none, some (vI (nI 12))] [] s4.2 v9 m9
    refine an_b 3 (pc2 := if (12 : Int32) ≤ (nI 12) then 108 else 88) (L2 := [some (vR 3 0 0), some (vL s4.1), none, some (vI (nI 12))]) (st2 := []) (m1 := s4.2) rfl ?_
    refine an_t (nI_le (a := 12) (b := 12) (by omega) (by omega)) ?_
    refine an_weak (L := [some (vR 3 0 0), some (vL s4.1), none, none]) (⟨rfl, rfl, trivial⟩) ?_
    exact K4
  show An MX4_digest 108 [some (vR 3 0 0), some (vL ((lp (b_X4_digest_4 m) 12 0 ((lp (b_X4_digest_3 m) 8 0 (lp (b_X4_digest_2 m) 3 0 (lp (b_X4_digest_1 m) 10 0 (2447 : Int64)))), m)).1)), none, none] [] (lp (b_X4_digest_4 m) 12 0 ((lp (b_X4_digest_3 m) 8 0 (lp (b_X4_digest_2 m) 3 0 (lp (b_X4_digest_1 m) 10 0 (2447 : Int64)))), m)).2 _ _
  refine an_b 3 (pc2 := 113) (L2 := [some (vR 3 0 0), some (vL ((lp (b_X4_digest_4 m) 12 0 ((lp (b_X4_digest_3 m) 8 0 (lp (b_X4_digest_2 m) 3 0 (lp (b_X4_digest_1 m) 10 0 (2447 : Int64)))), m)).1)), none, none]) (st2 := [vR 0 0 0, vL ((lp (b_X4_digest_4 m) 12 0 ((lp (b_X4_digest_3 m) 8 0 (lp (b_X4_digest_2 m) 3 0 (lp (b_X4_digest_1 m) 10 0 (2447 : Int64)))), m)).1)]) (m1 := (lp (b_X4_digest_4 m) 12 0 ((lp (b_X4_digest_3 m) 8 0 (lp (b_X4_digest_2 m) 3 0 (lp (b_X4_digest_1 m) 10 0 (2447 : Int64)))), m)).2) rfl ?_
  refine an_call (r_X2_mostWaitedFor ((lp (b_X4_digest_4 m) 12 0 ((lp (b_X4_digest_3 m) 8 0 (lp (b_X4_digest_2 m) 3 0 (lp (b_X4_digest_1 m) 10 0 (2447 : Int64)))), m)).2) 0) rfl rfl rfl rfl ?_
  refine an_b 1 (pc2 := 117) (L2 := [some (vR 3 0 0), some (vL ((lp (b_X4_digest_4 m) 12 0 ((lp (b_X4_digest_3 m) 8 0 (lp (b_X4_digest_2 m) 3 0 (lp (b_X4_digest_1 m) 10 0 (2447 : Int64)))), m)).1)), none, none]) (st2 := [vL (((v_X2_mostWaitedFor ((lp (b_X4_digest_4 m) 12 0 ((lp (b_X4_digest_3 m) 8 0 (lp (b_X4_digest_2 m) 3 0 (lp (b_X4_digest_1 m) 10 0 (2447 : Int64)))), m)).2) 0)).toInt64), vL ((lp (b_X4_digest_4 m) 12 0 ((lp (b_X4_digest_3 m) 8 0 (lp (b_X4_digest_2 m) 3 0 (lp (b_X4_digest_1 m) 10 0 (2447 : Int64)))), m)).1)]) (m1 := (lp (b_X4_digest_4 m) 12 0 ((lp (b_X4_digest_3 m) 8 0 (lp (b_X4_digest_2 m) 3 0 (lp (b_X4_digest_1 m) 10 0 (2447 : Int64)))), m)).2) rfl ?_
  refine an_call (r_X4_mix ((lp (b_X4_digest_4 m) 12 0 ((lp (b_X4_digest_3 m) 8 0 (lp (b_X4_digest_2 m) 3 0 (lp (b_X4_digest_1 m) 10 0 (2447 : Int64)))), m)).2) ((lp (b_X4_digest_4 m) 12 0 ((lp (b_X4_digest_3 m) 8 0 (lp (b_X4_digest_2 m) 3 0 (lp (b_X4_digest_1 m) 10 0 (2447 : Int64)))), m)).1) (((v_X2_mostWaitedFor ((lp (b_X4_digest_4 m) 12 0 ((lp (b_X4_digest_3 m) 8 0 (lp (b_X4_digest_2 m) 3 0 (lp (b_X4_digest_1 m) 10 0 (2447 : Int64)))), m)).2) 0)).toInt64)) rfl rfl rfl rfl ?_
  refine an_b 4 (pc2 := 126) (L2 := [some (vR 3 0 0), some (vL (v_X4_mix ((lp (b_X4_digest_4 m) 12 0 ((lp (b_X4_digest_3 m) 8 0 (lp (b_X4_digest_2 m) 3 0 (lp (b_X4_digest_1 m) 10 0 (2447 : Int64)))), m)).2) ((lp (b_X4_digest_4 m) 12 0 ((lp (b_X4_digest_3 m) 8 0 (lp (b_X4_digest_2 m) 3 0 (lp (b_X4_digest_1 m) 10 0 (2447 : Int64)))), m)).1) (((v_X2_mostWaitedFor ((lp (b_X4_digest_4 m) 12 0 ((lp (b_X4_digest_3 m) 8 0 (lp (b_X4_digest_2 m) 3 0 (lp (b_X4_digest_1 m) 10 0 (2447 : Int64)))), m)).2) 0)).toInt64))), none, none]) (st2 := [vR 0 0 0, vL (v_X4_mix ((lp (b_X4_digest_4 m) 12 0 ((lp (b_X4_digest_3 m) 8 0 (lp (b_X4_digest_2 m) 3 0 (lp (b_X4_digest_1 m) 10 0 (2447 : Int64)))), m)).2) ((lp (b_X4_digest_4 m) 12 0 ((lp (b_X4_digest_3 m) 8 0 (lp (b_X4_digest_2 m) 3 0 (lp (b_X4_digest_1 m) 10 0 (2447 : Int64)))), m)).1) (((v_X2_mostWaitedFor ((lp (b_X4_digest_4 m) 12 0 ((lp (b_X4_digest_3 m) 8 0 (lp (b_X4_digest_2 m) 3 0 (lp (b_X4_digest_1 m) 10 0 (2447 : Int64)))), m)).2) 0)).toInt64))]) (m1 := (lp (b_X4_digest_4 m) 12 0 ((lp (b_X4_digest_3 m) 8 0 (lp (b_X4_digest_2 m) 3 0 (lp (b_X4_digest_1 m) 10 0 (2447 : Int64)))), m)).2) rfl ?_
  refine an_call (r_X2_shareGranted ((lp (b_X4_digest_4 m) 12 0 ((lp (b_X4_digest_3 m) 8 0 (lp (b_X4_digest_2 m) 3 0 (lp (b_X4_digest_1 m) 10 0 (2447 : Int64)))), m)).2) 0) rfl rfl rfl rfl ?_
  refine an_call (r_X4_bitsOfShare ((lp (b_X4_digest_4 m) 12 0 ((lp (b_X4_digest_3 m) 8 0 (lp (b_X4_digest_2 m) 3 0 (lp (b_X4_digest_1 m) 10 0 (2447 : Int64)))), m)).2) (v_X2_shareGranted ((lp (b_X4_digest_4 m) 12 0 ((lp (b_X4_digest_3 m) 8 0 (lp (b_X4_digest_2 m) 3 0 (lp (b_X4_digest_1 m) 10 0 (2447 : Int64)))), m)).2) 0) hs) rfl rfl rfl rfl ?_
  refine an_call (r_X4_mix ((lp (b_X4_digest_4 m) 12 0 ((lp (b_X4_digest_3 m) 8 0 (lp (b_X4_digest_2 m) 3 0 (lp (b_X4_digest_1 m) 10 0 (2447 : Int64)))), m)).2) (v_X4_mix ((lp (b_X4_digest_4 m) 12 0 ((lp (b_X4_digest_3 m) 8 0 (lp (b_X4_digest_2 m) 3 0 (lp (b_X4_digest_1 m) 10 0 (2447 : Int64)))), m)).2) ((lp (b_X4_digest_4 m) 12 0 ((lp (b_X4_digest_3 m) 8 0 (lp (b_X4_digest_2 m) 3 0 (lp (b_X4_digest_1 m) 10 0 (2447 : Int64)))), m)).1) (((v_X2_mostWaitedFor ((lp (b_X4_digest_4 m) 12 0 ((lp (b_X4_digest_3 m) 8 0 (lp (b_X4_digest_2 m) 3 0 (lp (b_X4_digest_1 m) 10 0 (2447 : Int64)))), m)).2) 0)).toInt64)) (v_X4_bitsOfShare ((lp (b_X4_digest_4 m) 12 0 ((lp (b_X4_digest_3 m) 8 0 (lp (b_X4_digest_2 m) 3 0 (lp (b_X4_digest_1 m) 10 0 (2447 : Int64)))), m)).2) (v_X2_shareGranted ((lp (b_X4_digest_4 m) 12 0 ((lp (b_X4_digest_3 m) 8 0 (lp (b_X4_digest_2 m) 3 0 (lp (b_X4_digest_1 m) 10 0 (2447 : Int64)))), m)).2) 0))) rfl rfl rfl rfl ?_
  refine an_b 6 (pc2 := 145) (L2 := [some (vR 3 0 0), some (vL (v_X4_mix ((lp (b_X4_digest_4 m) 12 0 ((lp (b_X4_digest_3 m) 8 0 (lp (b_X4_digest_2 m) 3 0 (lp (b_X4_digest_1 m) 10 0 (2447 : Int64)))), m)).2) (v_X4_mix ((lp (b_X4_digest_4 m) 12 0 ((lp (b_X4_digest_3 m) 8 0 (lp (b_X4_digest_2 m) 3 0 (lp (b_X4_digest_1 m) 10 0 (2447 : Int64)))), m)).2) ((lp (b_X4_digest_4 m) 12 0 ((lp (b_X4_digest_3 m) 8 0 (lp (b_X4_digest_2 m) 3 0 (lp (b_X4_digest_1 m) 10 0 (2447 : Int64)))), m)).1) (((v_X2_mostWaitedFor ((lp (b_X4_digest_4 m) 12 0 ((lp (b_X4_digest_3 m) 8 0 (lp (b_X4_digest_2 m) 3 0 (lp (b_X4_digest_1 m) 10 0 (2447 : Int64)))), m)).2) 0)).toInt64)) (v_X4_bitsOfShare ((lp (b_X4_digest_4 m) 12 0 ((lp (b_X4_digest_3 m) 8 0 (lp (b_X4_digest_2 m) 3 0 (lp (b_X4_digest_1 m) 10 0 (2447 : Int64)))), m)).2) (v_X2_shareGranted ((lp (b_X4_digest_4 m) 12 0 ((lp (b_X4_digest_3 m) 8 0 (lp (b_X4_digest_2 m) 3 0 (lp (b_X4_digest_1 m) 10 0 (2447 : Int64)))), m)).2) 0)))), none, none]) (st2 := [vL ((((lp (b_X4_digest_4 m) 12 0 ((lp (b_X4_digest_3 m) 8 0 (lp (b_X4_digest_2 m) 3 0 (lp (b_X4_digest_1 m) 10 0 (2447 : Int64)))), m)).2.1 6 0 0 1)).toInt64), vL (v_X4_mix ((lp (b_X4_digest_4 m) 12 0 ((lp (b_X4_digest_3 m) 8 0 (lp (b_X4_digest_2 m) 3 0 (lp (b_X4_digest_1 m) 10 0 (2447 : Int64)))), m)).2) (v_X4_mix ((lp (b_X4_digest_4 m) 12 0 ((lp (b_X4_digest_3 m) 8 0 (lp (b_X4_digest_2 m) 3 0 (lp (b_X4_digest_1 m) 10 0 (2447 : Int64)))), m)).2) ((lp (b_X4_digest_4 m) 12 0 ((lp (b_X4_digest_3 m) 8 0 (lp (b_X4_digest_2 m) 3 0 (lp (b_X4_digest_1 m) 10 0 (2447 : Int64)))), m)).1) (((v_X2_mostWaitedFor ((lp (b_X4_digest_4 m) 12 0 ((lp (b_X4_digest_3 m) 8 0 (lp (b_X4_digest_2 m) 3 0 (lp (b_X4_digest_1 m) 10 0 (2447 : Int64)))), m)).2) 0)).toInt64)) (v_X4_bitsOfShare ((lp (b_X4_digest_4 m) 12 0 ((lp (b_X4_digest_3 m) 8 0 (lp (b_X4_digest_2 m) 3 0 (lp (b_X4_digest_1 m) 10 0 (2447 : Int64)))), m)).2) (v_X2_shareGranted ((lp (b_X4_digest_4 m) 12 0 ((lp (b_X4_digest_3 m) 8 0 (lp (b_X4_digest_2 m) 3 0 (lp (b_X4_digest_1 m) 10 0 (2447 : Int64)))), m)).2) 0)))]) (m1 := (lp (b_X4_digest_4 m) 12 0 ((lp (b_X4_digest_3 m) 8 0 (lp (b_X4_digest_2 m) 3 0 (lp (b_X4_digest_1 m) 10 0 (2447 : Int64)))), m)).2) rfl ?_
  refine an_call (r_X4_mix ((lp (b_X4_digest_4 m) 12 0 ((lp (b_X4_digest_3 m) 8 0 (lp (b_X4_digest_2 m) 3 0 (lp (b_X4_digest_1 m) 10 0 (2447 : Int64)))), m)).2) (v_X4_mix ((lp (b_X4_digest_4 m) 12 0 ((lp (b_X4_digest_3 m) 8 0 (lp (b_X4_digest_2 m) 3 0 (lp (b_X4_digest_1 m) 10 0 (2447 : Int64)))), m)).2) (v_X4_mix ((lp (b_X4_digest_4 m) 12 0 ((lp (b_X4_digest_3 m) 8 0 (lp (b_X4_digest_2 m) 3 0 (lp (b_X4_digest_1 m) 10 0 (2447 : Int64)))), m)).2) ((lp (b_X4_digest_4 m) 12 0 ((lp (b_X4_digest_3 m) 8 0 (lp (b_X4_digest_2 m) 3 0 (lp (b_X4_digest_1 m) 10 0 (2447 : Int64)))), m)).1) (((v_X2_mostWaitedFor ((lp (b_X4_digest_4 m) 12 0 ((lp (b_X4_digest_3 m) 8 0 (lp (b_X4_digest_2 m) 3 0 (lp (b_X4_digest_1 m) 10 0 (2447 : Int64)))), m)).2) 0)).toInt64)) (v_X4_bitsOfShare ((lp (b_X4_digest_4 m) 12 0 ((lp (b_X4_digest_3 m) 8 0 (lp (b_X4_digest_2 m) 3 0 (lp (b_X4_digest_1 m) 10 0 (2447 : Int64)))), m)).2) (v_X2_shareGranted ((lp (b_X4_digest_4 m) 12 0 ((lp (b_X4_digest_3 m) 8 0 (lp (b_X4_digest_2 m) 3 0 (lp (b_X4_digest_1 m) 10 0 (2447 : Int64)))), m)).2) 0))) ((((lp (b_X4_digest_4 m) 12 0 ((lp (b_X4_digest_3 m) 8 0 (lp (b_X4_digest_2 m) 3 0 (lp (b_X4_digest_1 m) 10 0 (2447 : Int64)))), m)).2.1 6 0 0 1)).toInt64)) rfl rfl rfl rfl ?_
  refine an_b 3 (pc2 := 151) (L2 := [some (vR 3 0 0), some (vL (v_X4_mix ((lp (b_X4_digest_4 m) 12 0 ((lp (b_X4_digest_3 m) 8 0 (lp (b_X4_digest_2 m) 3 0 (lp (b_X4_digest_1 m) 10 0 (2447 : Int64)))), m)).2) (v_X4_mix ((lp (b_X4_digest_4 m) 12 0 ((lp (b_X4_digest_3 m) 8 0 (lp (b_X4_digest_2 m) 3 0 (lp (b_X4_digest_1 m) 10 0 (2447 : Int64)))), m)).2) (v_X4_mix ((lp (b_X4_digest_4 m) 12 0 ((lp (b_X4_digest_3 m) 8 0 (lp (b_X4_digest_2 m) 3 0 (lp (b_X4_digest_1 m) 10 0 (2447 : Int64)))), m)).2) ((lp (b_X4_digest_4 m) 12 0 ((lp (b_X4_digest_3 m) 8 0 (lp (b_X4_digest_2 m) 3 0 (lp (b_X4_digest_1 m) 10 0 (2447 : Int64)))), m)).1) (((v_X2_mostWaitedFor ((lp (b_X4_digest_4 m) 12 0 ((lp (b_X4_digest_3 m) 8 0 (lp (b_X4_digest_2 m) 3 0 (lp (b_X4_digest_1 m) 10 0 (2447 : Int64)))), m)).2) 0)).toInt64)) (v_X4_bitsOfShare ((lp (b_X4_digest_4 m) 12 0 ((lp (b_X4_digest_3 m) 8 0 (lp (b_X4_digest_2 m) 3 0 (lp (b_X4_digest_1 m) 10 0 (2447 : Int64)))), m)).2) (v_X2_shareGranted ((lp (b_X4_digest_4 m) 12 0 ((lp (b_X4_digest_3 m) 8 0 (lp (b_X4_digest_2 m) 3 0 (lp (b_X4_digest_1 m) 10 0 (2447 : Int64)))), m)).2) 0))) ((((lp (b_X4_digest_4 m) 12 0 ((lp (b_X4_digest_3 m) 8 0 (lp (b_X4_digest_2 m) 3 0 (lp (b_X4_digest_1 m) 10 0 (2447 : Int64)))), m)).2.1 6 0 0 1)).toInt64))), none, some (vI (0 : Int32))]) (st2 := []) (m1 := (lp (b_X4_digest_4 m) 12 0 ((lp (b_X4_digest_3 m) 8 0 (lp (b_X4_digest_2 m) 3 0 (lp (b_X4_digest_1 m) 10 0 (2447 : Int64)))), m)).2) rfl ?_
  refine re_lp (σ := Int64) (b_X4_digest_5 m) (fun j5 s5 => (151, [some (vR 3 0 0), some (vL s5), none, some (vI (nI j5))], [], (lp (b_X4_digest_4 m) 12 0 ((lp (b_X4_digest_3 m) 8 0 (lp (b_X4_digest_2 m) 3 0 (lp (b_X4_digest_1 m) 10 0 (2447 : Int64)))), m)).2)) (((lp (b_X4_digest_4 m) 12 0 ((lp (b_X4_digest_3 m) 8 0 (lp (b_X4_digest_2 m) 3 0 (lp (b_X4_digest_1 m) 10 0 (2447 : Int64)))), m)).2.1 6 0 0 1)).toNatClampNeg (fun s5 => (185, [some (vR 3 0 0), some (vL s5), none, none], [], (lp (b_X4_digest_4 m) 12 0 ((lp (b_X4_digest_3 m) 8 0 (lp (b_X4_digest_2 m) 3 0 (lp (b_X4_digest_1 m) 10 0 (2447 : Int64)))), m)).2)) (fun j5 s5 hj5 v9 m9 K5 => ?_) (fun s5 v9 m9 K5 => ?_) (((lp (b_X4_digest_4 m) 12 0 ((lp (b_X4_digest_3 m) 8 0 (lp (b_X4_digest_2 m) 3 0 (lp (b_X4_digest_1 m) 10 0 (2447 : Int64)))), m)).2.1 6 0 0 1)).toNatClampNeg 0 (v_X4_mix ((lp (b_X4_digest_4 m) 12 0 ((lp (b_X4_digest_3 m) 8 0 (lp (b_X4_digest_2 m) 3 0 (lp (b_X4_digest_1 m) 10 0 (2447 : Int64)))), m)).2) (v_X4_mix ((lp (b_X4_digest_4 m) 12 0 ((lp (b_X4_digest_3 m) 8 0 (lp (b_X4_digest_2 m) 3 0 (lp (b_X4_digest_1 m) 10 0 (2447 : Int64)))), m)).2) (v_X4_mix ((lp (b_X4_digest_4 m) 12 0 ((lp (b_X4_digest_3 m) 8 0 (lp (b_X4_digest_2 m) 3 0 (lp (b_X4_digest_1 m) 10 0 (2447 : Int64)))), m)).2) ((lp (b_X4_digest_4 m) 12 0 ((lp (b_X4_digest_3 m) 8 0 (lp (b_X4_digest_2 m) 3 0 (lp (b_X4_digest_1 m) 10 0 (2447 : Int64)))), m)).1) (((v_X2_mostWaitedFor ((lp (b_X4_digest_4 m) 12 0 ((lp (b_X4_digest_3 m) 8 0 (lp (b_X4_digest_2 m) 3 0 (lp (b_X4_digest_1 m) 10 0 (2447 : Int64)))), m)).2) 0)).toInt64)) (v_X4_bitsOfShare ((lp (b_X4_digest_4 m) 12 0 ((lp (b_X4_digest_3 m) 8 0 (lp (b_X4_digest_2 m) 3 0 (lp (b_X4_digest_1 m) 10 0 (2447 : Int64)))), m)).2) (v_X2_shareGranted ((lp (b_X4_digest_4 m) 12 0 ((lp (b_X4_digest_3 m) 8 0 (lp (b_X4_digest_2 m) 3 0 (lp (b_X4_digest_1 m) 10 0 (2447 : Int64)))), m)).2) 0))) ((((lp (b_X4_digest_4 m) 12 0 ((lp (b_X4_digest_3 m) 8 0 (lp (b_X4_digest_2 m) 3 0 (lp (b_X4_digest_1 m) 10 0 (2447 : Int64)))), m)).2.1 6 0 0 1)).toInt64)) (Nat.add_zero _) _ _ ?_
  · show An MX4_digest 151 [some (vR 3 0 0), some (vL s5), none, some (vI (nI j5))] [] (lp (b_X4_digest_4 m) 12 0 ((lp (b_X4_digest_3 m) 8 0 (lp (b_X4_digest_2 m) 3 0 (lp (b_X4_digest_1 m) 10 0 (2447 : Int64)))), m)).2 v9 m9
    refine an_b 5 (pc2 := if ((lp (b_X4_digest_4 m) 12 0 ((lp (b_X4_digest_3 m) 8 0 (lp (b_X4_digest_2 m) 3 0 (lp (b_X4_digest_1 m) 10 0 (2447 : Int64)))), m)).2.1 6 0 0 1) ≤ (nI j5) then 185 else 162) (L2 := [some (vR 3 0 0), some (vL s5), none, some (vI (nI j5))]) (st2 := []) (m1 := (lp (b_X4_digest_4 m) 12 0 ((lp (b_X4_digest_3 m) 8 0 (lp (b_X4_digest_2 m) 3 0 (lp (b_X4_digest_1 m) 10 0 (2447 : Int64)))), m)).2) rfl ?_
    refine an_f (bnd_lt hj5) ?_
    refine an_b 5 (pc2 := 171) (L2 := [some (vR 3 0 0), some (vL s5), none, some (vI (nI j5))]) (st2 := [vI (nI j5), vR 1 11 0, vL s5]) (m1 := (lp (b_X4_digest_4 m) 12 0 ((lp (b_X4_digest_3 m) 8 0 (lp (b_X4_digest_2 m) 3 0 (lp (b_X4_digest_1 m) 10 0 (2447 : Int64)))), m)).2) rfl ?_
    refine an_call (r_X1_at ((lp (b_X4_digest_4 m) 12 0 ((lp (b_X4_digest_3 m) 8 0 (lp (b_X4_digest_2 m) 3 0 (lp (b_X4_digest_1 m) 10 0 (2447 : Int64)))), m)).2) 11 0 (nI j5)) rfl rfl rfl rfl ?_
    refine an_b 1 (pc2 := 175) (L2 := [some (vR 3 0 0), some (vL s5), none, some (vI (nI j5))]) (st2 := [vL (((v_X1_at ((lp (b_X4_digest_4 m) 12 0 ((lp (b_X4_digest_3 m) 8 0 (lp (b_X4_digest_2 m) 3 0 (lp (b_X4_digest_1 m) 10 0 (2447 : Int64)))), m)).2) 11 0 (nI j5))).toInt64), vL s5]) (m1 := (lp (b_X4_digest_4 m) 12 0 ((lp (b_X4_digest_3 m) 8 0 (lp (b_X4_digest_2 m) 3 0 (lp (b_X4_digest_1 m) 10 0 (2447 : Int64)))), m)).2) rfl ?_
    refine an_call (r_X4_mix ((lp (b_X4_digest_4 m) 12 0 ((lp (b_X4_digest_3 m) 8 0 (lp (b_X4_digest_2 m) 3 0 (lp (b_X4_digest_1 m) 10 0 (2447 : Int64)))), m)).2) s5 (((v_X1_at ((lp (b_X4_digest_4 m) 12 0 ((lp (b_X4_digest_3 m) 8 0 (lp (b_X4_digest_2 m) 3 0 (lp (b_X4_digest_1 m) 10 0 (2447 : Int64)))), m)).2) 11 0 (nI j5))).toInt64)) rfl rfl rfl rfl ?_
    refine an_b 3 (pc2 := 151) (L2 := [some (vR 3 0 0), some (vL (v_X4_mix ((lp (b_X4_digest_4 m) 12 0 ((lp (b_X4_digest_3 m) 8 0 (lp (b_X4_digest_2 m) 3 0 (lp (b_X4_digest_1 m) 10 0 (2447 : Int64)))), m)).2) s5 (((v_X1_at ((lp (b_X4_digest_4 m) 12 0 ((lp (b_X4_digest_3 m) 8 0 (lp (b_X4_digest_2 m) 3 0 (lp (b_X4_digest_1 m) 10 0 (2447 : Int64)))), m)).2) 11 0 (nI j5))).toInt64))), none, some (vI ((nI j5) + (1 : Int32)))]) (st2 := []) (m1 := (lp (b_X4_digest_4 m) 12 0 ((lp (b_X4_digest_3 m) 8 0 (lp (b_X4_digest_2 m) 3 0 (lp (b_X4_digest_1 m) 10 0 (2447 : Int64)))), m)).2) rfl ?_
    refine an_cL (K := [some (vR 3 0 0), some (vL (v_X4_mix ((lp (b_X4_digest_4 m) 12 0 ((lp (b_X4_digest_3 m) 8 0 (lp (b_X4_digest_2 m) 3 0 (lp (b_X4_digest_1 m) 10 0 (2447 : Int64)))), m)).2) s5 (((v_X1_at ((lp (b_X4_digest_4 m) 12 0 ((lp (b_X4_digest_3 m) 8 0 (lp (b_X4_digest_2 m) 3 0 (lp (b_X4_digest_1 m) 10 0 (2447 : Int64)))), m)).2) 11 0 (nI j5))).toInt64))), none, some (vI (nI (j5 + 1)))]) (by simp only [nI_1]) ?_
    exact K5
  · show An MX4_digest 151 [some (vR 3 0 0), some (vL s5), none, some (vI (nI ((((lp (b_X4_digest_4 m) 12 0 ((lp (b_X4_digest_3 m) 8 0 (lp (b_X4_digest_2 m) 3 0 (lp (b_X4_digest_1 m) 10 0 (2447 : Int64)))), m)).2.1 6 0 0 1)).toNatClampNeg)))] [] (lp (b_X4_digest_4 m) 12 0 ((lp (b_X4_digest_3 m) 8 0 (lp (b_X4_digest_2 m) 3 0 (lp (b_X4_digest_1 m) 10 0 (2447 : Int64)))), m)).2 v9 m9
    refine an_b 5 (pc2 := if ((lp (b_X4_digest_4 m) 12 0 ((lp (b_X4_digest_3 m) 8 0 (lp (b_X4_digest_2 m) 3 0 (lp (b_X4_digest_1 m) 10 0 (2447 : Int64)))), m)).2.1 6 0 0 1) ≤ (nI ((((lp (b_X4_digest_4 m) 12 0 ((lp (b_X4_digest_3 m) 8 0 (lp (b_X4_digest_2 m) 3 0 (lp (b_X4_digest_1 m) 10 0 (2447 : Int64)))), m)).2.1 6 0 0 1)).toNatClampNeg)) then 185 else 162) (L2 := [some (vR 3 0 0), some (vL s5), none, some (vI (nI ((((lp (b_X4_digest_4 m) 12 0 ((lp (b_X4_digest_3 m) 8 0 (lp (b_X4_digest_2 m) 3 0 (lp (b_X4_digest_1 m) 10 0 (2447 : Int64)))), m)).2.1 6 0 0 1)).toNatClampNeg)))]) (st2 := []) (m1 := (lp (b_X4_digest_4 m) 12 0 ((lp (b_X4_digest_3 m) 8 0 (lp (b_X4_digest_2 m) 3 0 (lp (b_X4_digest_1 m) 10 0 (2447 : Int64)))), m)).2) rfl ?_
    refine an_t (bnd_ge rfl) ?_
    refine an_weak (L := [some (vR 3 0 0), some (vL s5), none, none]) (⟨rfl, rfl, trivial⟩) ?_
    exact K5
  show An MX4_digest 185 [some (vR 3 0 0), some (vL (lp (b_X4_digest_5 m) (((lp (b_X4_digest_4 m) 12 0 ((lp (b_X4_digest_3 m) 8 0 (lp (b_X4_digest_2 m) 3 0 (lp (b_X4_digest_1 m) 10 0 (2447 : Int64)))), m)).2.1 6 0 0 1)).toNatClampNeg 0 (v_X4_mix ((lp (b_X4_digest_4 m) 12 0 ((lp (b_X4_digest_3 m) 8 0 (lp (b_X4_digest_2 m) 3 0 (lp (b_X4_digest_1 m) 10 0 (2447 : Int64)))), m)).2) (v_X4_mix ((lp (b_X4_digest_4 m) 12 0 ((lp (b_X4_digest_3 m) 8 0 (lp (b_X4_digest_2 m) 3 0 (lp (b_X4_digest_1 m) 10 0 (2447 : Int64)))), m)).2) (v_X4_mix ((lp (b_X4_digest_4 m) 12 0 ((lp (b_X4_digest_3 m) 8 0 (lp (b_X4_digest_2 m) 3 0 (lp (b_X4_digest_1 m) 10 0 (2447 : Int64)))), m)).2) ((lp (b_X4_digest_4 m) 12 0 ((lp (b_X4_digest_3 m) 8 0 (lp (b_X4_digest_2 m) 3 0 (lp (b_X4_digest_1 m) 10 0 (2447 : Int64)))), m)).1) (((v_X2_mostWaitedFor ((lp (b_X4_digest_4 m) 12 0 ((lp (b_X4_digest_3 m) 8 0 (lp (b_X4_digest_2 m) 3 0 (lp (b_X4_digest_1 m) 10 0 (2447 : Int64)))), m)).2) 0)).toInt64)) (v_X4_bitsOfShare ((lp (b_X4_digest_4 m) 12 0 ((lp (b_X4_digest_3 m) 8 0 (lp (b_X4_digest_2 m) 3 0 (lp (b_X4_digest_1 m) 10 0 (2447 : Int64)))), m)).2) (v_X2_shareGranted ((lp (b_X4_digest_4 m) 12 0 ((lp (b_X4_digest_3 m) 8 0 (lp (b_X4_digest_2 m) 3 0 (lp (b_X4_digest_1 m) 10 0 (2447 : Int64)))), m)).2) 0))) ((((lp (b_X4_digest_4 m) 12 0 ((lp (b_X4_digest_3 m) 8 0 (lp (b_X4_digest_2 m) 3 0 (lp (b_X4_digest_1 m) 10 0 (2447 : Int64)))), m)).2.1 6 0 0 1)).toInt64)))), none, none] [] (lp (b_X4_digest_4 m) 12 0 ((lp (b_X4_digest_3 m) 8 0 (lp (b_X4_digest_2 m) 3 0 (lp (b_X4_digest_1 m) 10 0 (2447 : Int64)))), m)).2 _ _
  refine an_b 1 (pc2 := 186) (L2 := [some (vR 3 0 0), some (vL (lp (b_X4_digest_5 m) (((lp (b_X4_digest_4 m) 12 0 ((lp (b_X4_digest_3 m) 8 0 (lp (b_X4_digest_2 m) 3 0 (lp (b_X4_digest_1 m) 10 0 (2447 : Int64)))), m)).2.1 6 0 0 1)).toNatClampNeg 0 (v_X4_mix ((lp (b_X4_digest_4 m) 12 0 ((lp (b_X4_digest_3 m) 8 0 (lp (b_X4_digest_2 m) 3 0 (lp (b_X4_digest_1 m) 10 0 (2447 : Int64)))), m)).2) (v_X4_mix ((lp (b_X4_digest_4 m) 12 0 ((lp (b_X4_digest_3 m) 8 0 (lp (b_X4_digest_2 m) 3 0 (lp (b_X4_digest_1 m) 10 0 (2447 : Int64)))), m)).2) (v_X4_mix ((lp (b_X4_digest_4 m) 12 0 ((lp (b_X4_digest_3 m) 8 0 (lp (b_X4_digest_2 m) 3 0 (lp (b_X4_digest_1 m) 10 0 (2447 : Int64)))), m)).2) ((lp (b_X4_digest_4 m) 12 0 ((lp (b_X4_digest_3 m) 8 0 (lp (b_X4_digest_2 m) 3 0 (lp (b_X4_digest_1 m) 10 0 (2447 : Int64)))), m)).1) (((v_X2_mostWaitedFor ((lp (b_X4_digest_4 m) 12 0 ((lp (b_X4_digest_3 m) 8 0 (lp (b_X4_digest_2 m) 3 0 (lp (b_X4_digest_1 m) 10 0 (2447 : Int64)))), m)).2) 0)).toInt64)) (v_X4_bitsOfShare ((lp (b_X4_digest_4 m) 12 0 ((lp (b_X4_digest_3 m) 8 0 (lp (b_X4_digest_2 m) 3 0 (lp (b_X4_digest_1 m) 10 0 (2447 : Int64)))), m)).2) (v_X2_shareGranted ((lp (b_X4_digest_4 m) 12 0 ((lp (b_X4_digest_3 m) 8 0 (lp (b_X4_digest_2 m) 3 0 (lp (b_X4_digest_1 m) 10 0 (2447 : Int64)))), m)).2) 0))) ((((lp (b_X4_digest_4 m) 12 0 ((lp (b_X4_digest_3 m) 8 0 (lp (b_X4_digest_2 m) 3 0 (lp (b_X4_digest_1 m) 10 0 (2447 : Int64)))), m)).2.1 6 0 0 1)).toInt64)))), none, none]) (st2 := [vL (lp (b_X4_digest_5 m) (((lp (b_X4_digest_4 m) 12 0 ((lp (b_X4_digest_3 m) 8 0 (lp (b_X4_digest_2 m) 3 0 (lp (b_X4_digest_1 m) 10 0 (2447 : Int64)))), m)).2.1 6 0 0 1)).toNatClampNeg 0 (v_X4_mix ((lp (b_X4_digest_4 m) 12 0 ((lp (b_X4_digest_3 m) 8 0 (lp (b_X4_digest_2 m) 3 0 (lp (b_X4_digest_1 m) 10 0 (2447 : Int64)))), m)).2) (v_X4_mix ((lp (b_X4_digest_4 m) 12 0 ((lp (b_X4_digest_3 m) 8 0 (lp (b_X4_digest_2 m) 3 0 (lp (b_X4_digest_1 m) 10 0 (2447 : Int64)))), m)).2) (v_X4_mix ((lp (b_X4_digest_4 m) 12 0 ((lp (b_X4_digest_3 m) 8 0 (lp (b_X4_digest_2 m) 3 0 (lp (b_X4_digest_1 m) 10 0 (2447 : Int64)))), m)).2) ((lp (b_X4_digest_4 m) 12 0 ((lp (b_X4_digest_3 m) 8 0 (lp (b_X4_digest_2 m) 3 0 (lp (b_X4_digest_1 m) 10 0 (2447 : Int64)))), m)).1) (((v_X2_mostWaitedFor ((lp (b_X4_digest_4 m) 12 0 ((lp (b_X4_digest_3 m) 8 0 (lp (b_X4_digest_2 m) 3 0 (lp (b_X4_digest_1 m) 10 0 (2447 : Int64)))), m)).2) 0)).toInt64)) (v_X4_bitsOfShare ((lp (b_X4_digest_4 m) 12 0 ((lp (b_X4_digest_3 m) 8 0 (lp (b_X4_digest_2 m) 3 0 (lp (b_X4_digest_1 m) 10 0 (2447 : Int64)))), m)).2) (v_X2_shareGranted ((lp (b_X4_digest_4 m) 12 0 ((lp (b_X4_digest_3 m) 8 0 (lp (b_X4_digest_2 m) 3 0 (lp (b_X4_digest_1 m) 10 0 (2447 : Int64)))), m)).2) 0))) ((((lp (b_X4_digest_4 m) 12 0 ((lp (b_X4_digest_3 m) 8 0 (lp (b_X4_digest_2 m) 3 0 (lp (b_X4_digest_1 m) 10 0 (2447 : Int64)))), m)).2.1 6 0 0 1)).toInt64)))]) (m1 := (lp (b_X4_digest_4 m) 12 0 ((lp (b_X4_digest_3 m) 8 0 (lp (b_X4_digest_2 m) 3 0 (lp (b_X4_digest_1 m) 10 0 (2447 : Int64)))), m)).2) rfl ?_
  exact an_ret rfl rfl rfl rfl rfl
