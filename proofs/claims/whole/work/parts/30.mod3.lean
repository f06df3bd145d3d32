def b_X5_takersNow_1 (m : PM) (a1 : Nat) (a2 : Nat)  (j1 : Nat) (s1 : Int32) : Int32 := (s1 ||| (if (v_X5_canHandOn m a1 a2 (nI j1)) = 0 then (0 : Int32) else ((1 : Int32) <<< ((nI j1) &&& (31 : Int32)))))
def v_X5_takersNow (m : PM) (a1 : Nat) (a2 : Nat) : Int32 := (lp (b_X5_takersNow_1 m a1 a2) 8 0 (0 : Int32))
set_option maxRecDepth 100000 in
theorem r_X5_takersNow (m : PM) (a1 : Nat) (a2 : Nat) (ha1 : a1 < 8) (ha2 : a2 < 12) (hQ : QL m) : Rn MX5_takersNow [vR 7 0 0, vI (nI a1), vI (nI a2)] m (some (vI (v_X5_takersNow m a1 a2))) m := by
  refine rn_of [some (vR 7 0 0), some (vI (nI a1)), some (vI (nI a2)), none, none] rfl ?_
  unfold v_X5_takersNow
  refine an_b 4 (pc2 := 5) (L2 := [some (vR 7 0 0), some (vI (nI a1)), some (vI (nI a2)), some (vI (0 : Int32)), some (vI (0 : Int32))]) (st2 := []) (m1 := m) rfl ?_
  refine re_lp (σ := Int32) (b_X5_takersNow_1 m a1 a2) (fun j1 s1 => (5, [some (vR 7 0 0), some (vI (nI a1)), some (vI (nI a2)), some (vI s1), some (vI (nI j1))], [], m)) 8 (fun s1 => (40, [some (vR 7 0 0), some (vI (nI a1)), some (vI (nI a2)), some (vI s1), none], [], m)) (fun j1 s1 hj1 v9 m9 K1 => ?_) (fun s1 v9 m9 K1 => ?_) 8 0 (0 : Int32) (Nat.add_zero _) _ _ ?_
  · show An MX5_takersNow 5 [some (vR 7 0 0), some (vI (nI a1)), some (vI (nI a2)), some (vI s1), some (vI (nI j1))] [] m v9 m9
    refine an_b 3 (pc2 := if (8 : Int32) ≤ (nI j1) then 40 else 12) (L2 := [some (vR 7 0 0), some (vI (nI a1)), some (vI (nI a2)), some (vI s1), some (vI (nI j1))]) (st2 := []) (m1 := m) rfl ?_
    refine an_f (nI_ge (a := j1) (b := 8) (by omega) (by omega)) ?_
    refine an_b 5 (pc2 := 18) (L2 := [some (vR 7 0 0), some (vI (nI a1)), some (vI (nI a2)), some (vI s1), some (vI (nI j1))]) (st2 := [vI (nI j1), vI (nI a2), vI (nI a1), vR 7 0 0, vI s1]) (m1 := m) rfl ?_
    refine an_call (r_X5_canHandOn m a1 a2 (nI j1) (by omega) (by omega) hQ) rfl rfl rfl rfl ?_
    refine an_b 1 (pc2 := if (v_X5_canHandOn m a1 a2 (nI j1)) = 0 then 31 else 24) (L2 := [some (vR 7 0 0), some (vI (nI a1)), some (vI (nI a2)), some (vI s1), some (vI (nI j1))]) (st2 := [vI s1]) (m1 := m) rfl ?_
    refine re_if1 (c := (v_X5_canHandOn m a1 a2 (nI j1)) = 0) (a := (0 : Int32)) (b := ((1 : Int32) <<< ((nI j1) &&& (31 : Int32)))) (fun x => (32, [some (vR 7 0 0), some (vI (nI a1)), some (vI (nI a2)), some (vI s1), some (vI (nI j1))], [vI x, vI s1], m)) (fun h1 v9 m9 K2 => ?_) (fun h1 v9 m9 K2 => ?_) _ _ ?_
    · refine an_b 1 (pc2 := 32) (L2 := [some (vR 7 0 0), some (vI (nI a1)), some (vI (nI a2)), some (vI s1), some (vI (nI j1))]) (st2 := [vI (0 : Int32), vI s1]) (m1 := m) rfl ?_
      exact K2
    · refine an_b 4 (pc2 := 32) (L2 := [some (vR 7 0 0), some (vI (nI a1)), some (vI (nI a2)), some (vI s1), some (vI (nI j1))]) (st2 := [vI ((1 : Int32) <<< ((nI j1) &&& (31 : Int32))), vI s1]) (m1 := m) rfl ?_
      exact K2
    refine an_b 4 (pc2 := 5) (L2 := [some (vR 7 0 0), some (vI (nI a1)), some (vI (nI a2)), some (vI (s1 ||| (if (v_X5_canHandOn m a1 a2 (nI j1)) = 0 then (0 : Int32) else ((1 : Int32) <<< ((nI j1) &&& (31 : Int32)))))), some (vI ((nI j1) + (1 : Int32)))]) (st2 := []) (m1 := m) rfl ?_
    refine an_cL (K := [some (vR 7 0 0), some (vI (nI a1)), some (vI (nI a2)), some (vI (s1 ||| (if (v_X5_canHandOn m a1 a2 (nI j1)) = 0 then (0 : Int32) else ((1 : Int32) <<< ((nI j1) &&& (31 : Int32)))))), some (vI (nI (j1 + 1)))]) (by simp only [nI_1]) ?_
    exact K1
  · show An MX5_takersNow 5 [some (vR 7 0 0), some (vI (nI a1)), some (vI (nI a2)), some (vI s1), some (vI (nI 8))] [] m v9 m9
    refine an_b 3 (pc2 := if (8 : Int32) ≤ (nI 8) then 40 else 12) (L2 := [some (vR 7 0 0), some (vI (nI a1)), some (vI (nI a2)), some (vI s1), some (vI (nI 8))]) (st2 := []) (m1 := m) rfl ?_
    refine an_t (nI_le (a := 8) (b := 8) (by omega) (by omega)) ?_
    refine an_weak (L := [some (vR 7 0 0), some (vI (nI a1)), some (vI (nI a2)), some (vI s1), none]) (⟨rfl, rfl, rfl, rfl, trivial⟩) ?_
    exact K1
  show An MX5_takersNow 40 [some (vR 7 0 0), some (vI (nI a1)), some (vI (nI a2)), some (vI (lp (b_X5_takersNow_1 m a1 a2) 8 0 (0 : Int32))), none] [] m _ _
  refine an_b 1 (pc2 := 41) (L2 := [some (vR 7 0 0), some (vI (nI a1)), some (vI (nI a2)), some (vI (lp (b_X5_takersNow_1 m a1 a2) 8 0 (0 : Int32))), none]) (st2 := [vI (lp (b_X5_takersNow_1 m a1 a2) 8 0 (0 : Int32))]) (m1 := m) rfl ?_
  exact an_ret rfl rfl rfl rfl rfl
