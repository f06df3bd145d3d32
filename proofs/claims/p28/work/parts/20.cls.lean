def w_X2_copyFrom (m : PM) (g : Nat) (g1 : Nat) : PM := (wI (w_X1_copyFrom (w_X1_copyFrom (w_X1_copyFrom (w_X1_copyFrom (w_X1_copyFrom (w_X1_copyFrom (w_X1_copyFrom (w_X1_copyFrom (w_X1_copyFrom (w_X1_copyFrom (w_X1_copyFrom m 0 g 0 g1) 1 g 1 g1) 2 g 2 g1) 3 g 3 g1) 4 g 4 g1) 5 g 5 g1) 6 g 6 g1) 7 g 7 g1) 8 g 8 g1) 9 g 9 g1) 10 g 10 g1) 0 0 g 11 ((w_X1_copyFrom (w_X1_copyFrom (w_X1_copyFrom (w_X1_copyFrom (w_X1_copyFrom (w_X1_copyFrom (w_X1_copyFrom (w_X1_copyFrom (w_X1_copyFrom (w_X1_copyFrom (w_X1_copyFrom m 0 g 0 g1) 1 g 1 g1) 2 g 2 g1) 3 g 3 g1) 4 g 4 g1) 5 g 5 g1) 6 g 6 g1) 7 g 7 g1) 8 g 8 g1) 9 g 9 g1) 10 g 10 g1).1 0 0 g1 11))
set_option maxRecDepth 100000 in
theorem r_X2_copyFrom (m : PM) (g : Nat) (g1 : Nat) : Rn MX2_copyFrom [vR 0 0 g, vR 0 0 g1] m none (w_X2_copyFrom m g g1) := by
  refine rn_of [some (vR 0 0 g), some (vR 0 0 g1)] rfl ?_
  unfold w_X2_copyFrom
  refine an_b 6 (pc2 := 13) (L2 := [some (vR 0 0 g), some (vR 0 0 g1)]) (st2 := [vR 1 0 g1, vR 1 0 g]) (m1 := m) rfl ?_
  refine an_call (r_X1_copyFrom m 0 g 0 g1) rfl rfl rfl rfl ?_
  refine an_b 4 (pc2 := 24) (L2 := [some (vR 0 0 g), some (vR 0 0 g1)]) (st2 := [vR 1 1 g1, vR 1 1 g]) (m1 := (w_X1_copyFrom m 0 g 0 g1)) rfl ?_
  refine an_call (r_X1_copyFrom (w_X1_copyFrom m 0 g 0 g1) 1 g 1 g1) rfl rfl rfl rfl ?_
  refine an_b 4 (pc2 := 35) (L2 := [some (vR 0 0 g), some (vR 0 0 g1)]) (st2 := [vR 1 2 g1, vR 1 2 g]) (m1 := (w_X1_copyFrom (w_X1_copyFrom m 0 g 0 g1) 1 g 1 g1)) rfl ?_
  refine an_call (r_X1_copyFrom (w_X1_copyFrom (w_X1_copyFrom m 0 g 0 g1) 1 g 1 g1) 2 g 2 g1) rfl rfl rfl rfl ?_
  refine an_b 4 (pc2 := 46) (L2 := [some (vR 0 0 g), some (vR 0 0 g1)]) (st2 := [vR 1 3 g1, vR 1 3 g]) (m1 := (w_X1_copyFrom (w_X1_copyFrom (w_X1_copyFrom m 0 g 0 g1) 1 g 1 g1) 2 g 2 g1)) rfl ?_
  refine an_call (r_X1_copyFrom (w_X1_copyFrom (w_X1_copyFrom (w_X1_copyFrom m 0 g 0 g1) 1 g 1 g1) 2 g 2 g1) 3 g 3 g1) rfl rfl rfl rfl ?_
  refine an_b 4 (pc2 := 57) (L2 := [some (vR 0 0 g), some (vR 0 0 g1)]) (st2 := [vR 1 4 g1, vR 1 4 g]) (m1 := (w_X1_copyFrom (w_X1_copyFrom (w_X1_copyFrom (w_X1_copyFrom m 0 g 0 g1) 1 g 1 g1) 2 g 2 g1) 3 g 3 g1)) rfl ?_
  refine an_call (r_X1_copyFrom (w_X1_copyFrom (w_X1_copyFrom (w_X1_copyFrom (w_X1_copyFrom m 0 g 0 g1) 1 g 1 g1) 2 g 2 g1) 3 g 3 g1) 4 g 4 g1) rfl rfl rfl rfl ?_
  refine an_b 4 (pc2 := 68) (L2 := [some (vR 0 0 g), some (vR 0 0 g1)]) (st2 := [vR 1 5 g1, vR 1 5 g]) (m1 := (w_X1_copyFrom (w_X1_copyFrom (w_X1_copyFrom (w_X1_copyFrom (w_X1_copyFrom m 0 g 0 g1) 1 g 1 g1) 2 g 2 g1) 3 g 3 g1) 4 g 4 g1)) rfl ?_
  refine an_call (r_X1_copyFrom (w_X1_copyFrom (w_X1_copyFrom (w_X1_copyFrom (w_X1_copyFrom (w_X1_copyFrom m 0 g 0 g1) 1 g 1 g1) 2 g 2 g1) 3 g 3 g1) 4 g 4 g1) 5 g 5 g1) rfl rfl rfl rfl ?_
  refine an_b 4 (pc2 := 79) (L2 := [some (vR 0 0 g), some (vR 0 0 g1)]) (st2 := [vR 1 6 g1, vR 1 6 g]) (m1 := (w_X1_copyFrom (w_X1_copyFrom (w_X1_copyFrom (w_X1_copyFrom (w_X1_copyFrom (w_X1_copyFrom m 0 g 0 g1) 1 g 1 g1) 2 g 2 g1) 3 g 3 g1) 4 g 4 g1) 5 g 5 g1)) rfl ?_
  refine an_call (r_X1_copyFrom (w_X1_copyFrom (w_X1_copyFrom (w_X1_copyFrom (w_X1_copyFrom (w_X1_copyFrom (w_X1_copyFrom m 0 g 0 g1) 1 g 1 g1) 2 g 2 g1) 3 g 3 g1) 4 g 4 g1) 5 g 5 g1) 6 g 6 g1) rfl rfl rfl rfl ?_
  refine an_b 4 (pc2 := 90) (L2 := [some (vR 0 0 g), some (vR 0 0 g1)]) (st2 := [vR 1 7 g1, vR 1 7 g]) (m1 := (w_X1_copyFrom (w_X1_copyFrom (w_X1_copyFrom (w_X1_copyFrom (w_X1_copyFrom (w_X1_copyFrom (w_X1_copyFrom m 0 g 0 g1) 1 g 1 g1) 2 g 2 g1) 3 g 3 g1) 4 g 4 g1) 5 g 5 g1) 6 g 6 g1)) rfl ?_
  refine an_call (r_X1_copyFrom (w_X1_copyFrom (w_X1_copyFrom (w_X1_copyFrom (w_X1_copyFrom (w_X1_copyFrom (w_X1_copyFrom (w_X1_copyFrom m 0 g 0 g1) 1 g 1 g1) 2 g 2 g1) 3 g 3 g1) 4 g 4 g1) 5 g 5 g1) 6 g 6 g1) 7 g 7 g1) rfl rfl rfl rfl ?_
  refine an_b 4 (pc2 := 101) (L2 := [some (vR 0 0 g), some (vR 0 0 g1)]) (st2 := [vR 1 8 g1, vR 1 8 g]) (m1 := (w_X1_copyFrom (w_X1_copyFrom (w_X1_copyFrom (w_X1_copyFrom (w_X1_copyFrom (w_X1_copyFrom (w_X1_copyFrom (w_X1_copyFrom m 0 g 0 g1) 1 g 1 g1) 2 g 2 g1) 3 g 3 g1) 4 g 4 g1) 5 g 5 g1) 6 g 6 g1) 7 g 7 g1)) rfl ?_
  refine an_call (r_X1_copyFrom (w_X1_copyFrom (w_X1_copyFrom (w_X1_copyFrom (w_X1_copyFrom (w_X1_copyFrom (w_X1_copyFrom (w_X1_copyFrom (w_X1_copyFrom m 0 g 0 g1) 1 g 1 g1) 2 g 2 g1) 3 g 3 g1) 4 g 4 g1) 5 g 5 g1) 6 g 6 g1) 7 g 7 g1) 8 g 8 g1) rfl rfl rfl rfl ?_
  refine an_b 4 (pc2 := 112) (L2 := [some (vR 0 0 g), some (vR 0 0 g1)]) (st2 := [vR 1 9 g1, vR 1 9 g]) (m1 := (w_X1_copyFrom (w_X1_copyFrom (w_X1_copyFrom (w_X1_copyFrom (w_X1_copyFrom (w_X1_copyFrom (w_X1_copyFrom (w_X1_copyFrom (w_X1_copyFrom m 0 g 0 g1) 1 g 1 g1) 2 g 2 g1) 3 g 3 g1) 4 g 4 g1) 5 g 5 g1) 6 g 6 g1) 7 g 7 g1) 8 g 8 g1)) rfl ?_
  refine an_call (r_X1_copyFrom (w_X1_copyFrom (w_X1_copyFrom (w_X1_copyFrom (w_X1_copyFrom (w_X1_copyFrom (w_X1_copyFrom (w_X1_copyFrom (w_X1_copyFrom (w_X1_copyFrom m 0 g 0 g1) 1 g 1 g1) 2 g 2 g1) 3 g 3 g1) 4 g 4 g1) 5 g 5 g1) 6 g 6 g1) 7 g 7 g1) 8 g 8 g1) 9 g 9 g1) rfl rfl rfl rfl ?_
  refine an_b 4 (pc2 := 123) (L2 := [some (vR 0 0 g), some (vR 0 0 g1)]) (st2 := [vR 1 10 g1, vR 1 10 g]) (m1 := (w_X1_copyFrom (w_X1_copyFrom (w_X1_copyFrom (w_X1_copyFrom (w_X1_copyFrom (w_X1_copyFrom (w_X1_copyFrom (w_X1_copyFrom (w_X1_copyFrom (w_X1_copyFrom m 0 g 0 g1) 1 g 1 g1) 2 g 2 g1) 3 g 3 g1) 4 g 4 g1) 5 g 5 g1) 6 g 6 g1) 7 g 7 g1) 8 g 8 g1) 9 g 9 g1)) rfl ?_
  refine an_call (r_X1_copyFrom (w_X1_copyFrom (w_X1_copyFrom (w_X1_copyFrom (w_X1_copyFrom (w_X1_copyFrom (w_X1_copyFrom (w_X1_copyFrom (w_X1_copyFrom (w_X1_copyFrom (w_X1_copyFrom m 0 g 0 g1) 1 g 1 g1) 2 g 2 g1) 3 g 3 g1) 4 g 4 g1) 5 g 5 g1) 6 g 6 g1) 7 g 7 g1) 8 g 8 g1) 9 g 9 g1) 10 g 10 g1) rfl rfl rfl rfl ?_
  refine an_b 4 (pc2 := 134) (L2 := [some (vR 0 0 g), some (vR 0 0 g1)]) (st2 := []) (m1 := (wI (w_X1_copyFrom (w_X1_copyFrom (w_X1_copyFrom (w_X1_copyFrom (w_X1_copyFrom (w_X1_copyFrom (w_X1_copyFrom (w_X1_copyFrom (w_X1_copyFrom (w_X1_copyFrom (w_X1_copyFrom m 0 g 0 g1) 1 g 1 g1) 2 g 2 g1) 3 g 3 g1) 4 g 4 g1) 5 g 5 g1) 6 g 6 g1) 7 g 7 g1) 8 g 8 g1) 9 g 9 g1) 10 g 10 g1) 0 0 g 11 ((w_X1_copyFrom (w_X1_copyFrom (w_X1_copyFrom (w_X1_copyFrom (w_X1_copyFrom (w_X1_copyFrom (w_X1_copyFrom (w_X1_copyFrom (w_X1_copyFrom (w_X1_copyFrom (w_X1_copyFrom m 0 g 0 g1) 1 g 1 g1) 2 g 2 g1) 3 g 3 g1) 4 g 4 g1) 5 g 5 g1) 6 g 6 g1) 7 g 7 g1) 8 g 8 g1) 9 g 9 g1) 10 g 10 g1).1 0 0 g1 11))) rfl ?_
  exact an_ret rfl rfl rfl rfl rfl
def w_X1_raise (m : PM) (k : Nat) (g : Nat) (a1 : Int32) : PM := (w_X1_put m k g a1 ((v_X1_at m k g a1) + (1 : Int32)))
set_option maxRecDepth 100000 in
theorem r_X1_raise (m : PM) (k : Nat) (g : Nat) (a1 : Int32) : Rn MX1_raise [vR 1 k g, vI a1] m none (w_X1_raise m k g a1) := by
  refine rn_of [some (vR 1 k g), some (vI a1)] rfl ?_
  unfold w_X1_raise
  refine an_b 4 (pc2 := 4) (L2 := [some (vR 1 k g), some (vI a1)]) (st2 := [vI a1, vR 1 k g, vI a1, vR 1 k g]) (m1 := m) rfl ?_
  refine an_call (r_X1_at m k g a1) rfl rfl rfl rfl ?_
  refine an_b 2 (pc2 := 9) (L2 := [some (vR 1 k g), some (vI a1)]) (st2 := [vI ((v_X1_at m k g a1) + (1 : Int32)), vI a1, vR 1 k g]) (m1 := m) rfl ?_
  refine an_call (r_X1_put m k g a1 ((v_X1_at m k g a1) + (1 : Int32))) rfl rfl rfl rfl ?_
  exact an_ret rfl rfl rfl rfl rfl
def v_X2_isWaiting (m : PM) (g : Nat) (a1 : Int32) : Int32 := (if (v_X1_at m 1 g a1) = (-1 : Int32) then (0 : Int32) else (1 : Int32))
set_option maxRecDepth 100000 in
theorem r_X2_isWaiting (m : PM) (g : Nat) (a1 : Int32) : Rn MX2_isWaiting [vR 0 0 g, vI a1] m (some (vI (v_X2_isWaiting m g a1))) m := by
  refine rn_of [some (vR 0 0 g), some (vI a1)] rfl ?_
  unfold v_X2_isWaiting
  refine an_b 3 (pc2 := 5) (L2 := [some (vR 0 0 g), some (vI a1)]) (st2 := [vI a1, vR 1 1 g]) (m1 := m) rfl ?_
  refine an_call (r_X1_at m 1 g a1) rfl rfl rfl rfl ?_
  refine an_b 2 (pc2 := if (v_X1_at m 1 g a1) = (-1 : Int32) then 16 else 12) (L2 := [some (vR 0 0 g), some (vI a1)]) (st2 := []) (m1 := m) rfl ?_
  refine an_ifi (c := (v_X1_at m 1 g a1) = (-1 : Int32)) (fun h1 => ?_) (fun h1 => ?_)
  · refine an_b 1 (pc2 := 17) (L2 := [some (vR 0 0 g), some (vI a1)]) (st2 := [vI (0 : Int32)]) (m1 := m) rfl ?_
    exact an_ret rfl rfl rfl rfl rfl
  · refine an_b 2 (pc2 := 17) (L2 := [some (vR 0 0 g), some (vI a1)]) (st2 := [vI (1 : Int32)]) (m1 := m) rfl ?_
    exact an_ret rfl rfl rfl rfl rfl
def b_X2_queueLength_1 (m : PM) (g : Nat) (a1 : Int32)  (j1 : Nat) (s1 : Int32) : Int32 := (if ¬ (v_X1_at m 1 g (nI j1)) = a1 then s1 else (s1 + (1 : Int32)))
def v_X2_queueLength (m : PM) (g : Nat) (a1 : Int32) : Int32 := (lp (b_X2_queueLength_1 m g a1) 8 0 (0 : Int32))
set_option maxRecDepth 100000 in
theorem r_X2_queueLength (m : PM) (g : Nat) (a1 : Int32) : Rn MX2_queueLength [vR 0 0 g, vI a1] m (some (vI (v_X2_queueLength m g a1))) m := by
  refine rn_of [some (vR 0 0 g), some (vI a1), none, none] rfl ?_
  unfold v_X2_queueLength
  refine an_b 4 (pc2 := 4) (L2 := [some (vR 0 0 g), some (vI a1), some (vI (0 : Int32)), some (vI (0 : Int32))]) (st2 := []) (m1 := m) rfl ?_
  refine re_lp (σ := Int32) (b_X2_queueLength_1 m g a1) (fun j1 s1 => (4, [some (vR 0 0 g), some (vI a1), some (vI s1), some (vI (nI j1))], [], m)) 8 (fun s1 => (31, [some (vR 0 0 g), some (vI a1), some (vI s1), none], [], m)) (fun j1 s1 hj1 v9 m9 K1 => ?_) (fun s1 v9 m9 K1 => ?_) 8 0 (0 : Int32) (Nat.add_zero _) _ _ ?_
  · show An MX2_queueLength 4 [some (vR 0 0 g), some (vI a1), some (vI s1), some (vI (nI j1))] [] m v9 m9
    refine an_b 3 (pc2 := if (8 : Int32) ≤ (nI j1) then 31 else 10) (L2 := [some (vR 0 0 g), some (vI a1), some (vI s1), some (vI (nI j1))]) (st2 := []) (m1 := m) rfl ?_
    refine an_f (nI_ge (a := j1) (b := 8) (by omega) (by omega)) ?_
    refine an_b 3 (pc2 := 15) (L2 := [some (vR 0 0 g), some (vI a1), some (vI s1), some (vI (nI j1))]) (st2 := [vI (nI j1), vR 1 1 g]) (m1 := m) rfl ?_
    refine an_call (r_X1_at m 1 g (nI j1)) rfl rfl rfl rfl ?_
    refine an_b 2 (pc2 := if ¬ (v_X1_at m 1 g (nI j1)) = a1 then 25 else 22) (L2 := [some (vR 0 0 g), some (vI a1), some (vI s1), some (vI (nI j1))]) (st2 := []) (m1 := m) rfl ?_
    refine re_if1 (c := ¬ (v_X1_at m 1 g (nI j1)) = a1) (a := s1) (b := s1 + (1 : Int32)) (fun x => (25, [some (vR 0 0 g), some (vI a1), some (vI x), some (vI (nI j1))], [], m)) (fun h1 v9 m9 K2 => ?_) (fun h1 v9 m9 K2 => ?_) _ _ ?_
    · exact K2
    · refine an_b 1 (pc2 := 25) (L2 := [some (vR 0 0 g), some (vI a1), some (vI (s1 + (1 : Int32))), some (vI (nI j1))]) (st2 := []) (m1 := m) rfl ?_
      exact K2
    refine an_b 2 (pc2 := 4) (L2 := [some (vR 0 0 g), some (vI a1), some (vI (if ¬ (v_X1_at m 1 g (nI j1)) = a1 then s1 else (s1 + (1 : Int32)))), some (vI ((nI j1) + (1 : Int32)))]) (st2 := []) (m1 := m) rfl ?_
    refine an_cL (K := [some (vR 0 0 g), some (vI a1), some (vI (if ¬ (v_X1_at m 1 g (nI j1)) = a1 then s1 else (s1 + (1 : Int32)))), some (vI (nI (j1 + 1)))]) (by simp only [nI_1]) ?_
    exact K1
  · show An MX2_queueLength 4 [some (vR 0 0 g), some (vI a1), some (vI s1), some (vI (nI 8))] [] m v9 m9
    refine an_b 3 (pc2 := if (8 : Int32) ≤ (nI 8) then 31 else 10) (L2 := [some (vR 0 0 g), some (vI a1), some (vI s1), some (vI (nI 8))]) (st2 := []) (m1 := m) rfl ?_
    refine an_t (nI_le (a := 8) (b := 8) (by omega) (by omega)) ?_
    refine an_weak (L := [some (vR 0 0 g), some (vI a1), some (vI s1), none]) (⟨rfl, rfl, rfl, trivial⟩) ?_
    exact K1
  show An MX2_queueLength 31 [some (vR 0 0 g), some (vI a1), some (vI (lp (b_X2_queueLength_1 m g a1) 8 0 (0 : Int32))), none] [] m _ _
  refine an_b 1 (pc2 := 32) (L2 := [some (vR 0 0 g), some (vI a1), some (vI (lp (b_X2_queueLength_1 m g a1) 8 0 (0 : Int32))), none]) (st2 := [vI (lp (b_X2_queueLength_1 m g a1) 8 0 (0 : Int32))]) (m1 := m) rfl ?_
  exact an_ret rfl rfl rfl rfl rfl
def b_X2_handAt_1 (m : PM) (g : Nat) (a1 : Int32) (a2 : Int32)  (j1 : Nat) (s1 : Unit) : (Unit) ⊕ (Int32) := if ¬ (v_X1_at m 1 g (nI j1)) = a1 then .inl () else if ¬ (v_X1_at m 3 g (nI j1)) = a2 then .inl () else .inr (nI j1)
def v_X2_handAt (m : PM) (g : Nat) (a1 : Int32) (a2 : Int32) : Int32 := (lqr (fun s1 : Unit => (-1 : Int32)) (lq (b_X2_handAt_1 m g a1 a2) 8 0 ()))
set_option maxRecDepth 100000 in
theorem r_X2_handAt (m : PM) (g : Nat) (a1 : Int32) (a2 : Int32) : Rn MX2_handAt [vR 0 0 g, vI a1, vI a2] m (some (vI (v_X2_handAt m g a1 a2))) m := by
  refine rn_of [some (vR 0 0 g), some (vI a1), some (vI a2), none] rfl ?_
  unfold v_X2_handAt
  refine an_b 2 (pc2 := 2) (L2 := [some (vR 0 0 g), some (vI a1), some (vI a2), some (vI (0 : Int32))]) (st2 := []) (m1 := m) rfl ?_
  refine an_lq (σ := Unit) (ρ := Int32) (b_X2_handAt_1 m g a1 a2) (fun j1 s1 => (2, [some (vR 0 0 g), some (vI a1), some (vI a2), some (vI (nI j1))], [], m)) 8 (fun x9 => .inl (some (vI (lqr (fun s1 => (-1 : Int32)) x9)))) (fun _ => m) (fun j1 s1 hj1 v9 m9 hc1 hr1 => ?_) (fun s1 => ?_) 8 0 () (Nat.add_zero _)
  · show An MX2_handAt 2 [some (vR 0 0 g), some (vI a1), some (vI a2), some (vI (nI j1))] [] m v9 m9
    refine an_b 3 (pc2 := if (8 : Int32) ≤ (nI j1) then 40 else 8) (L2 := [some (vR 0 0 g), some (vI a1), some (vI a2), some (vI (nI j1))]) (st2 := []) (m1 := m) rfl ?_
    refine an_f (nI_ge (a := j1) (b := 8) (by omega) (by omega)) ?_
    refine an_b 3 (pc2 := 13) (L2 := [some (vR 0 0 g), some (vI a1), some (vI a2), some (vI (nI j1))]) (st2 := [vI (nI j1), vR 1 1 g]) (m1 := m) rfl ?_
    refine an_call (r_X1_at m 1 g (nI j1)) rfl rfl rfl rfl ?_
    refine an_b 2 (pc2 := if ¬ (v_X1_at m 1 g (nI j1)) = a1 then 34 else 20) (L2 := [some (vR 0 0 g), some (vI a1), some (vI a2), some (vI (nI j1))]) (st2 := []) (m1 := m) rfl ?_
    refine an_if (c := ¬ (v_X1_at m 1 g (nI j1)) = a1) (fun h1 => ?_) (fun h1 => ?_)
    · refine an_b 2 (pc2 := 2) (L2 := [some (vR 0 0 g), some (vI a1), some (vI a2), some (vI ((nI j1) + (1 : Int32)))]) (st2 := []) (m1 := m) rfl ?_
      refine an_cL (K := [some (vR 0 0 g), some (vI a1), some (vI a2), some (vI (nI (j1 + 1)))]) (by simp only [nI_1]) ?_
      exact hc1 _ (by unfold b_X2_handAt_1; rw [if_pos h1])
    · refine an_b 3 (pc2 := 25) (L2 := [some (vR 0 0 g), some (vI a1), some (vI a2), some (vI (nI j1))]) (st2 := [vI (nI j1), vR 1 3 g]) (m1 := m) rfl ?_
      refine an_call (r_X1_at m 3 g (nI j1)) rfl rfl rfl rfl ?_
      refine an_b 2 (pc2 := if ¬ (v_X1_at m 3 g (nI j1)) = a2 then 34 else 32) (L2 := [some (vR 0 0 g), some (vI a1), some (vI a2), some (vI (nI j1))]) (st2 := []) (m1 := m) rfl ?_
      refine an_if (c := ¬ (v_X1_at m 3 g (nI j1)) = a2) (fun h2 => ?_) (fun h2 => ?_)
      · refine an_b 2 (pc2 := 2) (L2 := [some (vR 0 0 g), some (vI a1), some (vI a2), some (vI ((nI j1) + (1 : Int32)))]) (st2 := []) (m1 := m) rfl ?_
        refine an_cL (K := [some (vR 0 0 g), some (vI a1), some (vI a2), some (vI (nI (j1 + 1)))]) (by simp only [nI_1]) ?_
        exact hc1 _ (by unfold b_X2_handAt_1; rw [if_neg h1, if_pos h2])
      · refine an_b 1 (pc2 := 33) (L2 := [some (vR 0 0 g), some (vI a1), some (vI a2), some (vI (nI j1))]) (st2 := [vI (nI j1)]) (m1 := m) rfl ?_
        obtain ⟨rfl, rfl⟩ := hr1 _ (by unfold b_X2_handAt_1; rw [if_neg h1, if_neg h2])
        exact an_ret rfl rfl rfl rfl rfl
  · show An MX2_handAt 2 [some (vR 0 0 g), some (vI a1), some (vI a2), some (vI (nI 8))] [] m _ _
    refine an_b 3 (pc2 := if (8 : Int32) ≤ (nI 8) then 40 else 8) (L2 := [some (vR 0 0 g), some (vI a1), some (vI a2), some (vI (nI 8))]) (st2 := []) (m1 := m) rfl ?_
    refine an_t (nI_le (a := 8) (b := 8) (by omega) (by omega)) ?_
    refine an_b 1 (pc2 := 41) (L2 := [some (vR 0 0 g), some (vI a1), some (vI a2), some (vI (nI 8))]) (st2 := [vI (-1 : Int32)]) (m1 := m) rfl ?_
    exact an_ret rfl rfl rfl rfl rfl
def v_X4_cell (m : PM) (a1 : Int32) (a2 : Int32) : Int32 := ((a1 * (12 : Int32)) + a2)
set_option maxRecDepth 100000 in
theorem r_X4_cell (m : PM) (a1 : Int32) (a2 : Int32) : Rn MX4_cell [vI a1, vI a2] m (some (vI (v_X4_cell m a1 a2))) m := by
  refine rn_of [some (vI a1), some (vI a2)] rfl ?_
  unfold v_X4_cell
  refine an_b 5 (pc2 := 6) (L2 := [some (vI a1), some (vI a2)]) (st2 := [vI ((a1 * (12 : Int32)) + a2)]) (m1 := m) rfl ?_
  exact an_ret rfl rfl rfl rfl rfl
def b_X2_placeForHolder_1 (m : PM) (g : Nat) (a1 : Int32)  (j1 : Nat) (s1 : Int32) : Int32 := (if ¬ (v_X1_at m 1 g (nI j1)) = a1 then s1 else (if (v_X1_at m 0 g (v_X4_cell m (nI j1) a1)) ≤ 0 then s1 else (if s1 < ((v_X1_at m 3 g (nI j1)) + (1 : Int32)) then ((v_X1_at m 3 g (nI j1)) + (1 : Int32)) else s1)))
def v_X2_placeForHolder (m : PM) (g : Nat) (a1 : Int32) : Int32 := (lp (b_X2_placeForHolder_1 m g a1) 8 0 (0 : Int32))
set_option maxRecDepth 100000 in
theorem r_X2_placeForHolder (m : PM) (g : Nat) (a1 : Int32) : Rn MX2_placeForHolder [vR 0 0 g, vI a1] m (some (vI (v_X2_placeForHolder m g a1))) m := by
  refine rn_of [some (vR 0 0 g), some (vI a1), none, none] rfl ?_
  unfold v_X2_placeForHolder
  refine an_b 4 (pc2 := 4) (L2 := [some (vR 0 0 g), some (vI a1), some (vI (0 : Int32)), some (vI (0 : Int32))]) (st2 := []) (m1 := m) rfl ?_
  refine re_lp (σ := Int32) (b_X2_placeForHolder_1 m g a1) (fun j1 s1 => (4, [some (vR 0 0 g), some (vI a1), some (vI s1), some (vI (nI j1))], [], m)) 8 (fun s1 => (58, [some (vR 0 0 g), some (vI a1), some (vI s1), none], [], m)) (fun j1 s1 hj1 v9 m9 K1 => ?_) (fun s1 v9 m9 K1 => ?_) 8 0 (0 : Int32) (Nat.add_zero _) _ _ ?_
  · show An MX2_placeForHolder 4 [some (vR 0 0 g), some (vI a1), some (vI s1), some (vI (nI j1))] [] m v9 m9
    refine an_b 3 (pc2 := if (8 : Int32) ≤ (nI j1) then 58 else 10) (L2 := [some (vR 0 0 g), some (vI a1), some (vI s1), some (vI (nI j1))]) (st2 := []) (m1 := m) rfl ?_
    refine an_f (nI_ge (a := j1) (b := 8) (by omega) (by omega)) ?_
    refine an_b 3 (pc2 := 15) (L2 := [some (vR 0 0 g), some (vI a1), some (vI s1), some (vI (nI j1))]) (st2 := [vI (nI j1), vR 1 1 g]) (m1 := m) rfl ?_
    refine an_call (r_X1_at m 1 g (nI j1)) rfl rfl rfl rfl ?_
    refine an_b 2 (pc2 := if ¬ (v_X1_at m 1 g (nI j1)) = a1 then 52 else 22) (L2 := [some (vR 0 0 g), some (vI a1), some (vI s1), some (vI (nI j1))]) (st2 := []) (m1 := m) rfl ?_
    refine re_if1 (c := ¬ (v_X1_at m 1 g (nI j1)) = a1) (a := s1) (b := (if (v_X1_at m 0 g (v_X4_cell m (nI j1) a1)) ≤ 0 then s1 else (if s1 < ((v_X1_at m 3 g (nI j1)) + (1 : Int32)) then ((v_X1_at m 3 g (nI j1)) + (1 : Int32)) else s1))) (fun x => (52, [some (vR 0 0 g), some (vI a1), some (vI x), some (vI (nI j1))], [], m)) (fun h1 v9 m9 K4 => ?_) (fun h1 v9 m9 K4 => ?_) _ _ ?_
    · exact K4
    · refine an_b 4 (pc2 := 28) (L2 := [some (vR 0 0 g), some (vI a1), some (vI s1), some (vI (nI j1))]) (st2 := [vI a1, vI (nI j1), vR 1 0 g]) (m1 := m) rfl ?_
      refine an_call (r_X4_cell m (nI j1) a1) rfl rfl rfl rfl ?_
      refine an_call (r_X1_at m 0 g (v_X4_cell m (nI j1) a1)) rfl rfl rfl rfl ?_
      refine an_b 1 (pc2 := if (v_X1_at m 0 g (v_X4_cell m (nI j1) a1)) ≤ 0 then 52 else 37) (L2 := [some (vR 0 0 g), some (vI a1), some (vI s1), some (vI (nI j1))]) (st2 := []) (m1 := m) rfl ?_
      refine re_if1 (c := (v_X1_at m 0 g (v_X4_cell m (nI j1) a1)) ≤ 0) (a := s1) (b := (if s1 < ((v_X1_at m 3 g (nI j1)) + (1 : Int32)) then ((v_X1_at m 3 g (nI j1)) + (1 : Int32)) else s1)) (fun x => (52, [some (vR 0 0 g), some (vI a1), some (vI x), some (vI (nI j1))], [], m)) (fun h2 v9 m9 K3 => ?_) (fun h2 v9 m9 K3 => ?_) _ _ ?_
      · exact K3
      · refine an_b 4 (pc2 := 43) (L2 := [some (vR 0 0 g), some (vI a1), some (vI s1), some (vI (nI j1))]) (st2 := [vI (nI j1), vR 1 3 g, vI s1]) (m1 := m) rfl ?_
        refine an_call (r_X1_at m 3 g (nI j1)) rfl rfl rfl rfl ?_
        refine an_b 4 (pc2 := 52) (L2 := [some (vR 0 0 g), some (vI a1), some (vI (if s1 < ((v_X1_at m 3 g (nI j1)) + (1 : Int32)) then ((v_X1_at m 3 g (nI j1)) + (1 : Int32)) else s1)), some (vI (nI j1))]) (st2 := []) (m1 := m) rfl ?_
        exact K3
      exact K4
    refine an_b 2 (pc2 := 4) (L2 := [some (vR 0 0 g), some (vI a1), some (vI (if ¬ (v_X1_at m 1 g (nI j1)) = a1 then s1 else (if (v_X1_at m 0 g (v_X4_cell m (nI j1) a1)) ≤ 0 then s1 else (if s1 < ((v_X1_at m 3 g (nI j1)) + (1 : Int32)) then ((v_X1_at m 3 g (nI j1)) + (1 : Int32)) else s1)))), some (vI ((nI j1) + (1 : Int32)))]) (st2 := []) (m1 := m) rfl ?_
    refine an_cL (K := [some (vR 0 0 g), some (vI a1), some (vI (if ¬ (v_X1_at m 1 g (nI j1)) = a1 then s1 else (if (v_X1_at m 0 g (v_X4_cell m (nI j1) a1)) ≤ 0 then s1 else (if s1 < ((v_X1_at m 3 g (nI j1)) + (1 : Int32)) then ((v_X1_at m 3 g (nI j1)) + (1 : Int32)) else s1)))), some (vI (nI (j1 + 1)))]) (by simp only [nI_1]) ?_
    exact K1
  · show An MX2_placeForHolder 4 [some (vR 0 0 g), some (vI a1), some (vI s1), some (vI (nI 8))] [] m v9 m9
    refine an_b 3 (pc2 := if (8 : Int32) ≤ (nI 8) then 58 else 10) (L2 := [some (vR 0 0 g), some (vI a1), some (vI s1), some (vI (nI 8))]) (st2 := []) (m1 := m) rfl ?_
    refine an_t (nI_le (a := 8) (b := 8) (by omega) (by omega)) ?_
    refine an_weak (L := [some (vR 0 0 g), some (vI a1), some (vI s1), none]) (⟨rfl, rfl, rfl, trivial⟩) ?_
    exact K1
  show An MX2_placeForHolder 58 [some (vR 0 0 g), some (vI a1), some (vI (lp (b_X2_placeForHolder_1 m g a1) 8 0 (0 : Int32))), none] [] m _ _
  refine an_b 1 (pc2 := 59) (L2 := [some (vR 0 0 g), some (vI a1), some (vI (lp (b_X2_placeForHolder_1 m g a1) 8 0 (0 : Int32))), none]) (st2 := [vI (lp (b_X2_placeForHolder_1 m g a1) 8 0 (0 : Int32))]) (m1 := m) rfl ?_
  exact an_ret rfl rfl rfl rfl rfl
def b_X2_enqueue_1 (m : PM) (g : Nat) (a1 : Int32) (a2 : Int32) (a3 : Int32)  (j1 : Nat) (s1 : PM) : PM := (if ¬ (v_X1_at s1 1 g (nI j1)) = a2 then s1 else (if (v_X1_at s1 3 g (nI j1)) < (if (v_X1_at m 0 g (v_X4_cell m a1 a2)) ≤ 0 then (v_X2_queueLength m g a2) else (v_X2_placeForHolder m g a2)) then s1 else (w_X1_raise s1 3 g (nI j1))))
def w_X2_enqueue (m : PM) (g : Nat) (a1 : Int32) (a2 : Int32) (a3 : Int32) : PM := (w_X1_put (w_X1_put (w_X1_put (lp (b_X2_enqueue_1 m g a1 a2 a3) 8 0 m) 1 g a1 a2) 2 g a1 a3) 3 g a1 (if (v_X1_at m 0 g (v_X4_cell m a1 a2)) ≤ 0 then (v_X2_queueLength m g a2) else (v_X2_placeForHolder m g a2)))
set_option maxRecDepth 100000 in
theorem r_X2_enqueue (m : PM) (g : Nat) (a1 : Int32) (a2 : Int32) (a3 : Int32) : Rn MX2_enqueue [vR 0 0 g, vI a1, vI a2, vI a3] m none (w_X2_enqueue m g a1 a2 a3) := by
  refine rn_of [some (vR 0 0 g), some (vI a1), some (vI a2), some (vI a3), none, none] rfl ?_
  unfold w_X2_enqueue
  refine an_b 4 (pc2 := 6) (L2 := [some (vR 0 0 g), some (vI a1), some (vI a2), some (vI a3), none, none]) (st2 := [vI a2, vI a1, vR 1 0 g]) (m1 := m) rfl ?_
  refine an_call (r_X4_cell m a1 a2) rfl rfl rfl rfl ?_
  refine an_call (r_X1_at m 0 g (v_X4_cell m a1 a2)) rfl rfl rfl rfl ?_
  refine an_b 1 (pc2 := if (v_X1_at m 0 g (v_X4_cell m a1 a2)) ≤ 0 then 23 else 15) (L2 := [some (vR 0 0 g), some (vI a1), some (vI a2), some (vI a3), none, none]) (st2 := []) (m1 := m) rfl ?_
  refine re_if1 (c := (v_X1_at m 0 g (v_X4_cell m a1 a2)) ≤ 0) (a := (v_X2_queueLength m g a2)) (b := (v_X2_placeForHolder m g a2)) (fun x => (28, [some (vR 0 0 g), some (vI a1), some (vI a2), some (vI a3), none, none], [vI x], m)) (fun h1 v9 m9 K2 => ?_) (fun h1 v9 m9 K2 => ?_) _ _ ?_
  · refine an_b 2 (pc2 := 25) (L2 := [some (vR 0 0 g), some (vI a1), some (vI a2), some (vI a3), none, none]) (st2 := [vI a2, vR 0 0 g]) (m1 := m) rfl ?_
    refine an_call (r_X2_queueLength m g a2) rfl rfl rfl rfl ?_
    exact K2
  · refine an_b 2 (pc2 := 17) (L2 := [some (vR 0 0 g), some (vI a1), some (vI a2), some (vI a3), none, none]) (st2 := [vI a2, vR 0 0 g]) (m1 := m) rfl ?_
    refine an_call (r_X2_placeForHolder m g a2) rfl rfl rfl rfl ?_
    refine an_b 1 (pc2 := 28) (L2 := [some (vR 0 0 g), some (vI a1), some (vI a2), some (vI a3), none, none]) (st2 := [vI (v_X2_placeForHolder m g a2)]) (m1 := m) rfl ?_
    exact K2
  refine an_b 3 (pc2 := 33) (L2 := [some (vR 0 0 g), some (vI a1), some (vI a2), some (vI a3), some (vI (if (v_X1_at m 0 g (v_X4_cell m a1 a2)) ≤ 0 then (v_X2_queueLength m g a2) else (v_X2_placeForHolder m g a2))), some (vI (0 : Int32))]) (st2 := []) (m1 := m) rfl ?_
  refine re_lp (σ := PM) (b_X2_enqueue_1 m g a1 a2 a3) (fun j1 s1 => (33, [some (vR 0 0 g), some (vI a1), some (vI a2), some (vI a3), some (vI (if (v_X1_at m 0 g (v_X4_cell m a1 a2)) ≤ 0 then (v_X2_queueLength m g a2) else (v_X2_placeForHolder m g a2))), some (vI (nI j1))], [], s1)) 8 (fun s1 => (82, [some (vR 0 0 g), some (vI a1), some (vI a2), some (vI a3), some (vI (if (v_X1_at m 0 g (v_X4_cell m a1 a2)) ≤ 0 then (v_X2_queueLength m g a2) else (v_X2_placeForHolder m g a2))), none], [], s1)) (fun j1 s1 hj1 v9 m9 K1 => ?_) (fun s1 v9 m9 K1 => ?_) 8 0 m (Nat.add_zero _) _ _ ?_
  · show An MX2_enqueue 33 [some (vR 0 0 g), some (vI a1), some (vI a2), some (vI a3), some (vI (if (v_X1_at m 0 g (v_X4_cell m a1 a2)) ≤ 0 then (v_X2_queueLength m g a2) else (v_X2_placeForHolder m g a2))), some (vI (nI j1))] [] s1 v9 m9
    refine an_b 3 (pc2 := if (8 : Int32) ≤ (nI j1) then 82 else 40) (L2 := [some (vR 0 0 g), some (vI a1), some (vI a2), some (vI a3), some (vI (if (v_X1_at m 0 g (v_X4_cell m a1 a2)) ≤ 0 then (v_X2_queueLength m g a2) else (v_X2_placeForHolder m g a2))), some (vI (nI j1))]) (st2 := []) (m1 := s1) rfl ?_
    refine an_f (nI_ge (a := j1) (b := 8) (by omega) (by omega)) ?_
    refine an_b 3 (pc2 := 46) (L2 := [some (vR 0 0 g), some (vI a1), some (vI a2), some (vI a3), some (vI (if (v_X1_at m 0 g (v_X4_cell m a1 a2)) ≤ 0 then (v_X2_queueLength m g a2) else (v_X2_placeForHolder m g a2))), some (vI (nI j1))]) (st2 := [vI (nI j1), vR 1 1 g]) (m1 := s1) rfl ?_
    refine an_call (r_X1_at s1 1 g (nI j1)) rfl rfl rfl rfl ?_
    refine an_b 2 (pc2 := if ¬ (v_X1_at s1 1 g (nI j1)) = a2 then 76 else 53) (L2 := [some (vR 0 0 g), some (vI a1), some (vI a2), some (vI a3), some (vI (if (v_X1_at m 0 g (v_X4_cell m a1 a2)) ≤ 0 then (v_X2_queueLength m g a2) else (v_X2_placeForHolder m g a2))), some (vI (nI j1))]) (st2 := []) (m1 := s1) rfl ?_
    refine re_if1 (c := ¬ (v_X1_at s1 1 g (nI j1)) = a2) (a := s1) (b := (if (v_X1_at s1 3 g (nI j1)) < (if (v_X1_at m 0 g (v_X4_cell m a1 a2)) ≤ 0 then (v_X2_queueLength m g a2) else (v_X2_placeForHolder m g a2)) then s1 else (w_X1_raise s1 3 g (nI j1)))) (fun x => (76, [some (vR 0 0 g), some (vI a1), some (vI a2), some (vI a3), some (vI (if (v_X1_at m 0 g (v_X4_cell m a1 a2)) ≤ 0 then (v_X2_queueLength m g a2) else (v_X2_placeForHolder m g a2))), some (vI (nI j1))], [], x)) (fun h3 v9 m9 K6 => ?_) (fun h3 v9 m9 K6 => ?_) _ _ ?_
    · exact K6
    · refine an_b 3 (pc2 := 59) (L2 := [some (vR 0 0 g), some (vI a1), some (vI a2), some (vI a3), some (vI (if (v_X1_at m 0 g (v_X4_cell m a1 a2)) ≤ 0 then (v_X2_queueLength m g a2) else (v_X2_placeForHolder m g a2))), some (vI (nI j1))]) (st2 := [vI (nI j1), vR 1 3 g]) (m1 := s1) rfl ?_
      refine an_call (r_X1_at s1 3 g (nI j1)) rfl rfl rfl rfl ?_
      refine an_b 2 (pc2 := if (v_X1_at s1 3 g (nI j1)) < (if (v_X1_at m 0 g (v_X4_cell m a1 a2)) ≤ 0 then (v_X2_queueLength m g a2) else (v_X2_placeForHolder m g a2)) then 76 else 67) (L2 := [some (vR 0 0 g), some (vI a1), some (vI a2), some (vI a3), some (vI (if (v_X1_at m 0 g (v_X4_cell m a1 a2)) ≤ 0 then (v_X2_queueLength m g a2) else (v_X2_placeForHolder m g a2))), some (vI (nI j1))]) (st2 := []) (m1 := s1) rfl ?_
      refine re_if1 (c := (v_X1_at s1 3 g (nI j1)) < (if (v_X1_at m 0 g (v_X4_cell m a1 a2)) ≤ 0 then (v_X2_queueLength m g a2) else (v_X2_placeForHolder m g a2))) (a := s1) (b := (w_X1_raise s1 3 g (nI j1))) (fun x => (76, [some (vR 0 0 g), some (vI a1), some (vI a2), some (vI a3), some (vI (if (v_X1_at m 0 g (v_X4_cell m a1 a2)) ≤ 0 then (v_X2_queueLength m g a2) else (v_X2_placeForHolder m g a2))), some (vI (nI j1))], [], x)) (fun h4 v9 m9 K5 => ?_) (fun h4 v9 m9 K5 => ?_) _ _ ?_
      · exact K5
      · refine an_b 3 (pc2 := 73) (L2 := [some (vR 0 0 g), some (vI a1), some (vI a2), some (vI a3), some (vI (if (v_X1_at m 0 g (v_X4_cell m a1 a2)) ≤ 0 then (v_X2_queueLength m g a2) else (v_X2_placeForHolder m g a2))), some (vI (nI j1))]) (st2 := [vI (nI j1), vR 1 3 g]) (m1 := s1) rfl ?_
        refine an_call (r_X1_raise s1 3 g (nI j1)) rfl rfl rfl rfl ?_
        exact K5
      exact K6
    refine an_b 2 (pc2 := 33) (L2 := [some (vR 0 0 g), some (vI a1), some (vI a2), some (vI a3), some (vI (if (v_X1_at m 0 g (v_X4_cell m a1 a2)) ≤ 0 then (v_X2_queueLength m g a2) else (v_X2_placeForHolder m g a2))), some (vI ((nI j1) + (1 : Int32)))]) (st2 := []) (m1 := (if ¬ (v_X1_at s1 1 g (nI j1)) = a2 then s1 else (if (v_X1_at s1 3 g (nI j1)) < (if (v_X1_at m 0 g (v_X4_cell m a1 a2)) ≤ 0 then (v_X2_queueLength m g a2) else (v_X2_placeForHolder m g a2)) then s1 else (w_X1_raise s1 3 g (nI j1))))) rfl ?_
    refine an_cL (K := [some (vR 0 0 g), some (vI a1), some (vI a2), some (vI a3), some (vI (if (v_X1_at m 0 g (v_X4_cell m a1 a2)) ≤ 0 then (v_X2_queueLength m g a2) else (v_X2_placeForHolder m g a2))), some (vI (nI (j1 + 1)))]) (by simp only [nI_1]) ?_
    exact K1
  · show An MX2_enqueue 33 [some (vR 0 0 g), some (vI a1), some (vI a2), some (vI a3), some (vI (if (v_X1_at m 0 g (v_X4_cell m a1 a2)) ≤ 0 then (v_X2_queueLength m g a2) else (v_X2_placeForHolder m g a2))), some (vI (nI 8))] [] s1 v9 m9
    refine an_b 3 (pc2 := if (8 : Int32) ≤ (nI 8) then 82 else 40) (L2 := [some (vR 0 0 g), some (vI a1), some (vI a2), some (vI a3), some (vI (if (v_X1_at m 0 g (v_X4_cell m a1 a2)) ≤ 0 then (v_X2_queueLength m g a2) else (v_X2_placeForHolder m g a2))), some (vI (nI 8))]) (st2 := []) (m1 := s1) rfl ?_
    refine an_t (nI_le (a := 8) (b := 8) (by omega) (by omega)) ?_
    refine an_weak (L := [some (vR 0 0 g), some (vI a1), some (vI a2), some (vI a3), some (vI (if (v_X1_at m 0 g (v_X4_cell m a1 a2)) ≤ 0 then (v_X2_queueLength m g a2) else (v_X2_placeForHolder m g a2))), none]) (⟨rfl, rfl, rfl, rfl, rfl, trivial⟩) ?_
    exact K1
  show An MX2_enqueue 82 [some (vR 0 0 g), some (vI a1), some (vI a2), some (vI a3), some (vI (if (v_X1_at m 0 g (v_X4_cell m a1 a2)) ≤ 0 then (v_X2_queueLength m g a2) else (v_X2_placeForHolder m g a2))), none] [] (lp (b_X2_enqueue_1 m g a1 a2 a3) 8 0 m) _ _
  refine an_b 4 (pc2 := 88) (L2 := [some (vR 0 0 g), some (vI a1), some (vI a2), some (vI a3), some (vI (if (v_X1_at m 0 g (v_X4_cell m a1 a2)) ≤ 0 then (v_X2_queueLength m g a2) else (v_X2_placeForHolder m g a2))), none]) (st2 := [vI a2, vI a1, vR 1 1 g]) (m1 := (lp (b_X2_enqueue_1 m g a1 a2 a3) 8 0 m)) rfl ?_
  refine an_call (r_X1_put (lp (b_X2_enqueue_1 m g a1 a2 a3) 8 0 m) 1 g a1 a2) rfl rfl rfl rfl ?_
  refine an_b 4 (pc2 := 97) (L2 := [some (vR 0 0 g), some (vI a1), some (vI a2), some (vI a3), some (vI (if (v_X1_at m 0 g (v_X4_cell m a1 a2)) ≤ 0 then (v_X2_queueLength m g a2) else (v_X2_placeForHolder m g a2))), none]) (st2 := [vI a3, vI a1, vR 1 2 g]) (m1 := (w_X1_put (lp (b_X2_enqueue_1 m g a1 a2 a3) 8 0 m) 1 g a1 a2)) rfl ?_
  refine an_call (r_X1_put (w_X1_put (lp (b_X2_enqueue_1 m g a1 a2 a3) 8 0 m) 1 g a1 a2) 2 g a1 a3) rfl rfl rfl rfl ?_
  refine an_b 4 (pc2 := 107) (L2 := [some (vR 0 0 g), some (vI a1), some (vI a2), some (vI a3), some (vI (if (v_X1_at m 0 g (v_X4_cell m a1 a2)) ≤ 0 then (v_X2_queueLength m g a2) else (v_X2_placeForHolder m g a2))), none]) (st2 := [vI (if (v_X1_at m 0 g (v_X4_cell m a1 a2)) ≤ 0 then (v_X2_queueLength m g a2) else (v_X2_placeForHolder m g a2)), vI a1, vR 1 3 g]) (m1 := (w_X1_put (w_X1_put (lp (b_X2_enqueue_1 m g a1 a2 a3) 8 0 m) 1 g a1 a2) 2 g a1 a3)) rfl ?_
  refine an_call (r_X1_put (w_X1_put (w_X1_put (lp (b_X2_enqueue_1 m g a1 a2 a3) 8 0 m) 1 g a1 a2) 2 g a1 a3) 3 g a1 (if (v_X1_at m 0 g (v_X4_cell m a1 a2)) ≤ 0 then (v_X2_queueLength m g a2) else (v_X2_placeForHolder m g a2))) rfl rfl rfl rfl ?_
  exact an_ret rfl rfl rfl rfl rfl
def b_X2_dequeue_1 (m : PM) (g : Nat) (a1 : Int32)  (j1 : Nat) (s1 : PM) : PM := (if ¬ (v_X1_at s1 1 g (nI j1)) = (v_X1_at m 1 g a1) then s1 else (if (v_X1_at s1 3 g (nI j1)) ≤ (v_X1_at m 3 g a1) then s1 else (w_X1_put s1 3 g (nI j1) ((v_X1_at s1 3 g (nI j1)) - (1 : Int32)))))
def w_X2_dequeue (m : PM) (g : Nat) (a1 : Int32) : PM := (lp (b_X2_dequeue_1 m g a1) 8 0 (w_X1_put (w_X1_put m 1 g a1 (-1 : Int32)) 2 g a1 (0 : Int32)))
set_option maxRecDepth 100000 in
theorem r_X2_dequeue (m : PM) (g : Nat) (a1 : Int32) : Rn MX2_dequeue [vR 0 0 g, vI a1] m none (w_X2_dequeue m g a1) := by
  refine rn_of [some (vR 0 0 g), some (vI a1), none, none, none] rfl ?_
  unfold w_X2_dequeue
  refine an_b 3 (pc2 := 5) (L2 := [some (vR 0 0 g), some (vI a1), none, none, none]) (st2 := [vI a1, vR 1 1 g]) (m1 := m) rfl ?_
  refine an_call (r_X1_at m 1 g a1) rfl rfl rfl rfl ?_
  refine an_b 4 (pc2 := 14) (L2 := [some (vR 0 0 g), some (vI a1), some (vI (v_X1_at m 1 g a1)), none, none]) (st2 := [vI a1, vR 1 3 g]) (m1 := m) rfl ?_
  refine an_call (r_X1_at m 3 g a1) rfl rfl rfl rfl ?_
  refine an_b 5 (pc2 := 24) (L2 := [some (vR 0 0 g), some (vI a1), some (vI (v_X1_at m 1 g a1)), some (vI (v_X1_at m 3 g a1)), none]) (st2 := [vI (-1 : Int32), vI a1, vR 1 1 g]) (m1 := m) rfl ?_
  refine an_call (r_X1_put m 1 g a1 (-1 : Int32)) rfl rfl rfl rfl ?_
  refine an_b 4 (pc2 := 33) (L2 := [some (vR 0 0 g), some (vI a1), some (vI (v_X1_at m 1 g a1)), some (vI (v_X1_at m 3 g a1)), none]) (st2 := [vI (0 : Int32), vI a1, vR 1 2 g]) (m1 := (w_X1_put m 1 g a1 (-1 : Int32))) rfl ?_
  refine an_call (r_X1_put (w_X1_put m 1 g a1 (-1 : Int32)) 2 g a1 (0 : Int32)) rfl rfl rfl rfl ?_
  refine an_b 2 (pc2 := 39) (L2 := [some (vR 0 0 g), some (vI a1), some (vI (v_X1_at m 1 g a1)), some (vI (v_X1_at m 3 g a1)), some (vI (0 : Int32))]) (st2 := []) (m1 := (w_X1_put (w_X1_put m 1 g a1 (-1 : Int32)) 2 g a1 (0 : Int32))) rfl ?_
  refine re_lp (σ := PM) (b_X2_dequeue_1 m g a1) (fun j1 s1 => (39, [some (vR 0 0 g), some (vI a1), some (vI (v_X1_at m 1 g a1)), some (vI (v_X1_at m 3 g a1)), some (vI (nI j1))], [], s1)) 8 (fun s1 => (98, [some (vR 0 0 g), some (vI a1), some (vI (v_X1_at m 1 g a1)), some (vI (v_X1_at m 3 g a1)), none], [], s1)) (fun j1 s1 hj1 v9 m9 K1 => ?_) (fun s1 v9 m9 K1 => ?_) 8 0 (w_X1_put (w_X1_put m 1 g a1 (-1 : Int32)) 2 g a1 (0 : Int32)) (Nat.add_zero _) _ _ ?_
  · show An MX2_dequeue 39 [some (vR 0 0 g), some (vI a1), some (vI (v_X1_at m 1 g a1)), some (vI (v_X1_at m 3 g a1)), some (vI (nI j1))] [] s1 v9 m9
    refine an_b 3 (pc2 := if (8 : Int32) ≤ (nI j1) then 98 else 46) (L2 := [some (vR 0 0 g), some (vI a1), some (vI (v_X1_at m 1 g a1)), some (vI (v_X1_at m 3 g a1)), some (vI (nI j1))]) (st2 := []) (m1 := s1) rfl ?_
    refine an_f (nI_ge (a := j1) (b := 8) (by omega) (by omega)) ?_
    refine an_b 3 (pc2 := 52) (L2 := [some (vR 0 0 g), some (vI a1), some (vI (v_X1_at m 1 g a1)), some (vI (v_X1_at m 3 g a1)), some (vI (nI j1))]) (st2 := [vI (nI j1), vR 1 1 g]) (m1 := s1) rfl ?_
    refine an_call (r_X1_at s1 1 g (nI j1)) rfl rfl rfl rfl ?_
    refine an_b 2 (pc2 := if ¬ (v_X1_at s1 1 g (nI j1)) = (v_X1_at m 1 g a1) then 92 else 59) (L2 := [some (vR 0 0 g), some (vI a1), some (vI (v_X1_at m 1 g a1)), some (vI (v_X1_at m 3 g a1)), some (vI (nI j1))]) (st2 := []) (m1 := s1) rfl ?_
    refine re_if1 (c := ¬ (v_X1_at s1 1 g (nI j1)) = (v_X1_at m 1 g a1)) (a := s1) (b := (if (v_X1_at s1 3 g (nI j1)) ≤ (v_X1_at m 3 g a1) then s1 else (w_X1_put s1 3 g (nI j1) ((v_X1_at s1 3 g (nI j1)) - (1 : Int32))))) (fun x => (92, [some (vR 0 0 g), some (vI a1), some (vI (v_X1_at m 1 g a1)), some (vI (v_X1_at m 3 g a1)), some (vI (nI j1))], [], x)) (fun h1 v9 m9 K4 => ?_) (fun h1 v9 m9 K4 => ?_) _ _ ?_
    · exact K4
    · refine an_b 3 (pc2 := 65) (L2 := [some (vR 0 0 g), some (vI a1), some (vI (v_X1_at m 1 g a1)), some (vI (v_X1_at m 3 g a1)), some (vI (nI j1))]) (st2 := [vI (nI j1), vR 1 3 g]) (m1 := s1) rfl ?_
      refine an_call (r_X1_at s1 3 g (nI j1)) rfl rfl rfl rfl ?_
      refine an_b 2 (pc2 := if (v_X1_at s1 3 g (nI j1)) ≤ (v_X1_at m 3 g a1) then 92 else 72) (L2 := [some (vR 0 0 g), some (vI a1), some (vI (v_X1_at m 1 g a1)), some (vI (v_X1_at m 3 g a1)), some (vI (nI j1))]) (st2 := []) (m1 := s1) rfl ?_
      refine re_if1 (c := (v_X1_at s1 3 g (nI j1)) ≤ (v_X1_at m 3 g a1)) (a := s1) (b := (w_X1_put s1 3 g (nI j1) ((v_X1_at s1 3 g (nI j1)) - (1 : Int32)))) (fun x => (92, [some (vR 0 0 g), some (vI a1), some (vI (v_X1_at m 1 g a1)), some (vI (v_X1_at m 3 g a1)), some (vI (nI j1))], [], x)) (fun h2 v9 m9 K3 => ?_) (fun h2 v9 m9 K3 => ?_) _ _ ?_
      · exact K3
      · refine an_b 6 (pc2 := 84) (L2 := [some (vR 0 0 g), some (vI a1), some (vI (v_X1_at m 1 g a1)), some (vI (v_X1_at m 3 g a1)), some (vI (nI j1))]) (st2 := [vI (nI j1), vR 1 3 g, vI (nI j1), vR 1 3 g]) (m1 := s1) rfl ?_
        refine an_call (r_X1_at s1 3 g (nI j1)) rfl rfl rfl rfl ?_
        refine an_b 2 (pc2 := 89) (L2 := [some (vR 0 0 g), some (vI a1), some (vI (v_X1_at m 1 g a1)), some (vI (v_X1_at m 3 g a1)), some (vI (nI j1))]) (st2 := [vI ((v_X1_at s1 3 g (nI j1)) - (1 : Int32)), vI (nI j1), vR 1 3 g]) (m1 := s1) rfl ?_
        refine an_call (r_X1_put s1 3 g (nI j1) ((v_X1_at s1 3 g (nI j1)) - (1 : Int32))) rfl rfl rfl rfl ?_
        exact K3
      exact K4
    refine an_b 2 (pc2 := 39) (L2 := [some (vR 0 0 g), some (vI a1), some (vI (v_X1_at m 1 g a1)), some (vI (v_X1_at m 3 g a1)), some (vI ((nI j1) + (1 : Int32)))]) (st2 := []) (m1 := (if ¬ (v_X1_at s1 1 g (nI j1)) = (v_X1_at m 1 g a1) then s1 else (if (v_X1_at s1 3 g (nI j1)) ≤ (v_X1_at m 3 g a1) then s1 else (w_X1_put s1 3 g (nI j1) ((v_X1_at s1 3 g (nI j1)) - (1 : Int32)))))) rfl ?_
    refine an_cL (K := [some (vR 0 0 g), some (vI a1), some (vI (v_X1_at m 1 g a1)), some (vI (v_X1_at m 3 g a1)), some (vI (nI (j1 + 1)))]) (by simp only [nI_1]) ?_
    exact K1
  · show An MX2_dequeue 39 [some (vR 0 0 g), some (vI a1), some (vI (v_X1_at m 1 g a1)), some (vI (v_X1_at m 3 g a1)), some (vI (nI 8))] [] s1 v9 m9
    refine an_b 3 (pc2 := if (8 : Int32) ≤ (nI 8) then 98 else 46) (L2 := [some (vR 0 0 g), some (vI a1), some (vI (v_X1_at m 1 g a1)), some (vI (v_X1_at m 3 g a1)), some (vI (nI 8))]) (st2 := []) (m1 := s1) rfl ?_
    refine an_t (nI_le (a := 8) (b := 8) (by omega) (by omega)) ?_
    refine an_weak (L := [some (vR 0 0 g), some (vI a1), some (vI (v_X1_at m 1 g a1)), some (vI (v_X1_at m 3 g a1)), none]) (⟨rfl, rfl, rfl, rfl, trivial⟩) ?_
    exact K1
  show An MX2_dequeue 98 [some (vR 0 0 g), some (vI a1), some (vI (v_X1_at m 1 g a1)), some (vI (v_X1_at m 3 g a1)), none] [] (lp (b_X2_dequeue_1 m g a1) 8 0 (w_X1_put (w_X1_put m 1 g a1 (-1 : Int32)) 2 g a1 (0 : Int32))) _ _
  exact an_ret rfl rfl rfl rfl rfl
def b_X2_clashes_1 (m : PM) (g : Nat) (a1 : Int32) (a2 : Int32) (a3 : Int32) (a4 : Int32)  (j1 : Nat) (s1 : Unit) : (Unit) ⊕ (Int32) := if (nI j1) = a3 then .inl () else if (nI j1) = a4 then .inl () else if ((v_X1_at m 0 g (v_X4_cell m (nI j1) a1)) + a2) ≤ (3 : Int32) then .inl () else .inr (1 : Int32)
def v_X2_clashes (m : PM) (g : Nat) (a1 : Int32) (a2 : Int32) (a3 : Int32) (a4 : Int32) : Int32 := (lqr (fun s1 : Unit => (0 : Int32)) (lq (b_X2_clashes_1 m g a1 a2 a3 a4) 8 0 ()))
set_option maxRecDepth 100000 in
theorem r_X2_clashes (m : PM) (g : Nat) (a1 : Int32) (a2 : Int32) (a3 : Int32) (a4 : Int32) : Rn MX2_clashes [vR 0 0 g, vI a1, vI a2, vI a3, vI a4] m (some (vI (v_X2_clashes m g a1 a2 a3 a4))) m := by
  refine rn_of [some (vR 0 0 g), some (vI a1), some (vI a2), some (vI a3), some (vI a4), none] rfl ?_
  unfold v_X2_clashes
  refine an_b 2 (pc2 := 3) (L2 := [some (vR 0 0 g), some (vI a1), some (vI a2), some (vI a3), some (vI a4), some (vI (0 : Int32))]) (st2 := []) (m1 := m) rfl ?_
  refine an_lq (σ := Unit) (ρ := Int32) (b_X2_clashes_1 m g a1 a2 a3 a4) (fun j1 s1 => (3, [some (vR 0 0 g), some (vI a1), some (vI a2), some (vI a3), some (vI a4), some (vI (nI j1))], [], m)) 8 (fun x9 => .inl (some (vI (lqr (fun s1 => (0 : Int32)) x9)))) (fun _ => m) (fun j1 s1 hj1 v9 m9 hc1 hr1 => ?_) (fun s1 => ?_) 8 0 () (Nat.add_zero _)
  · show An MX2_clashes 3 [some (vR 0 0 g), some (vI a1), some (vI a2), some (vI a3), some (vI a4), some (vI (nI j1))] [] m v9 m9
    refine an_b 3 (pc2 := if (8 : Int32) ≤ (nI j1) then 50 else 10) (L2 := [some (vR 0 0 g), some (vI a1), some (vI a2), some (vI a3), some (vI a4), some (vI (nI j1))]) (st2 := []) (m1 := m) rfl ?_
    refine an_f (nI_ge (a := j1) (b := 8) (by omega) (by omega)) ?_
    refine an_b 3 (pc2 := if (nI j1) = a3 then 44 else 16) (L2 := [some (vR 0 0 g), some (vI a1), some (vI a2), some (vI a3), some (vI a4), some (vI (nI j1))]) (st2 := []) (m1 := m) rfl ?_
    refine an_if (c := (nI j1) = a3) (fun h1 => ?_) (fun h1 => ?_)
    · refine an_b 2 (pc2 := 3) (L2 := [some (vR 0 0 g), some (vI a1), some (vI a2), some (vI a3), some (vI a4), some (vI ((nI j1) + (1 : Int32)))]) (st2 := []) (m1 := m) rfl ?_
      refine an_cL (K := [some (vR 0 0 g), some (vI a1), some (vI a2), some (vI a3), some (vI a4), some (vI (nI (j1 + 1)))]) (by simp only [nI_1]) ?_
      exact hc1 _ (by unfold b_X2_clashes_1; rw [if_pos h1])
    · refine an_b 3 (pc2 := if (nI j1) = a4 then 44 else 23) (L2 := [some (vR 0 0 g), some (vI a1), some (vI a2), some (vI a3), some (vI a4), some (vI (nI j1))]) (st2 := []) (m1 := m) rfl ?_
      refine an_if (c := (nI j1) = a4) (fun h2 => ?_) (fun h2 => ?_)
      · refine an_b 2 (pc2 := 3) (L2 := [some (vR 0 0 g), some (vI a1), some (vI a2), some (vI a3), some (vI a4), some (vI ((nI j1) + (1 : Int32)))]) (st2 := []) (m1 := m) rfl ?_
        refine an_cL (K := [some (vR 0 0 g), some (vI a1), some (vI a2), some (vI a3), some (vI a4), some (vI (nI (j1 + 1)))]) (by simp only [nI_1]) ?_
        exact hc1 _ (by unfold b_X2_clashes_1; rw [if_neg h1, if_pos h2])
      · refine an_b 4 (pc2 := 30) (L2 := [some (vR 0 0 g), some (vI a1), some (vI a2), some (vI a3), some (vI a4), some (vI (nI j1))]) (st2 := [vI a1, vI (nI j1), vR 1 0 g]) (m1 := m) rfl ?_
        refine an_call (r_X4_cell m (nI j1) a1) rfl rfl rfl rfl ?_
        refine an_call (r_X1_at m 0 g (v_X4_cell m (nI j1) a1)) rfl rfl rfl rfl ?_
        refine an_b 4 (pc2 := if ((v_X1_at m 0 g (v_X4_cell m (nI j1) a1)) + a2) ≤ (3 : Int32) then 44 else 42) (L2 := [some (vR 0 0 g), some (vI a1), some (vI a2), some (vI a3), some (vI a4), some (vI (nI j1))]) (st2 := []) (m1 := m) rfl ?_
        refine an_if (c := ((v_X1_at m 0 g (v_X4_cell m (nI j1) a1)) + a2) ≤ (3 : Int32)) (fun h3 => ?_) (fun h3 => ?_)
        · refine an_b 2 (pc2 := 3) (L2 := [some (vR 0 0 g), some (vI a1), some (vI a2), some (vI a3), some (vI a4), some (vI ((nI j1) + (1 : Int32)))]) (st2 := []) (m1 := m) rfl ?_
          refine an_cL (K := [some (vR 0 0 g), some (vI a1), some (vI a2), some (vI a3), some (vI a4), some (vI (nI (j1 + 1)))]) (by simp only [nI_1]) ?_
          exact hc1 _ (by unfold b_X2_clashes_1; rw [if_neg h1, if_neg h2, if_pos h3])
        · refine an_b 1 (pc2 := 43) (L2 := [some (vR 0 0 g), some (vI a1), some (vI a2), some (vI a3), some (vI a4), some (vI (nI j1))]) (st2 := [vI (1 : Int32)]) (m1 := m) rfl ?_
          obtain ⟨rfl, rfl⟩ := hr1 _ (by unfold b_X2_clashes_1; rw [if_neg h1, if_neg h2, if_neg h3])
          exact an_ret rfl rfl rfl rfl rfl
  · show An MX2_clashes 3 [some (vR 0 0 g), some (vI a1), some (vI a2), some (vI a3), some (vI a4), some (vI (nI 8))] [] m _ _
    refine an_b 3 (pc2 := if (8 : Int32) ≤ (nI 8) then 50 else 10) (L2 := [some (vR 0 0 g), some (vI a1), some (vI a2), some (vI a3), some (vI a4), some (vI (nI 8))]) (st2 := []) (m1 := m) rfl ?_
    refine an_t (nI_le (a := 8) (b := 8) (by omega) (by omega)) ?_
    refine an_b 1 (pc2 := 51) (L2 := [some (vR 0 0 g), some (vI a1), some (vI a2), some (vI a3), some (vI a4), some (vI (nI 8))]) (st2 := [vI (0 : Int32)]) (m1 := m) rfl ?_
    exact an_ret rfl rfl rfl rfl rfl
def w_X2_grant (m : PM) (g : Nat) (a1 : Int32) : PM := (w_X2_dequeue (w_X1_raise (w_X1_put m 0 g (v_X4_cell m a1 (v_X1_at m 1 g a1)) (v_X1_at m 2 g a1)) 8 g a1) g a1)
set_option maxRecDepth 100000 in
theorem r_X2_grant (m : PM) (g : Nat) (a1 : Int32) : Rn MX2_grant [vR 0 0 g, vI a1] m none (w_X2_grant m g a1) := by
  refine rn_of [some (vR 0 0 g), some (vI a1)] rfl ?_
  unfold w_X2_grant
  refine an_b 6 (pc2 := 10) (L2 := [some (vR 0 0 g), some (vI a1)]) (st2 := [vI a1, vR 1 1 g, vI a1, vR 1 0 g]) (m1 := m) rfl ?_
  refine an_call (r_X1_at m 1 g a1) rfl rfl rfl rfl ?_
  refine an_call (r_X4_cell m a1 (v_X1_at m 1 g a1)) rfl rfl rfl rfl ?_
  refine an_b 3 (pc2 := 21) (L2 := [some (vR 0 0 g), some (vI a1)]) (st2 := [vI a1, vR 1 2 g, vI (v_X4_cell m a1 (v_X1_at m 1 g a1)), vR 1 0 g]) (m1 := m) rfl ?_
  refine an_call (r_X1_at m 2 g a1) rfl rfl rfl rfl ?_
  refine an_call (r_X1_put m 0 g (v_X4_cell m a1 (v_X1_at m 1 g a1)) (v_X1_at m 2 g a1)) rfl rfl rfl rfl ?_
  refine an_b 3 (pc2 := 32) (L2 := [some (vR 0 0 g), some (vI a1)]) (st2 := [vI a1, vR 1 8 g]) (m1 := (w_X1_put m 0 g (v_X4_cell m a1 (v_X1_at m 1 g a1)) (v_X1_at m 2 g a1))) rfl ?_
  refine an_call (r_X1_raise (w_X1_put m 0 g (v_X4_cell m a1 (v_X1_at m 1 g a1)) (v_X1_at m 2 g a1)) 8 g a1) rfl rfl rfl rfl ?_
  refine an_b 2 (pc2 := 37) (L2 := [some (vR 0 0 g), some (vI a1)]) (st2 := [vI a1, vR 0 0 g]) (m1 := (w_X1_raise (w_X1_put m 0 g (v_X4_cell m a1 (v_X1_at m 1 g a1)) (v_X1_at m 2 g a1)) 8 g a1)) rfl ?_
  refine an_call (r_X2_dequeue (w_X1_raise (w_X1_put m 0 g (v_X4_cell m a1 (v_X1_at m 1 g a1)) (v_X1_at m 2 g a1)) 8 g a1) g a1) rfl rfl rfl rfl ?_
  exact an_ret rfl rfl rfl rfl rfl
def b_X2_settle_1 (m : PM) (g : Nat) (a1 : Int32)  (j1 : Nat) (s1 : Int32 × PM) : (Int32 × PM) ⊕ (Int32 × PM) := if (v_X2_handAt s1.2 g a1 (0 : Int32)) = (-1 : Int32) then .inr (s1.1, s1.2) else if (v_X2_clashes s1.2 g a1 (v_X1_at s1.2 2 g (v_X2_handAt s1.2 g a1 (0 : Int32))) (v_X2_handAt s1.2 g a1 (0 : Int32)) (v_X2_handAt s1.2 g a1 (0 : Int32))) = 0 then .inl (s1.1 + (1 : Int32), (w_X2_grant s1.2 g (v_X2_handAt s1.2 g a1 (0 : Int32)))) else .inr (s1.1, s1.2)
def v_X2_settle (m : PM) (g : Nat) (a1 : Int32) : Int32 := (lqv (lq (b_X2_settle_1 m g a1) 8 0 ((0 : Int32), m))).1
def w_X2_settle (m : PM) (g : Nat) (a1 : Int32) : PM := (lqv (lq (b_X2_settle_1 m g a1) 8 0 ((0 : Int32), m))).2
set_option maxRecDepth 100000 in
theorem r_X2_settle (m : PM) (g : Nat) (a1 : Int32) : Rn MX2_settle [vR 0 0 g, vI a1] m (some (vI (v_X2_settle m g a1))) (w_X2_settle m g a1) := by
  refine rn_of [some (vR 0 0 g), some (vI a1), none, none, none] rfl ?_
  unfold v_X2_settle w_X2_settle
  refine an_b 4 (pc2 := 4) (L2 := [some (vR 0 0 g), some (vI a1), some (vI (0 : Int32)), some (vI (0 : Int32)), none]) (st2 := []) (m1 := m) rfl ?_
  refine re_lq (σ := Int32 × PM) (ρ := Int32 × PM) (b_X2_settle_1 m g a1) (fun j1 s1 => (4, [some (vR 0 0 g), some (vI a1), some (vI s1.1), some (vI (nI j1)), none], [], s1.2)) 8 (fun x9 => (63, [some (vR 0 0 g), some (vI a1), some (vI ((lqv x9).1)), none, none], [], (lqv x9).2)) (fun j1 s1 hj1 v9 m9 hc1 hr1 => ?_) (fun s1 v9 m9 K1 => ?_) 8 0 ((0 : Int32), m) (Nat.add_zero _) _ _ ?_
  · show An MX2_settle 4 [some (vR 0 0 g), some (vI a1), some (vI s1.1), some (vI (nI j1)), none] [] s1.2 v9 m9
    refine an_b 3 (pc2 := if (8 : Int32) ≤ (nI j1) then 63 else 10) (L2 := [some (vR 0 0 g), some (vI a1), some (vI s1.1), some (vI (nI j1)), none]) (st2 := []) (m1 := s1.2) rfl ?_
    refine an_f (nI_ge (a := j1) (b := 8) (by omega) (by omega)) ?_
    refine an_b 3 (pc2 := 13) (L2 := [some (vR 0 0 g), some (vI a1), some (vI s1.1), some (vI (nI j1)), none]) (st2 := [vI (0 : Int32), vI a1, vR 0 0 g]) (m1 := s1.2) rfl ?_
    refine an_call (r_X2_handAt s1.2 g a1 (0 : Int32)) rfl rfl rfl rfl ?_
    refine an_b 4 (pc2 := if (v_X2_handAt s1.2 g a1 (0 : Int32)) = (-1 : Int32) then 63 else 24) (L2 := [some (vR 0 0 g), some (vI a1), some (vI s1.1), some (vI (nI j1)), some (vI (v_X2_handAt s1.2 g a1 (0 : Int32)))]) (st2 := []) (m1 := s1.2) rfl ?_
    refine an_if (c := (v_X2_handAt s1.2 g a1 (0 : Int32)) = (-1 : Int32)) (fun h1 => ?_) (fun h1 => ?_)
    · refine an_weak (L := [some (vR 0 0 g), some (vI a1), some (vI s1.1), none, none]) (⟨rfl, rfl, rfl, trivial⟩) ?_
      exact hr1 _ (by unfold b_X2_settle_1; rw [if_pos h1])
    · refine an_b 5 (pc2 := 32) (L2 := [some (vR 0 0 g), some (vI a1), some (vI s1.1), some (vI (nI j1)), some (vI (v_X2_handAt s1.2 g a1 (0 : Int32)))]) (st2 := [vI (v_X2_handAt s1.2 g a1 (0 : Int32)), vR 1 2 g, vI a1, vR 0 0 g]) (m1 := s1.2) rfl ?_
      refine an_call (r_X1_at s1.2 2 g (v_X2_handAt s1.2 g a1 (0 : Int32))) rfl rfl rfl rfl ?_
      refine an_b 2 (pc2 := 39) (L2 := [some (vR 0 0 g), some (vI a1), some (vI s1.1), some (vI (nI j1)), some (vI (v_X2_handAt s1.2 g a1 (0 : Int32)))]) (st2 := [vI (v_X2_handAt s1.2 g a1 (0 : Int32)), vI (v_X2_handAt s1.2 g a1 (0 : Int32)), vI (v_X1_at s1.2 2 g (v_X2_handAt s1.2 g a1 (0 : Int32))), vI a1, vR 0 0 g]) (m1 := s1.2) rfl ?_
      refine an_call (r_X2_clashes s1.2 g a1 (v_X1_at s1.2 2 g (v_X2_handAt s1.2 g a1 (0 : Int32))) (v_X2_handAt s1.2 g a1 (0 : Int32)) (v_X2_handAt s1.2 g a1 (0 : Int32))) rfl rfl rfl rfl ?_
      refine an_b 1 (pc2 := if (v_X2_clashes s1.2 g a1 (v_X1_at s1.2 2 g (v_X2_handAt s1.2 g a1 (0 : Int32))) (v_X2_handAt s1.2 g a1 (0 : Int32)) (v_X2_handAt s1.2 g a1 (0 : Int32))) = 0 then 48 else 45) (L2 := [some (vR 0 0 g), some (vI a1), some (vI s1.1), some (vI (nI j1)), some (vI (v_X2_handAt s1.2 g a1 (0 : Int32)))]) (st2 := []) (m1 := s1.2) rfl ?_
      refine an_if (c := (v_X2_clashes s1.2 g a1 (v_X1_at s1.2 2 g (v_X2_handAt s1.2 g a1 (0 : Int32))) (v_X2_handAt s1.2 g a1 (0 : Int32)) (v_X2_handAt s1.2 g a1 (0 : Int32))) = 0) (fun h2 => ?_) (fun h2 => ?_)
      · refine an_b 2 (pc2 := 51) (L2 := [some (vR 0 0 g), some (vI a1), some (vI s1.1), some (vI (nI j1)), some (vI (v_X2_handAt s1.2 g a1 (0 : Int32)))]) (st2 := [vI (v_X2_handAt s1.2 g a1 (0 : Int32)), vR 0 0 g]) (m1 := s1.2) rfl ?_
        refine an_call (r_X2_grant s1.2 g (v_X2_handAt s1.2 g a1 (0 : Int32))) rfl rfl rfl rfl ?_
        refine an_b 3 (pc2 := 4) (L2 := [some (vR 0 0 g), some (vI a1), some (vI (s1.1 + (1 : Int32))), some (vI ((nI j1) + (1 : Int32))), some (vI (v_X2_handAt s1.2 g a1 (0 : Int32)))]) (st2 := []) (m1 := (w_X2_grant s1.2 g (v_X2_handAt s1.2 g a1 (0 : Int32)))) rfl ?_
        refine an_weak (L := [some (vR 0 0 g), some (vI a1), some (vI (s1.1 + (1 : Int32))), some (vI ((nI j1) + (1 : Int32))), none]) (⟨rfl, rfl, rfl, rfl, trivial⟩) ?_
        refine an_cL (K := [some (vR 0 0 g), some (vI a1), some (vI (s1.1 + (1 : Int32))), some (vI (nI (j1 + 1))), none]) (by simp only [nI_1]) ?_
        exact hc1 _ (by unfold b_X2_settle_1; rw [if_neg h1, if_pos h2])
      · refine an_b 1 (pc2 := 63) (L2 := [some (vR 0 0 g), some (vI a1), some (vI s1.1), some (vI (nI j1)), some (vI (v_X2_handAt s1.2 g a1 (0 : Int32)))]) (st2 := []) (m1 := s1.2) rfl ?_
        refine an_weak (L := [some (vR 0 0 g), some (vI a1), some (vI s1.1), none, none]) (⟨rfl, rfl, rfl, trivial⟩) ?_
        exact hr1 _ (by unfold b_X2_settle_1; rw [if_neg h1, if_neg h2])
  · show An MX2_settle 4 [some (vR 0 0 g), some (vI a1), some (vI s1.1), some (vI (nI 8)), none] [] s1.2 v9 m9
    refine an_b 3 (pc2 := if (8 : Int32) ≤ (nI 8) then 63 else 10) (L2 := [some (vR 0 0 g), some (vI a1), some (vI s1.1), some (vI (nI 8)), none]) (st2 := []) (m1 := s1.2) rfl ?_
    refine an_t (nI_le (a := 8) (b := 8) (by omega) (by omega)) ?_
    refine an_weak (L := [some (vR 0 0 g), some (vI a1), some (vI s1.1), none, none]) (⟨rfl, rfl, rfl, trivial⟩) ?_
    exact K1
  show An MX2_settle 63 [some (vR 0 0 g), some (vI a1), some (vI ((lqv (lq (b_X2_settle_1 m g a1) 8 0 ((0 : Int32), m))).1)), none, none] [] (lqv (lq (b_X2_settle_1 m g a1) 8 0 ((0 : Int32), m))).2 _ _
  refine an_b 1 (pc2 := 64) (L2 := [some (vR 0 0 g), some (vI a1), some (vI ((lqv (lq (b_X2_settle_1 m g a1) 8 0 ((0 : Int32), m))).1)), none, none]) (st2 := [vI ((lqv (lq (b_X2_settle_1 m g a1) 8 0 ((0 : Int32), m))).1)]) (m1 := (lqv (lq (b_X2_settle_1 m g a1) 8 0 ((0 : Int32), m))).2) rfl ?_
  exact an_ret rfl rfl rfl rfl rfl
def b_X2_direct_1 (m : PM) (g : Nat) (a1 : Int32)  (j1 : Nat) (s1 : Int32) : Int32 := (if (nI j1) = a1 then s1 else (if ¬ (if ((v_X1_at m 0 g (v_X4_cell m (nI j1) (v_X1_at m 1 g a1))) + (v_X1_at m 2 g a1)) ≤ (3 : Int32) then (0 : Int32) else (1 : Int32)) = 0 then (s1 ||| ((1 : Int32) <<< ((nI j1) &&& (31 : Int32)))) else (if (if ¬ (v_X1_at m 1 g (nI j1)) = (v_X1_at m 1 g a1) then (0 : Int32) else (if (v_X1_at m 3 g a1) ≤ (v_X1_at m 3 g (nI j1)) then (0 : Int32) else (1 : Int32))) = 0 then s1 else (s1 ||| ((1 : Int32) <<< ((nI j1) &&& (31 : Int32)))))))
def v_X2_direct (m : PM) (g : Nat) (a1 : Int32) : Int32 := (if ¬ (v_X2_isWaiting m g a1) = 0 then (lp (b_X2_direct_1 m g a1) 8 0 (0 : Int32)) else (0 : Int32))
set_option maxRecDepth 100000 in
theorem r_X2_direct (m : PM) (g : Nat) (a1 : Int32) : Rn MX2_direct [vR 0 0 g, vI a1] m (some (vI (v_X2_direct m g a1))) m := by
  refine rn_of [some (vR 0 0 g), some (vI a1), none, none, none, none, none, none, none] rfl ?_
  unfold v_X2_direct
  refine an_b 2 (pc2 := 2) (L2 := [some (vR 0 0 g), some (vI a1), none, none, none, none, none, none, none]) (st2 := [vI a1, vR 0 0 g]) (m1 := m) rfl ?_
  refine an_call (r_X2_isWaiting m g a1) rfl rfl rfl rfl ?_
  refine an_b 1 (pc2 := if ¬ (v_X2_isWaiting m g a1) = 0 then 10 else 8) (L2 := [some (vR 0 0 g), some (vI a1), none, none, none, none, none, none, none]) (st2 := []) (m1 := m) rfl ?_
  refine an_ifi (c := ¬ (v_X2_isWaiting m g a1) = 0) (fun h1 => ?_) (fun h1 => ?_)
  · refine an_b 3 (pc2 := 15) (L2 := [some (vR 0 0 g), some (vI a1), none, none, none, none, none, none, none]) (st2 := [vI a1, vR 1 1 g]) (m1 := m) rfl ?_
    refine an_call (r_X1_at m 1 g a1) rfl rfl rfl rfl ?_
    refine an_b 4 (pc2 := 24) (L2 := [some (vR 0 0 g), some (vI a1), some (vI (v_X1_at m 1 g a1)), none, none, none, none, none, none]) (st2 := [vI a1, vR 1 2 g]) (m1 := m) rfl ?_
    refine an_call (r_X1_at m 2 g a1) rfl rfl rfl rfl ?_
    refine an_b 4 (pc2 := 33) (L2 := [some (vR 0 0 g), some (vI a1), some (vI (v_X1_at m 1 g a1)), some (vI (v_X1_at m 2 g a1)), none, none, none, none, none]) (st2 := [vI a1, vR 1 3 g]) (m1 := m) rfl ?_
    refine an_call (r_X1_at m 3 g a1) rfl rfl rfl rfl ?_
    refine an_b 5 (pc2 := 44) (L2 := [some (vR 0 0 g), some (vI a1), some (vI (v_X1_at m 1 g a1)), some (vI (v_X1_at m 2 g a1)), some (vI (v_X1_at m 3 g a1)), some (vI (0 : Int32)), some (vI (0 : Int32)), none, none]) (st2 := []) (m1 := m) rfl ?_
    refine re_lp (σ := Int32) (b_X2_direct_1 m g a1) (fun j1 s1 => (44, [some (vR 0 0 g), some (vI a1), some (vI (v_X1_at m 1 g a1)), some (vI (v_X1_at m 2 g a1)), some (vI (v_X1_at m 3 g a1)), some (vI s1), some (vI (nI j1)), none, none], [], m)) 8 (fun s1 => (142, [some (vR 0 0 g), some (vI a1), some (vI (v_X1_at m 1 g a1)), some (vI (v_X1_at m 2 g a1)), some (vI (v_X1_at m 3 g a1)), some (vI s1), none, none, none], [], m)) (fun j1 s1 hj1 v9 m9 K1 => ?_) (fun s1 v9 m9 K1 => ?_) 8 0 (0 : Int32) (Nat.add_zero _) _ _ ?_
    · show An MX2_direct 44 [some (vR 0 0 g), some (vI a1), some (vI (v_X1_at m 1 g a1)), some (vI (v_X1_at m 2 g a1)), some (vI (v_X1_at m 3 g a1)), some (vI s1), some (vI (nI j1)), none, none] [] m v9 m9
      refine an_b 3 (pc2 := if (8 : Int32) ≤ (nI j1) then 142 else 51) (L2 := [some (vR 0 0 g), some (vI a1), some (vI (v_X1_at m 1 g a1)), some (vI (v_X1_at m 2 g a1)), some (vI (v_X1_at m 3 g a1)), some (vI s1), some (vI (nI j1)), none, none]) (st2 := []) (m1 := m) rfl ?_
      refine an_f (nI_ge (a := j1) (b := 8) (by omega) (by omega)) ?_
      refine an_b 4 (pc2 := 58) (L2 := [some (vR 0 0 g), some (vI a1), some (vI (v_X1_at m 1 g a1)), some (vI (v_X1_at m 2 g a1)), some (vI (v_X1_at m 3 g a1)), some (vI s1), some (vI (nI j1)), none, none]) (st2 := [vI (v_X1_at m 1 g a1), vI (nI j1), vR 1 0 g]) (m1 := m) rfl ?_
      refine an_call (r_X4_cell m (nI j1) (v_X1_at m 1 g a1)) rfl rfl rfl rfl ?_
      refine an_call (r_X1_at m 0 g (v_X4_cell m (nI j1) (v_X1_at m 1 g a1))) rfl rfl rfl rfl ?_
      refine an_b 4 (pc2 := if ((v_X1_at m 0 g (v_X4_cell m (nI j1) (v_X1_at m 1 g a1))) + (v_X1_at m 2 g a1)) ≤ (3 : Int32) then 74 else 70) (L2 := [some (vR 0 0 g), some (vI a1), some (vI (v_X1_at m 1 g a1)), some (vI (v_X1_at m 2 g a1)), some (vI (v_X1_at m 3 g a1)), some (vI s1), some (vI (nI j1)), none, none]) (st2 := []) (m1 := m) rfl ?_
      refine re_if1 (c := ((v_X1_at m 0 g (v_X4_cell m (nI j1) (v_X1_at m 1 g a1))) + (v_X1_at m 2 g a1)) ≤ (3 : Int32)) (a := (0 : Int32)) (b := (1 : Int32)) (fun x => (75, [some (vR 0 0 g), some (vI a1), some (vI (v_X1_at m 1 g a1)), some (vI (v_X1_at m 2 g a1)), some (vI (v_X1_at m 3 g a1)), some (vI s1), some (vI (nI j1)), none, none], [vI x], m)) (fun h2 v9 m9 K3 => ?_) (fun h2 v9 m9 K3 => ?_) _ _ ?_
      · refine an_b 1 (pc2 := 75) (L2 := [some (vR 0 0 g), some (vI a1), some (vI (v_X1_at m 1 g a1)), some (vI (v_X1_at m 2 g a1)), some (vI (v_X1_at m 3 g a1)), some (vI s1), some (vI (nI j1)), none, none]) (st2 := [vI (0 : Int32)]) (m1 := m) rfl ?_
        exact K3
      · refine an_b 2 (pc2 := 75) (L2 := [some (vR 0 0 g), some (vI a1), some (vI (v_X1_at m 1 g a1)), some (vI (v_X1_at m 2 g a1)), some (vI (v_X1_at m 3 g a1)), some (vI s1), some (vI (nI j1)), none, none]) (st2 := [vI (1 : Int32)]) (m1 := m) rfl ?_
        exact K3
      refine an_b 4 (pc2 := 83) (L2 := [some (vR 0 0 g), some (vI a1), some (vI (v_X1_at m 1 g a1)), some (vI (v_X1_at m 2 g a1)), some (vI (v_X1_at m 3 g a1)), some (vI s1), some (vI (nI j1)), some (vI (if ((v_X1_at m 0 g (v_X4_cell m (nI j1) (v_X1_at m 1 g a1))) + (v_X1_at m 2 g a1)) ≤ (3 : Int32) then (0 : Int32) else (1 : Int32))), none]) (st2 := [vI (nI j1), vR 1 1 g]) (m1 := m) rfl ?_
      refine an_call (r_X1_at m 1 g (nI j1)) rfl rfl rfl rfl ?_
      refine an_b 2 (pc2 := if ¬ (v_X1_at m 1 g (nI j1)) = (v_X1_at m 1 g a1) then 108 else 90) (L2 := [some (vR 0 0 g), some (vI a1), some (vI (v_X1_at m 1 g a1)), some (vI (v_X1_at m 2 g a1)), some (vI (v_X1_at m 3 g a1)), some (vI s1), some (vI (nI j1)), some (vI (if ((v_X1_at m 0 g (v_X4_cell m (nI j1) (v_X1_at m 1 g a1))) + (v_X1_at m 2 g a1)) ≤ (3 : Int32) then (0 : Int32) else (1 : Int32))), none]) (st2 := []) (m1 := m) rfl ?_
      refine re_if1 (c := ¬ (v_X1_at m 1 g (nI j1)) = (v_X1_at m 1 g a1)) (a := (0 : Int32)) (b := (if (v_X1_at m 3 g a1) ≤ (v_X1_at m 3 g (nI j1)) then (0 : Int32) else (1 : Int32))) (fun x => (109, [some (vR 0 0 g), some (vI a1), some (vI (v_X1_at m 1 g a1)), some (vI (v_X1_at m 2 g a1)), some (vI (v_X1_at m 3 g a1)), some (vI s1), some (vI (nI j1)), some (vI (if ((v_X1_at m 0 g (v_X4_cell m (nI j1) (v_X1_at m 1 g a1))) + (v_X1_at m 2 g a1)) ≤ (3 : Int32) then (0 : Int32) else (1 : Int32))), none], [vI x], m)) (fun h4 v9 m9 K7 => ?_) (fun h4 v9 m9 K7 => ?_) _ _ ?_
      · refine an_b 1 (pc2 := 109) (L2 := [some (vR 0 0 g), some (vI a1), some (vI (v_X1_at m 1 g a1)), some (vI (v_X1_at m 2 g a1)), some (vI (v_X1_at m 3 g a1)), some (vI s1), some (vI (nI j1)), some (vI (if ((v_X1_at m 0 g (v_X4_cell m (nI j1) (v_X1_at m 1 g a1))) + (v_X1_at m 2 g a1)) ≤ (3 : Int32) then (0 : Int32) else (1 : Int32))), none]) (st2 := [vI (0 : Int32)]) (m1 := m) rfl ?_
        exact K7
      · refine an_b 3 (pc2 := 96) (L2 := [some (vR 0 0 g), some (vI a1), some (vI (v_X1_at m 1 g a1)), some (vI (v_X1_at m 2 g a1)), some (vI (v_X1_at m 3 g a1)), some (vI s1), some (vI (nI j1)), some (vI (if ((v_X1_at m 0 g (v_X4_cell m (nI j1) (v_X1_at m 1 g a1))) + (v_X1_at m 2 g a1)) ≤ (3 : Int32) then (0 : Int32) else (1 : Int32))), none]) (st2 := [vI (nI j1), vR 1 3 g]) (m1 := m) rfl ?_
        refine an_call (r_X1_at m 3 g (nI j1)) rfl rfl rfl rfl ?_
        refine an_b 2 (pc2 := if (v_X1_at m 3 g a1) ≤ (v_X1_at m 3 g (nI j1)) then 108 else 104) (L2 := [some (vR 0 0 g), some (vI a1), some (vI (v_X1_at m 1 g a1)), some (vI (v_X1_at m 2 g a1)), some (vI (v_X1_at m 3 g a1)), some (vI s1), some (vI (nI j1)), some (vI (if ((v_X1_at m 0 g (v_X4_cell m (nI j1) (v_X1_at m 1 g a1))) + (v_X1_at m 2 g a1)) ≤ (3 : Int32) then (0 : Int32) else (1 : Int32))), none]) (st2 := []) (m1 := m) rfl ?_
        refine re_if1 (c := (v_X1_at m 3 g a1) ≤ (v_X1_at m 3 g (nI j1))) (a := (0 : Int32)) (b := (1 : Int32)) (fun x => (109, [some (vR 0 0 g), some (vI a1), some (vI (v_X1_at m 1 g a1)), some (vI (v_X1_at m 2 g a1)), some (vI (v_X1_at m 3 g a1)), some (vI s1), some (vI (nI j1)), some (vI (if ((v_X1_at m 0 g (v_X4_cell m (nI j1) (v_X1_at m 1 g a1))) + (v_X1_at m 2 g a1)) ≤ (3 : Int32) then (0 : Int32) else (1 : Int32))), none], [vI x], m)) (fun h5 v9 m9 K6 => ?_) (fun h5 v9 m9 K6 => ?_) _ _ ?_
        · refine an_b 1 (pc2 := 109) (L2 := [some (vR 0 0 g), some (vI a1), some (vI (v_X1_at m 1 g a1)), some (vI (v_X1_at m 2 g a1)), some (vI (v_X1_at m 3 g a1)), some (vI s1), some (vI (nI j1)), some (vI (if ((v_X1_at m 0 g (v_X4_cell m (nI j1) (v_X1_at m 1 g a1))) + (v_X1_at m 2 g a1)) ≤ (3 : Int32) then (0 : Int32) else (1 : Int32))), none]) (st2 := [vI (0 : Int32)]) (m1 := m) rfl ?_
          exact K6
        · refine an_b 2 (pc2 := 109) (L2 := [some (vR 0 0 g), some (vI a1), some (vI (v_X1_at m 1 g a1)), some (vI (v_X1_at m 2 g a1)), some (vI (v_X1_at m 3 g a1)), some (vI s1), some (vI (nI j1)), some (vI (if ((v_X1_at m 0 g (v_X4_cell m (nI j1) (v_X1_at m 1 g a1))) + (v_X1_at m 2 g a1)) ≤ (3 : Int32) then (0 : Int32) else (1 : Int32))), none]) (st2 := [vI (1 : Int32)]) (m1 := m) rfl ?_
          exact K6
        exact K7
      refine an_b 4 (pc2 := if (nI j1) = a1 then 136 else 117) (L2 := [some (vR 0 0 g), some (vI a1), some (vI (v_X1_at m 1 g a1)), some (vI (v_X1_at m 2 g a1)), some (vI (v_X1_at m 3 g a1)), some (vI s1), some (vI (nI j1)), some (vI (if ((v_X1_at m 0 g (v_X4_cell m (nI j1) (v_X1_at m 1 g a1))) + (v_X1_at m 2 g a1)) ≤ (3 : Int32) then (0 : Int32) else (1 : Int32))), some (vI (if ¬ (v_X1_at m 1 g (nI j1)) = (v_X1_at m 1 g a1) then (0 : Int32) else (if (v_X1_at m 3 g a1) ≤ (v_X1_at m 3 g (nI j1)) then (0 : Int32) else (1 : Int32))))]) (st2 := []) (m1 := m) rfl ?_
      refine re_if1 (c := (nI j1) = a1) (a := s1) (b := (if ¬ (if ((v_X1_at m 0 g (v_X4_cell m (nI j1) (v_X1_at m 1 g a1))) + (v_X1_at m 2 g a1)) ≤ (3 : Int32) then (0 : Int32) else (1 : Int32)) = 0 then (s1 ||| ((1 : Int32) <<< ((nI j1) &&& (31 : Int32)))) else (if (if ¬ (v_X1_at m 1 g (nI j1)) = (v_X1_at m 1 g a1) then (0 : Int32) else (if (v_X1_at m 3 g a1) ≤ (v_X1_at m 3 g (nI j1)) then (0 : Int32) else (1 : Int32))) = 0 then s1 else (s1 ||| ((1 : Int32) <<< ((nI j1) &&& (31 : Int32))))))) (fun x => (136, [some (vR 0 0 g), some (vI a1), some (vI (v_X1_at m 1 g a1)), some (vI (v_X1_at m 2 g a1)), some (vI (v_X1_at m 3 g a1)), some (vI x), some (vI (nI j1)), some (vI (if ((v_X1_at m 0 g (v_X4_cell m (nI j1) (v_X1_at m 1 g a1))) + (v_X1_at m 2 g a1)) ≤ (3 : Int32) then (0 : Int32) else (1 : Int32))), some (vI (if ¬ (v_X1_at m 1 g (nI j1)) = (v_X1_at m 1 g a1) then (0 : Int32) else (if (v_X1_at m 3 g a1) ≤ (v_X1_at m 3 g (nI j1)) then (0 : Int32) else (1 : Int32))))], [], m)) (fun h8 v9 m9 K13 => ?_) (fun h8 v9 m9 K13 => ?_) _ _ ?_
      · exact K13
      · refine an_b 2 (pc2 := if ¬ (if ((v_X1_at m 0 g (v_X4_cell m (nI j1) (v_X1_at m 1 g a1))) + (v_X1_at m 2 g a1)) ≤ (3 : Int32) then (0 : Int32) else (1 : Int32)) = 0 then 127 else 122) (L2 := [some (vR 0 0 g), some (vI a1), some (vI (v_X1_at m 1 g a1)), some (vI (v_X1_at m 2 g a1)), some (vI (v_X1_at m 3 g a1)), some (vI s1), some (vI (nI j1)), some (vI (if ((v_X1_at m 0 g (v_X4_cell m (nI j1) (v_X1_at m 1 g a1))) + (v_X1_at m 2 g a1)) ≤ (3 : Int32) then (0 : Int32) else (1 : Int32))), some (vI (if ¬ (v_X1_at m 1 g (nI j1)) = (v_X1_at m 1 g a1) then (0 : Int32) else (if (v_X1_at m 3 g a1) ≤ (v_X1_at m 3 g (nI j1)) then (0 : Int32) else (1 : Int32))))]) (st2 := []) (m1 := m) rfl ?_
        refine re_if1 (c := ¬ (if ((v_X1_at m 0 g (v_X4_cell m (nI j1) (v_X1_at m 1 g a1))) + (v_X1_at m 2 g a1)) ≤ (3 : Int32) then (0 : Int32) else (1 : Int32)) = 0) (a := (s1 ||| ((1 : Int32) <<< ((nI j1) &&& (31 : Int32))))) (b := (if (if ¬ (v_X1_at m 1 g (nI j1)) = (v_X1_at m 1 g a1) then (0 : Int32) else (if (v_X1_at m 3 g a1) ≤ (v_X1_at m 3 g (nI j1)) then (0 : Int32) else (1 : Int32))) = 0 then s1 else (s1 ||| ((1 : Int32) <<< ((nI j1) &&& (31 : Int32)))))) (fun x => (136, [some (vR 0 0 g), some (vI a1), some (vI (v_X1_at m 1 g a1)), some (vI (v_X1_at m 2 g a1)), some (vI (v_X1_at m 3 g a1)), some (vI x), some (vI (nI j1)), some (vI (if ((v_X1_at m 0 g (v_X4_cell m (nI j1) (v_X1_at m 1 g a1))) + (v_X1_at m 2 g a1)) ≤ (3 : Int32) then (0 : Int32) else (1 : Int32))), some (vI (if ¬ (v_X1_at m 1 g (nI j1)) = (v_X1_at m 1 g a1) then (0 : Int32) else (if (v_X1_at m 3 g a1) ≤ (v_X1_at m 3 g (nI j1)) then (0 : Int32) else (1 : Int32))))], [], m)) (fun h9 v9 m9 K12 => ?_) (fun h9 v9 m9 K12 => ?_) _ _ ?_
        · refine an_b 6 (pc2 := 136) (L2 := [some (vR 0 0 g), some (vI a1), some (vI (v_X1_at m 1 g a1)), some (vI (v_X1_at m 2 g a1)), some (vI (v_X1_at m 3 g a1)), some (vI (s1 ||| ((1 : Int32) <<< ((nI j1) &&& (31 : Int32))))), some (vI (nI j1)), some (vI (if ((v_X1_at m 0 g (v_X4_cell m (nI j1) (v_X1_at m 1 g a1))) + (v_X1_at m 2 g a1)) ≤ (3 : Int32) then (0 : Int32) else (1 : Int32))), some (vI (if ¬ (v_X1_at m 1 g (nI j1)) = (v_X1_at m 1 g a1) then (0 : Int32) else (if (v_X1_at m 3 g a1) ≤ (v_X1_at m 3 g (nI j1)) then (0 : Int32) else (1 : Int32))))]) (st2 := []) (m1 := m) rfl ?_
          exact K12
        · refine an_b 2 (pc2 := if (if ¬ (v_X1_at m 1 g (nI j1)) = (v_X1_at m 1 g a1) then (0 : Int32) else (if (v_X1_at m 3 g a1) ≤ (v_X1_at m 3 g (nI j1)) then (0 : Int32) else (1 : Int32))) = 0 then 136 else 127) (L2 := [some (vR 0 0 g), some (vI a1), some (vI (v_X1_at m 1 g a1)), some (vI (v_X1_at m 2 g a1)), some (vI (v_X1_at m 3 g a1)), some (vI s1), some (vI (nI j1)), some (vI (if ((v_X1_at m 0 g (v_X4_cell m (nI j1) (v_X1_at m 1 g a1))) + (v_X1_at m 2 g a1)) ≤ (3 : Int32) then (0 : Int32) else (1 : Int32))), some (vI (if ¬ (v_X1_at m 1 g (nI j1)) = (v_X1_at m 1 g a1) then (0 : Int32) else (if (v_X1_at m 3 g a1) ≤ (v_X1_at m 3 g (nI j1)) then (0 : Int32) else (1 : Int32))))]) (st2 := []) (m1 := m) rfl ?_
          refine re_if1 (c := (if ¬ (v_X1_at m 1 g (nI j1)) = (v_X1_at m 1 g a1) then (0 : Int32) else (if (v_X1_at m 3 g a1) ≤ (v_X1_at m 3 g (nI j1)) then (0 : Int32) else (1 : Int32))) = 0) (a := s1) (b := (s1 ||| ((1 : Int32) <<< ((nI j1) &&& (31 : Int32))))) (fun x => (136, [some (vR 0 0 g), some (vI a1), some (vI (v_X1_at m 1 g a1)), some (vI (v_X1_at m 2 g a1)), some (vI (v_X1_at m 3 g a1)), some (vI x), some (vI (nI j1)), some (vI (if ((v_X1_at m 0 g (v_X4_cell m (nI j1) (v_X1_at m 1 g a1))) + (v_X1_at m 2 g a1)) ≤ (3 : Int32) then (0 : Int32) else (1 : Int32))), some (vI (if ¬ (v_X1_at m 1 g (nI j1)) = (v_X1_at m 1 g a1) then (0 : Int32) else (if (v_X1_at m 3 g a1) ≤ (v_X1_at m 3 g (nI j1)) then (0 : Int32) else (1 : Int32))))], [], m)) (fun h10 v9 m9 K11 => ?_) (fun h10 v9 m9 K11 => ?_) _ _ ?_
          · exact K11
          · refine an_b 6 (pc2 := 136) (L2 := [some (vR 0 0 g), some (vI a1), some (vI (v_X1_at m 1 g a1)), some (vI (v_X1_at m 2 g a1)), some (vI (v_X1_at m 3 g a1)), some (vI (s1 ||| ((1 : Int32) <<< ((nI j1) &&& (31 : Int32))))), some (vI (nI j1)), some (vI (if ((v_X1_at m 0 g (v_X4_cell m (nI j1) (v_X1_at m 1 g a1))) + (v_X1_at m 2 g a1)) ≤ (3 : Int32) then (0 : Int32) else (1 : Int32))), some (vI (if ¬ (v_X1_at m 1 g (nI j1)) = (v_X1_at m 1 g a1) then (0 : Int32) else (if (v_X1_at m 3 g a1) ≤ (v_X1_at m 3 g (nI j1)) then (0 : Int32) else (1 : Int32))))]) (st2 := []) (m1 := m) rfl ?_
            exact K11
          exact K12
        exact K13
      refine an_b 2 (pc2 := 44) (L2 := [some (vR 0 0 g), some (vI a1), some (vI (v_X1_at m 1 g a1)), some (vI (v_X1_at m 2 g a1)), some (vI (v_X1_at m 3 g a1)), some (vI (if (nI j1) = a1 then s1 else (if ¬ (if ((v_X1_at m 0 g (v_X4_cell m (nI j1) (v_X1_at m 1 g a1))) + (v_X1_at m 2 g a1)) ≤ (3 : Int32) then (0 : Int32) else (1 : Int32)) = 0 then (s1 ||| ((1 : Int32) <<< ((nI j1) &&& (31 : Int32)))) else (if (if ¬ (v_X1_at m 1 g (nI j1)) = (v_X1_at m 1 g a1) then (0 : Int32) else (if (v_X1_at m 3 g a1) ≤ (v_X1_at m 3 g (nI j1)) then (0 : Int32) else (1 : Int32))) = 0 then s1 else (s1 ||| ((1 : Int32) <<< ((nI j1) &&& (31 : Int32)))))))), some (vI ((nI j1) + (1 : Int32))), some (vI (if ((v_X1_at m 0 g (v_X4_cell m (nI j1) (v_X1_at m 1 g a1))) + (v_X1_at m 2 g a1)) ≤ (3 : Int32) then (0 : Int32) else (1 : Int32))), some (vI (if ¬ (v_X1_at m 1 g (nI j1)) = (v_X1_at m 1 g a1) then (0 : Int32) else (if (v_X1_at m 3 g a1) ≤ (v_X1_at m 3 g (nI j1)) then (0 : Int32) else (1 : Int32))))]) (st2 := []) (m1 := m) rfl ?_
      refine an_weak (L := [some (vR 0 0 g), some (vI a1), some (vI (v_X1_at m 1 g a1)), some (vI (v_X1_at m 2 g a1)), some (vI (v_X1_at m 3 g a1)), some (vI (if (nI j1) = a1 then s1 else (if ¬ (if ((v_X1_at m 0 g (v_X4_cell m (nI j1) (v_X1_at m 1 g a1))) + (v_X1_at m 2 g a1)) ≤ (3 : Int32) then (0 : Int32) else (1 : Int32)) = 0 then (s1 ||| ((1 : Int32) <<< ((nI j1) &&& (31 : Int32)))) else (if (if ¬ (v_X1_at m 1 g (nI j1)) = (v_X1_at m 1 g a1) then (0 : Int32) else (if (v_X1_at m 3 g a1) ≤ (v_X1_at m 3 g (nI j1)) then (0 : Int32) else (1 : Int32))) = 0 then s1 else (s1 ||| ((1 : Int32) <<< ((nI j1) &&& (31 : Int32)))))))), some (vI ((nI j1) + (1 : Int32))), none, none]) (⟨rfl, rfl, rfl, rfl, rfl, rfl, rfl, trivial⟩) ?_
      refine an_cL (K := [some (vR 0 0 g), some (vI a1), some (vI (v_X1_at m 1 g a1)), some (vI (v_X1_at m 2 g a1)), some (vI (v_X1_at m 3 g a1)), some (vI (if (nI j1) = a1 then s1 else (if ¬ (if ((v_X1_at m 0 g (v_X4_cell m (nI j1) (v_X1_at m 1 g a1))) + (v_X1_at m 2 g a1)) ≤ (3 : Int32) then (0 : Int32) else (1 : Int32)) = 0 then (s1 ||| ((1 : Int32) <<< ((nI j1) &&& (31 : Int32)))) else (if (if ¬ (v_X1_at m 1 g (nI j1)) = (v_X1_at m 1 g a1) then (0 : Int32) else (if (v_X1_at m 3 g a1) ≤ (v_X1_at m 3 g (nI j1)) then (0 : Int32) else (1 : Int32))) = 0 then s1 else (s1 ||| ((1 : Int32) <<< ((nI j1) &&& (31 : Int32)))))))), some (vI (nI (j1 + 1))), none, none]) (by simp only [nI_1]) ?_
      exact K1
    · show An MX2_direct 44 [some (vR 0 0 g), some (vI a1), some (vI (v_X1_at m 1 g a1)), some (vI (v_X1_at m 2 g a1)), some (vI (v_X1_at m 3 g a1)), some (vI s1), some (vI (nI 8)), none, none] [] m v9 m9
      refine an_b 3 (pc2 := if (8 : Int32) ≤ (nI 8) then 142 else 51) (L2 := [some (vR 0 0 g), some (vI a1), some (vI (v_X1_at m 1 g a1)), some (vI (v_X1_at m 2 g a1)), some (vI (v_X1_at m 3 g a1)), some (vI s1), some (vI (nI 8)), none, none]) (st2 := []) (m1 := m) rfl ?_
      refine an_t (nI_le (a := 8) (b := 8) (by omega) (by omega)) ?_
      refine an_weak (L := [some (vR 0 0 g), some (vI a1), some (vI (v_X1_at m 1 g a1)), some (vI (v_X1_at m 2 g a1)), some (vI (v_X1_at m 3 g a1)), some (vI s1), none, none, none]) (⟨rfl, rfl, rfl, rfl, rfl, rfl, trivial⟩) ?_
      exact K1
    show An MX2_direct 142 [some (vR 0 0 g), some (vI a1), some (vI (v_X1_at m 1 g a1)), some (vI (v_X1_at m 2 g a1)), some (vI (v_X1_at m 3 g a1)), some (vI (lp (b_X2_direct_1 m g a1) 8 0 (0 : Int32))), none, none, none] [] m _ _
    refine an_b 1 (pc2 := 144) (L2 := [some (vR 0 0 g), some (vI a1), some (vI (v_X1_at m 1 g a1)), some (vI (v_X1_at m 2 g a1)), some (vI (v_X1_at m 3 g a1)), some (vI (lp (b_X2_direct_1 m g a1) 8 0 (0 : Int32))), none, none, none]) (st2 := [vI (lp (b_X2_direct_1 m g a1) 8 0 (0 : Int32))]) (m1 := m) rfl ?_
    exact an_ret rfl rfl rfl rfl rfl
  · refine an_b 1 (pc2 := 9) (L2 := [some (vR 0 0 g), some (vI a1), none, none, none, none, none, none, none]) (st2 := [vI (0 : Int32)]) (m1 := m) rfl ?_
    exact an_ret rfl rfl rfl rfl rfl
def v_X4_has (m : PM) (a1 : Int32) (a2 : Int32) : Int32 := (if ((a1 >>> (a2 &&& (31 : Int32))) &&& (1 : Int32)) = 0 then (0 : Int32) else (1 : Int32))
set_option maxRecDepth 100000 in
theorem r_X4_has (m : PM) (a1 : Int32) (a2 : Int32) : Rn MX4_has [vI a1, vI a2] m (some (vI (v_X4_has m a1 a2))) m := by
  refine rn_of [some (vI a1), some (vI a2)] rfl ?_
  unfold v_X4_has
  refine an_b 6 (pc2 := if ((a1 >>> (a2 &&& (31 : Int32))) &&& (1 : Int32)) = 0 then 12 else 8) (L2 := [some (vI a1), some (vI a2)]) (st2 := []) (m1 := m) rfl ?_
  refine an_ifi (c := ((a1 >>> (a2 &&& (31 : Int32))) &&& (1 : Int32)) = 0) (fun h1 => ?_) (fun h1 => ?_)
  · refine an_b 1 (pc2 := 13) (L2 := [some (vI a1), some (vI a2)]) (st2 := [vI (0 : Int32)]) (m1 := m) rfl ?_
    exact an_ret rfl rfl rfl rfl rfl
  · refine an_b 2 (pc2 := 13) (L2 := [some (vI a1), some (vI a2)]) (st2 := [vI (1 : Int32)]) (m1 := m) rfl ?_
    exact an_ret rfl rfl rfl rfl rfl
def b_X2_reach_2 (m : PM) (g : Nat) (a1 : Int32) (j1 : Nat) (s1 : Int32) (j2 : Nat) (s2 : Int32) : Int32 := (if (v_X4_has m s1 (nI j2)) = 0 then s2 else (s2 ||| (v_X2_direct m g (nI j2))))
def b_X2_reach_1 (m : PM) (g : Nat) (a1 : Int32)  (j1 : Nat) (s1 : Int32) : (Int32) ⊕ (Int32) := if ¬ (lp (b_X2_reach_2 m g a1 j1 s1) 8 0 s1) = s1 then .inl (lp (b_X2_reach_2 m g a1 j1 s1) 8 0 s1) else .inr s1
def v_X2_reach (m : PM) (g : Nat) (a1 : Int32) : Int32 := (lqv (lq (b_X2_reach_1 m g a1) 8 0 (v_X2_direct m g a1)))
set_option maxRecDepth 100000 in
theorem r_X2_reach (m : PM) (g : Nat) (a1 : Int32) : Rn MX2_reach [vR 0 0 g, vI a1] m (some (vI (v_X2_reach m g a1))) m := by
  refine rn_of [some (vR 0 0 g), some (vI a1), none, none, none, none] rfl ?_
  unfold v_X2_reach
  refine an_b 2 (pc2 := 2) (L2 := [some (vR 0 0 g), some (vI a1), none, none, none, none]) (st2 := [vI a1, vR 0 0 g]) (m1 := m) rfl ?_
  refine an_call (r_X2_direct m g a1) rfl rfl rfl rfl ?_
  refine an_b 3 (pc2 := 8) (L2 := [some (vR 0 0 g), some (vI a1), some (vI (v_X2_direct m g a1)), some (vI (0 : Int32)), none, none]) (st2 := []) (m1 := m) rfl ?_
  refine re_lq (σ := Int32) (ρ := Int32) (b_X2_reach_1 m g a1) (fun j1 s1 => (8, [some (vR 0 0 g), some (vI a1), some (vI s1), some (vI (nI j1)), none, none], [], m)) 8 (fun x9 => (71, [some (vR 0 0 g), some (vI a1), some (vI (lqv x9)), none, none, none], [], m)) (fun j1 s1 hj1 v9 m9 hc1 hr1 => ?_) (fun s1 v9 m9 K1 => ?_) 8 0 (v_X2_direct m g a1) (Nat.add_zero _) _ _ ?_
  · show An MX2_reach 8 [some (vR 0 0 g), some (vI a1), some (vI s1), some (vI (nI j1)), none, none] [] m v9 m9
    refine an_b 3 (pc2 := if (8 : Int32) ≤ (nI j1) then 71 else 14) (L2 := [some (vR 0 0 g), some (vI a1), some (vI s1), some (vI (nI j1)), none, none]) (st2 := []) (m1 := m) rfl ?_
    refine an_f (nI_ge (a := j1) (b := 8) (by omega) (by omega)) ?_
    refine an_b 4 (pc2 := 20) (L2 := [some (vR 0 0 g), some (vI a1), some (vI s1), some (vI (nI j1)), some (vI s1), some (vI (0 : Int32))]) (st2 := []) (m1 := m) rfl ?_
    refine re_lp (σ := Int32) (b_X2_reach_2 m g a1 j1 s1) (fun j2 s2 => (20, [some (vR 0 0 g), some (vI a1), some (vI s1), some (vI (nI j1)), some (vI s2), some (vI (nI j2))], [], m)) 8 (fun s2 => (53, [some (vR 0 0 g), some (vI a1), some (vI s1), some (vI (nI j1)), some (vI s2), none], [], m)) (fun j2 s2 hj2 v9 m9 K2 => ?_) (fun s2 v9 m9 K2 => ?_) 8 0 s1 (Nat.add_zero _) _ _ ?_
    · show An MX2_reach 20 [some (vR 0 0 g), some (vI a1), some (vI s1), some (vI (nI j1)), some (vI s2), some (vI (nI j2))] [] m v9 m9
      refine an_b 3 (pc2 := if (8 : Int32) ≤ (nI j2) then 53 else 27) (L2 := [some (vR 0 0 g), some (vI a1), some (vI s1), some (vI (nI j1)), some (vI s2), some (vI (nI j2))]) (st2 := []) (m1 := m) rfl ?_
      refine an_f (nI_ge (a := j2) (b := 8) (by omega) (by omega)) ?_
      refine an_b 2 (pc2 := 30) (L2 := [some (vR 0 0 g), some (vI a1), some (vI s1), some (vI (nI j1)), some (vI s2), some (vI (nI j2))]) (st2 := [vI (nI j2), vI s1]) (m1 := m) rfl ?_
      refine an_call (r_X4_has m s1 (nI j2)) rfl rfl rfl rfl ?_
      refine an_b 1 (pc2 := if (v_X4_has m s1 (nI j2)) = 0 then 47 else 36) (L2 := [some (vR 0 0 g), some (vI a1), some (vI s1), some (vI (nI j1)), some (vI s2), some (vI (nI j2))]) (st2 := []) (m1 := m) rfl ?_
      refine re_if1 (c := (v_X4_has m s1 (nI j2)) = 0) (a := s2) (b := (s2 ||| (v_X2_direct m g (nI j2)))) (fun x => (47, [some (vR 0 0 g), some (vI a1), some (vI s1), some (vI (nI j1)), some (vI x), some (vI (nI j2))], [], m)) (fun h1 v9 m9 K2 => ?_) (fun h1 v9 m9 K2 => ?_) _ _ ?_
      · exact K2
      · refine an_b 3 (pc2 := 41) (L2 := [some (vR 0 0 g), some (vI a1), some (vI s1), some (vI (nI j1)), some (vI s2), some (vI (nI j2))]) (st2 := [vI (nI j2), vR 0 0 g, vI s2]) (m1 := m) rfl ?_
        refine an_call (r_X2_direct m g (nI j2)) rfl rfl rfl rfl ?_
        refine an_b 2 (pc2 := 47) (L2 := [some (vR 0 0 g), some (vI a1), some (vI s1), some (vI (nI j1)), some (vI (s2 ||| (v_X2_direct m g (nI j2)))), some (vI (nI j2))]) (st2 := []) (m1 := m) rfl ?_
        exact K2
      refine an_b 2 (pc2 := 20) (L2 := [some (vR 0 0 g), some (vI a1), some (vI s1), some (vI (nI j1)), some (vI (if (v_X4_has m s1 (nI j2)) = 0 then s2 else (s2 ||| (v_X2_direct m g (nI j2))))), some (vI ((nI j2) + (1 : Int32)))]) (st2 := []) (m1 := m) rfl ?_
      refine an_cL (K := [some (vR 0 0 g), some (vI a1), some (vI s1), some (vI (nI j1)), some (vI (if (v_X4_has m s1 (nI j2)) = 0 then s2 else (s2 ||| (v_X2_direct m g (nI j2))))), some (vI (nI (j2 + 1)))]) (by simp only [nI_1]) ?_
      exact K2
    · show An MX2_reach 20 [some (vR 0 0 g), some (vI a1), some (vI s1), some (vI (nI j1)), some (vI s2), some (vI (nI 8))] [] m v9 m9
      refine an_b 3 (pc2 := if (8 : Int32) ≤ (nI 8) then 53 else 27) (L2 := [some (vR 0 0 g), some (vI a1), some (vI s1), some (vI (nI j1)), some (vI s2), some (vI (nI 8))]) (st2 := []) (m1 := m) rfl ?_
      refine an_t (nI_le (a := 8) (b := 8) (by omega) (by omega)) ?_
      refine an_weak (L := [some (vR 0 0 g), some (vI a1), some (vI s1), some (vI (nI j1)), some (vI s2), none]) (⟨rfl, rfl, rfl, rfl, rfl, trivial⟩) ?_
      exact K2
    show An MX2_reach 53 [some (vR 0 0 g), some (vI a1), some (vI s1), some (vI (nI j1)), some (vI (lp (b_X2_reach_2 m g a1 j1 s1) 8 0 s1)), none] [] m _ _
    refine an_b 3 (pc2 := if ¬ (lp (b_X2_reach_2 m g a1 j1 s1) 8 0 s1) = s1 then 62 else 59) (L2 := [some (vR 0 0 g), some (vI a1), some (vI s1), some (vI (nI j1)), some (vI (lp (b_X2_reach_2 m g a1 j1 s1) 8 0 s1)), none]) (st2 := []) (m1 := m) rfl ?_
    refine an_if (c := ¬ (lp (b_X2_reach_2 m g a1 j1 s1) 8 0 s1) = s1) (fun h3 => ?_) (fun h3 => ?_)
    · refine an_b 4 (pc2 := 8) (L2 := [some (vR 0 0 g), some (vI a1), some (vI (lp (b_X2_reach_2 m g a1 j1 s1) 8 0 s1)), some (vI ((nI j1) + (1 : Int32))), some (vI (lp (b_X2_reach_2 m g a1 j1 s1) 8 0 s1)), none]) (st2 := []) (m1 := m) rfl ?_
      refine an_weak (L := [some (vR 0 0 g), some (vI a1), some (vI (lp (b_X2_reach_2 m g a1 j1 s1) 8 0 s1)), some (vI ((nI j1) + (1 : Int32))), none, none]) (⟨rfl, rfl, rfl, rfl, trivial⟩) ?_
      refine an_cL (K := [some (vR 0 0 g), some (vI a1), some (vI (lp (b_X2_reach_2 m g a1 j1 s1) 8 0 s1)), some (vI (nI (j1 + 1))), none, none]) (by simp only [nI_1]) ?_
      exact hc1 _ (by unfold b_X2_reach_1; rw [if_pos h3])
    · refine an_b 1 (pc2 := 71) (L2 := [some (vR 0 0 g), some (vI a1), some (vI s1), some (vI (nI j1)), some (vI (lp (b_X2_reach_2 m g a1 j1 s1) 8 0 s1)), none]) (st2 := []) (m1 := m) rfl ?_
      refine an_weak (L := [some (vR 0 0 g), some (vI a1), some (vI s1), none, none, none]) (⟨rfl, rfl, rfl, trivial⟩) ?_
      exact hr1 _ (by unfold b_X2_reach_1; rw [if_neg h3])
  · show An MX2_reach 8 [some (vR 0 0 g), some (vI a1), some (vI s1), some (vI (nI 8)), none, none] [] m v9 m9
    refine an_b 3 (pc2 := if (8 : Int32) ≤ (nI 8) then 71 else 14) (L2 := [some (vR 0 0 g), some (vI a1), some (vI s1), some (vI (nI 8)), none, none]) (st2 := []) (m1 := m) rfl ?_
    refine an_t (nI_le (a := 8) (b := 8) (by omega) (by omega)) ?_
    refine an_weak (L := [some (vR 0 0 g), some (vI a1), some (vI s1), none, none, none]) (⟨rfl, rfl, rfl, trivial⟩) ?_
    exact K1
  show An MX2_reach 71 [some (vR 0 0 g), some (vI a1), some (vI (lqv (lq (b_X2_reach_1 m g a1) 8 0 (v_X2_direct m g a1)))), none, none, none] [] m _ _
  refine an_b 1 (pc2 := 72) (L2 := [some (vR 0 0 g), some (vI a1), some (vI (lqv (lq (b_X2_reach_1 m g a1) 8 0 (v_X2_direct m g a1)))), none, none, none]) (st2 := [vI (lqv (lq (b_X2_reach_1 m g a1) 8 0 (v_X2_direct m g a1)))]) (m1 := m) rfl ?_
  exact an_ret rfl rfl rfl rfl rfl
def b_X2_work_1 (m : PM) (g : Nat) (a1 : Int32)  (j1 : Nat) (s1 : Int32) : Int32 := (s1 + (v_X1_at m 0 g (v_X4_cell m a1 (nI j1))))
def v_X2_work (m : PM) (g : Nat) (a1 : Int32) : Int32 := (lp (b_X2_work_1 m g a1) 12 0 (0 : Int32))
set_option maxRecDepth 100000 in
theorem r_X2_work (m : PM) (g : Nat) (a1 : Int32) : Rn MX2_work [vR 0 0 g, vI a1] m (some (vI (v_X2_work m g a1))) m := by
  refine rn_of [some (vR 0 0 g), some (vI a1), none, none] rfl ?_
  unfold v_X2_work
  refine an_b 4 (pc2 := 4) (L2 := [some (vR 0 0 g), some (vI a1), some (vI (0 : Int32)), some (vI (0 : Int32))]) (st2 := []) (m1 := m) rfl ?_
  refine re_lp (σ := Int32) (b_X2_work_1 m g a1) (fun j1 s1 => (4, [some (vR 0 0 g), some (vI a1), some (vI s1), some (vI (nI j1))], [], m)) 12 (fun s1 => (31, [some (vR 0 0 g), some (vI a1), some (vI s1), none], [], m)) (fun j1 s1 hj1 v9 m9 K1 => ?_) (fun s1 v9 m9 K1 => ?_) 12 0 (0 : Int32) (Nat.add_zero _) _ _ ?_
  · show An MX2_work 4 [some (vR 0 0 g), some (vI a1), some (vI s1), some (vI (nI j1))] [] m v9 m9
    refine an_b 3 (pc2 := if (12 : Int32) ≤ (nI j1) then 31 else 10) (L2 := [some (vR 0 0 g), some (vI a1), some (vI s1), some (vI (nI j1))]) (st2 := []) (m1 := m) rfl ?_
    refine an_f (nI_ge (a := j1) (b := 12) (by omega) (by omega)) ?_
    refine an_b 5 (pc2 := 17) (L2 := [some (vR 0 0 g), some (vI a1), some (vI s1), some (vI (nI j1))]) (st2 := [vI (nI j1), vI a1, vR 1 0 g, vI s1]) (m1 := m) rfl ?_
    refine an_call (r_X4_cell m a1 (nI j1)) rfl rfl rfl rfl ?_
    refine an_call (r_X1_at m 0 g (v_X4_cell m a1 (nI j1))) rfl rfl rfl rfl ?_
    refine an_b 4 (pc2 := 4) (L2 := [some (vR 0 0 g), some (vI a1), some (vI (s1 + (v_X1_at m 0 g (v_X4_cell m a1 (nI j1))))), some (vI ((nI j1) + (1 : Int32)))]) (st2 := []) (m1 := m) rfl ?_
    refine an_cL (K := [some (vR 0 0 g), some (vI a1), some (vI (s1 + (v_X1_at m 0 g (v_X4_cell m a1 (nI j1))))), some (vI (nI (j1 + 1)))]) (by simp only [nI_1]) ?_
    exact K1
  · show An MX2_work 4 [some (vR 0 0 g), some (vI a1), some (vI s1), some (vI (nI 12))] [] m v9 m9
    refine an_b 3 (pc2 := if (12 : Int32) ≤ (nI 12) then 31 else 10) (L2 := [some (vR 0 0 g), some (vI a1), some (vI s1), some (vI (nI 12))]) (st2 := []) (m1 := m) rfl ?_
    refine an_t (nI_le (a := 12) (b := 12) (by omega) (by omega)) ?_
    refine an_weak (L := [some (vR 0 0 g), some (vI a1), some (vI s1), none]) (⟨rfl, rfl, rfl, trivial⟩) ?_
    exact K1
  show An MX2_work 31 [some (vR 0 0 g), some (vI a1), some (vI (lp (b_X2_work_1 m g a1) 12 0 (0 : Int32))), none] [] m _ _
  refine an_b 1 (pc2 := 32) (L2 := [some (vR 0 0 g), some (vI a1), some (vI (lp (b_X2_work_1 m g a1) 12 0 (0 : Int32))), none]) (st2 := [vI (lp (b_X2_work_1 m g a1) 12 0 (0 : Int32))]) (m1 := m) rfl ?_
  exact an_ret rfl rfl rfl rfl rfl
def b_X2_loserFor_1 (m : PM) (g : Nat) (a1 : Int32)  (j1 : Nat) (s1 : Int32 × Int32) : Int32 × Int32 := ((if (v_X4_has m (v_X2_reach m g a1) (nI j1)) = 0 then s1.1 else (if (v_X4_has m (v_X2_reach m g (nI j1)) a1) = 0 then s1.1 else (if s1.1 = (-1 : Int32) then (nI j1) else (if s1.2 < (v_X2_work m g (nI j1)) then s1.1 else (nI j1))))), (if (v_X4_has m (v_X2_reach m g a1) (nI j1)) = 0 then s1.2 else (if (v_X4_has m (v_X2_reach m g (nI j1)) a1) = 0 then s1.2 else (if s1.1 = (-1 : Int32) then (v_X2_work m g (nI j1)) else (if s1.2 < (v_X2_work m g (nI j1)) then s1.2 else (v_X2_work m g (nI j1)))))))
def v_X2_loserFor (m : PM) (g : Nat) (a1 : Int32) : Int32 := (if ¬ (v_X4_has m (v_X2_reach m g a1) a1) = 0 then ((lp (b_X2_loserFor_1 m g a1) 8 0 ((-1 : Int32), (0 : Int32))).1) else (-1 : Int32))
set_option maxRecDepth 100000 in
theorem r_X2_loserFor (m : PM) (g : Nat) (a1 : Int32) : Rn MX2_loserFor [vR 0 0 g, vI a1] m (some (vI (v_X2_loserFor m g a1))) m := by
  refine rn_of [some (vR 0 0 g), some (vI a1), none, none, none, none, none] rfl ?_
  unfold v_X2_loserFor
  refine an_b 2 (pc2 := 2) (L2 := [some (vR 0 0 g), some (vI a1), none, none, none, none, none]) (st2 := [vI a1, vR 0 0 g]) (m1 := m) rfl ?_
  refine an_call (r_X2_reach m g a1) rfl rfl rfl rfl ?_
  refine an_b 5 (pc2 := 10) (L2 := [some (vR 0 0 g), some (vI a1), some (vI (v_X2_reach m g a1)), some (vI (-1 : Int32)), none, none, none]) (st2 := [vI a1, vI (v_X2_reach m g a1)]) (m1 := m) rfl ?_
  refine an_call (r_X4_has m (v_X2_reach m g a1) a1) rfl rfl rfl rfl ?_
  refine an_b 1 (pc2 := if ¬ (v_X4_has m (v_X2_reach m g a1) a1) = 0 then 18 else 16) (L2 := [some (vR 0 0 g), some (vI a1), some (vI (v_X2_reach m g a1)), some (vI (-1 : Int32)), none, none, none]) (st2 := []) (m1 := m) rfl ?_
  refine an_ifi (c := ¬ (v_X4_has m (v_X2_reach m g a1) a1) = 0) (fun h1 => ?_) (fun h1 => ?_)
  · refine an_b 4 (pc2 := 24) (L2 := [some (vR 0 0 g), some (vI a1), some (vI (v_X2_reach m g a1)), some (vI (-1 : Int32)), some (vI (0 : Int32)), some (vI (0 : Int32)), none]) (st2 := []) (m1 := m) rfl ?_
    refine re_lp (σ := Int32 × Int32) (b_X2_loserFor_1 m g a1) (fun j1 s1 => (24, [some (vR 0 0 g), some (vI a1), some (vI (v_X2_reach m g a1)), some (vI s1.1), some (vI s1.2), some (vI (nI j1)), none], [], m)) 8 (fun s1 => (86, [some (vR 0 0 g), some (vI a1), some (vI (v_X2_reach m g a1)), some (vI s1.1), none, none, none], [], m)) (fun j1 s1 hj1 v9 m9 K1 => ?_) (fun s1 v9 m9 K1 => ?_) 8 0 ((-1 : Int32), (0 : Int32)) (Nat.add_zero _) _ _ ?_
    · show An MX2_loserFor 24 [some (vR 0 0 g), some (vI a1), some (vI (v_X2_reach m g a1)), some (vI s1.1), some (vI s1.2), some (vI (nI j1)), none] [] m v9 m9
      refine an_b 3 (pc2 := if (8 : Int32) ≤ (nI j1) then 86 else 31) (L2 := [some (vR 0 0 g), some (vI a1), some (vI (v_X2_reach m g a1)), some (vI s1.1), some (vI s1.2), some (vI (nI j1)), none]) (st2 := []) (m1 := m) rfl ?_
      refine an_f (nI_ge (a := j1) (b := 8) (by omega) (by omega)) ?_
      refine an_b 2 (pc2 := 34) (L2 := [some (vR 0 0 g), some (vI a1), some (vI (v_X2_reach m g a1)), some (vI s1.1), some (vI s1.2), some (vI (nI j1)), none]) (st2 := [vI (nI j1), vI (v_X2_reach m g a1)]) (m1 := m) rfl ?_
      refine an_call (r_X4_has m (v_X2_reach m g a1) (nI j1)) rfl rfl rfl rfl ?_
      refine an_b 1 (pc2 := if (v_X4_has m (v_X2_reach m g a1) (nI j1)) = 0 then 80 else 40) (L2 := [some (vR 0 0 g), some (vI a1), some (vI (v_X2_reach m g a1)), some (vI s1.1), some (vI s1.2), some (vI (nI j1)), none]) (st2 := []) (m1 := m) rfl ?_
      refine re_if2 (c := (v_X4_has m (v_X2_reach m g a1) (nI j1)) = 0) (a := s1.1) (b := (if (v_X4_has m (v_X2_reach m g (nI j1)) a1) = 0 then s1.1 else (if s1.1 = (-1 : Int32) then (nI j1) else (if s1.2 < (v_X2_work m g (nI j1)) then s1.1 else (nI j1))))) (x := s1.2) (y := (if (v_X4_has m (v_X2_reach m g (nI j1)) a1) = 0 then s1.2 else (if s1.1 = (-1 : Int32) then (v_X2_work m g (nI j1)) else (if s1.2 < (v_X2_work m g (nI j1)) then s1.2 else (v_X2_work m g (nI j1)))))) (fun x y => (80, [some (vR 0 0 g), some (vI a1), some (vI (v_X2_reach m g a1)), some (vI x), some (vI y), some (vI (nI j1)), none], [], m)) (fun h2 v9 m9 K9 => ?_) (fun h2 v9 m9 K9 => ?_) _ _ ?_
      · exact K9
      · refine an_b 2 (pc2 := 43) (L2 := [some (vR 0 0 g), some (vI a1), some (vI (v_X2_reach m g a1)), some (vI s1.1), some (vI s1.2), some (vI (nI j1)), none]) (st2 := [vI (nI j1), vR 0 0 g]) (m1 := m) rfl ?_
        refine an_call (r_X2_reach m g (nI j1)) rfl rfl rfl rfl ?_
        refine an_b 1 (pc2 := 47) (L2 := [some (vR 0 0 g), some (vI a1), some (vI (v_X2_reach m g a1)), some (vI s1.1), some (vI s1.2), some (vI (nI j1)), none]) (st2 := [vI a1, vI (v_X2_reach m g (nI j1))]) (m1 := m) rfl ?_
        refine an_call (r_X4_has m (v_X2_reach m g (nI j1)) a1) rfl rfl rfl rfl ?_
        refine an_b 1 (pc2 := if (v_X4_has m (v_X2_reach m g (nI j1)) a1) = 0 then 80 else 53) (L2 := [some (vR 0 0 g), some (vI a1), some (vI (v_X2_reach m g a1)), some (vI s1.1), some (vI s1.2), some (vI (nI j1)), none]) (st2 := []) (m1 := m) rfl ?_
        refine re_if2 (c := (v_X4_has m (v_X2_reach m g (nI j1)) a1) = 0) (a := s1.1) (b := (if s1.1 = (-1 : Int32) then (nI j1) else (if s1.2 < (v_X2_work m g (nI j1)) then s1.1 else (nI j1)))) (x := s1.2) (y := (if s1.1 = (-1 : Int32) then (v_X2_work m g (nI j1)) else (if s1.2 < (v_X2_work m g (nI j1)) then s1.2 else (v_X2_work m g (nI j1))))) (fun x y => (80, [some (vR 0 0 g), some (vI a1), some (vI (v_X2_reach m g a1)), some (vI x), some (vI y), some (vI (nI j1)), none], [], m)) (fun h3 v9 m9 K8 => ?_) (fun h3 v9 m9 K8 => ?_) _ _ ?_
        · exact K8
        · refine an_b 2 (pc2 := 56) (L2 := [some (vR 0 0 g), some (vI a1), some (vI (v_X2_reach m g a1)), some (vI s1.1), some (vI s1.2), some (vI (nI j1)), none]) (st2 := [vI (nI j1), vR 0 0 g]) (m1 := m) rfl ?_
          refine an_call (r_X2_work m g (nI j1)) rfl rfl rfl rfl ?_
          refine an_b 4 (pc2 := if s1.1 = (-1 : Int32) then 73 else 66) (L2 := [some (vR 0 0 g), some (vI a1), some (vI (v_X2_reach m g a1)), some (vI s1.1), some (vI s1.2), some (vI (nI j1)), some (vI (v_X2_work m g (nI j1)))]) (st2 := []) (m1 := m) rfl ?_
          refine re_if2 (c := s1.1 = (-1 : Int32)) (a := (nI j1)) (b := (if s1.2 < (v_X2_work m g (nI j1)) then s1.1 else (nI j1))) (x := (v_X2_work m g (nI j1))) (y := (if s1.2 < (v_X2_work m g (nI j1)) then s1.2 else (v_X2_work m g (nI j1)))) (fun x y => (80, [some (vR 0 0 g), some (vI a1), some (vI (v_X2_reach m g a1)), some (vI x), some (vI y), some (vI (nI j1)), some (vI (v_X2_work m g (nI j1)))], [], m)) (fun h4 v9 m9 K7 => ?_) (fun h4 v9 m9 K7 => ?_) _ _ ?_
          · refine an_b 4 (pc2 := 80) (L2 := [some (vR 0 0 g), some (vI a1), some (vI (v_X2_reach m g a1)), some (vI (nI j1)), some (vI (v_X2_work m g (nI j1))), some (vI (nI j1)), some (vI (v_X2_work m g (nI j1)))]) (st2 := []) (m1 := m) rfl ?_
            exact K7
          · refine an_b 3 (pc2 := if s1.2 < (v_X2_work m g (nI j1)) then 80 else 73) (L2 := [some (vR 0 0 g), some (vI a1), some (vI (v_X2_reach m g a1)), some (vI s1.1), some (vI s1.2), some (vI (nI j1)), some (vI (v_X2_work m g (nI j1)))]) (st2 := []) (m1 := m) rfl ?_
            refine re_if2 (c := s1.2 < (v_X2_work m g (nI j1))) (a := s1.1) (b := (nI j1)) (x := s1.2) (y := (v_X2_work m g (nI j1))) (fun x y => (80, [some (vR 0 0 g), some (vI a1), some (vI (v_X2_reach m g a1)), some (vI x), some (vI y), some (vI (nI j1)), some (vI (v_X2_work m g (nI j1)))], [], m)) (fun h5 v9 m9 K6 => ?_) (fun h5 v9 m9 K6 => ?_) _ _ ?_
            · exact K6
            · refine an_b 4 (pc2 := 80) (L2 := [some (vR 0 0 g), some (vI a1), some (vI (v_X2_reach m g a1)), some (vI (nI j1)), some (vI (v_X2_work m g (nI j1))), some (vI (nI j1)), some (vI (v_X2_work m g (nI j1)))]) (st2 := []) (m1 := m) rfl ?_
              exact K6
            exact K7
          refine an_weak (L := [some (vR 0 0 g), some (vI a1), some (vI (v_X2_reach m g a1)), some (vI (if s1.1 = (-1 : Int32) then (nI j1) else (if s1.2 < (v_X2_work m g (nI j1)) then s1.1 else (nI j1)))), some (vI (if s1.1 = (-1 : Int32) then (v_X2_work m g (nI j1)) else (if s1.2 < (v_X2_work m g (nI j1)) then s1.2 else (v_X2_work m g (nI j1))))), some (vI (nI j1)), none]) (⟨rfl, rfl, rfl, rfl, rfl, rfl, trivial⟩) ?_
          exact K8
        exact K9
      refine an_b 2 (pc2 := 24) (L2 := [some (vR 0 0 g), some (vI a1), some (vI (v_X2_reach m g a1)), some (vI (if (v_X4_has m (v_X2_reach m g a1) (nI j1)) = 0 then s1.1 else (if (v_X4_has m (v_X2_reach m g (nI j1)) a1) = 0 then s1.1 else (if s1.1 = (-1 : Int32) then (nI j1) else (if s1.2 < (v_X2_work m g (nI j1)) then s1.1 else (nI j1)))))), some (vI (if (v_X4_has m (v_X2_reach m g a1) (nI j1)) = 0 then s1.2 else (if (v_X4_has m (v_X2_reach m g (nI j1)) a1) = 0 then s1.2 else (if s1.1 = (-1 : Int32) then (v_X2_work m g (nI j1)) else (if s1.2 < (v_X2_work m g (nI j1)) then s1.2 else (v_X2_work m g (nI j1))))))), some (vI ((nI j1) + (1 : Int32))), none]) (st2 := []) (m1 := m) rfl ?_
      refine an_cL (K := [some (vR 0 0 g), some (vI a1), some (vI (v_X2_reach m g a1)), some (vI (if (v_X4_has m (v_X2_reach m g a1) (nI j1)) = 0 then s1.1 else (if (v_X4_has m (v_X2_reach m g (nI j1)) a1) = 0 then s1.1 else (if s1.1 = (-1 : Int32) then (nI j1) else (if s1.2 < (v_X2_work m g (nI j1)) then s1.1 else (nI j1)))))), some (vI (if (v_X4_has m (v_X2_reach m g a1) (nI j1)) = 0 then s1.2 else (if (v_X4_has m (v_X2_reach m g (nI j1)) a1) = 0 then s1.2 else (if s1.1 = (-1 : Int32) then (v_X2_work m g (nI j1)) else (if s1.2 < (v_X2_work m g (nI j1)) then s1.2 else (v_X2_work m g (nI j1))))))), some (vI (nI (j1 + 1))), none]) (by simp only [nI_1]) ?_
      exact K1
    · show An MX2_loserFor 24 [some (vR 0 0 g), some (vI a1), some (vI (v_X2_reach m g a1)), some (vI s1.1), some (vI s1.2), some (vI (nI 8)), none] [] m v9 m9
      refine an_b 3 (pc2 := if (8 : Int32) ≤ (nI 8) then 86 else 31) (L2 := [some (vR 0 0 g), some (vI a1), some (vI (v_X2_reach m g a1)), some (vI s1.1), some (vI s1.2), some (vI (nI 8)), none]) (st2 := []) (m1 := m) rfl ?_
      refine an_t (nI_le (a := 8) (b := 8) (by omega) (by omega)) ?_
      refine an_weak (L := [some (vR 0 0 g), some (vI a1), some (vI (v_X2_reach m g a1)), some (vI s1.1), none, none, none]) (⟨rfl, rfl, rfl, rfl, trivial⟩) ?_
      exact K1
    show An MX2_loserFor 86 [some (vR 0 0 g), some (vI a1), some (vI (v_X2_reach m g a1)), some (vI ((lp (b_X2_loserFor_1 m g a1) 8 0 ((-1 : Int32), (0 : Int32))).1)), none, none, none] [] m _ _
    refine an_b 1 (pc2 := 87) (L2 := [some (vR 0 0 g), some (vI a1), some (vI (v_X2_reach m g a1)), some (vI ((lp (b_X2_loserFor_1 m g a1) 8 0 ((-1 : Int32), (0 : Int32))).1)), none, none, none]) (st2 := [vI ((lp (b_X2_loserFor_1 m g a1) 8 0 ((-1 : Int32), (0 : Int32))).1)]) (m1 := m) rfl ?_
    exact an_ret rfl rfl rfl rfl rfl
  · refine an_b 1 (pc2 := 17) (L2 := [some (vR 0 0 g), some (vI a1), some (vI (v_X2_reach m g a1)), some (vI (-1 : Int32)), none, none, none]) (st2 := [vI (-1 : Int32)]) (m1 := m) rfl ?_
    exact an_ret rfl rfl rfl rfl rfl
def b_X2_strip_1 (m : PM) (g : Nat) (a1 : Int32)  (j1 : Nat) (s1 : Int32 × PM) : Int32 × PM := ((if (v_X1_at s1.2 0 g (v_X4_cell s1.2 a1 (nI j1))) ≤ 0 then s1.1 else (s1.1 ||| ((1 : Int32) <<< ((nI j1) &&& (31 : Int32))))), (if (v_X1_at s1.2 0 g (v_X4_cell s1.2 a1 (nI j1))) ≤ 0 then s1.2 else (w_X1_put s1.2 0 g (v_X4_cell s1.2 a1 (nI j1)) (0 : Int32))))
def v_X2_strip (m : PM) (g : Nat) (a1 : Int32) : Int32 := (if (v_X2_isWaiting ((lp (b_X2_strip_1 m g a1) 12 0 ((0 : Int32), m)).2) g a1) = 0 then ((lp (b_X2_strip_1 m g a1) 12 0 ((0 : Int32), m)).1) else (((lp (b_X2_strip_1 m g a1) 12 0 ((0 : Int32), m)).1) ||| ((1 : Int32) <<< ((v_X1_at ((lp (b_X2_strip_1 m g a1) 12 0 ((0 : Int32), m)).2) 1 g a1) &&& (31 : Int32)))))
def w_X2_strip (m : PM) (g : Nat) (a1 : Int32) : PM := (w_X1_raise (if (v_X2_isWaiting ((lp (b_X2_strip_1 m g a1) 12 0 ((0 : Int32), m)).2) g a1) = 0 then (lp (b_X2_strip_1 m g a1) 12 0 ((0 : Int32), m)).2 else (w_X2_dequeue ((lp (b_X2_strip_1 m g a1) 12 0 ((0 : Int32), m)).2) g a1)) 7 g a1)
set_option maxRecDepth 100000 in
theorem r_X2_strip (m : PM) (g : Nat) (a1 : Int32) : Rn MX2_strip [vR 0 0 g, vI a1] m (some (vI (v_X2_strip m g a1))) (w_X2_strip m g a1) := by
  refine rn_of [some (vR 0 0 g), some (vI a1), none, none] rfl ?_
  unfold v_X2_strip w_X2_strip
  refine an_b 4 (pc2 := 4) (L2 := [some (vR 0 0 g), some (vI a1), some (vI (0 : Int32)), some (vI (0 : Int32))]) (st2 := []) (m1 := m) rfl ?_
  refine re_lp (σ := Int32 × PM) (b_X2_strip_1 m g a1) (fun j1 s1 => (4, [some (vR 0 0 g), some (vI a1), some (vI s1.1), some (vI (nI j1))], [], s1.2)) 12 (fun s1 => (50, [some (vR 0 0 g), some (vI a1), some (vI s1.1), none], [], s1.2)) (fun j1 s1 hj1 v9 m9 K1 => ?_) (fun s1 v9 m9 K1 => ?_) 12 0 ((0 : Int32), m) (Nat.add_zero _) _ _ ?_
  · show An MX2_strip 4 [some (vR 0 0 g), some (vI a1), some (vI s1.1), some (vI (nI j1))] [] s1.2 v9 m9
    refine an_b 3 (pc2 := if (12 : Int32) ≤ (nI j1) then 50 else 10) (L2 := [some (vR 0 0 g), some (vI a1), some (vI s1.1), some (vI (nI j1))]) (st2 := []) (m1 := s1.2) rfl ?_
    refine an_f (nI_ge (a := j1) (b := 12) (by omega) (by omega)) ?_
    refine an_b 4 (pc2 := 16) (L2 := [some (vR 0 0 g), some (vI a1), some (vI s1.1), some (vI (nI j1))]) (st2 := [vI (nI j1), vI a1, vR 1 0 g]) (m1 := s1.2) rfl ?_
    refine an_call (r_X4_cell s1.2 a1 (nI j1)) rfl rfl rfl rfl ?_
    refine an_call (r_X1_at s1.2 0 g (v_X4_cell s1.2 a1 (nI j1))) rfl rfl rfl rfl ?_
    refine an_b 1 (pc2 := if (v_X1_at s1.2 0 g (v_X4_cell s1.2 a1 (nI j1))) ≤ 0 then 44 else 25) (L2 := [some (vR 0 0 g), some (vI a1), some (vI s1.1), some (vI (nI j1))]) (st2 := []) (m1 := s1.2) rfl ?_
    refine re_if2 (c := (v_X1_at s1.2 0 g (v_X4_cell s1.2 a1 (nI j1))) ≤ 0) (a := s1.1) (b := (s1.1 ||| ((1 : Int32) <<< ((nI j1) &&& (31 : Int32))))) (x := s1.2) (y := (w_X1_put s1.2 0 g (v_X4_cell s1.2 a1 (nI j1)) (0 : Int32))) (fun x y => (44, [some (vR 0 0 g), some (vI a1), some (vI x), some (vI (nI j1))], [], y)) (fun h1 v9 m9 K2 => ?_) (fun h1 v9 m9 K2 => ?_) _ _ ?_
    · exact K2
    · refine an_b 10 (pc2 := 37) (L2 := [some (vR 0 0 g), some (vI a1), some (vI (s1.1 ||| ((1 : Int32) <<< ((nI j1) &&& (31 : Int32))))), some (vI (nI j1))]) (st2 := [vI (nI j1), vI a1, vR 1 0 g]) (m1 := s1.2) rfl ?_
      refine an_call (r_X4_cell s1.2 a1 (nI j1)) rfl rfl rfl rfl ?_
      refine an_b 1 (pc2 := 41) (L2 := [some (vR 0 0 g), some (vI a1), some (vI (s1.1 ||| ((1 : Int32) <<< ((nI j1) &&& (31 : Int32))))), some (vI (nI j1))]) (st2 := [vI (0 : Int32), vI (v_X4_cell s1.2 a1 (nI j1)), vR 1 0 g]) (m1 := s1.2) rfl ?_
      refine an_call (r_X1_put s1.2 0 g (v_X4_cell s1.2 a1 (nI j1)) (0 : Int32)) rfl rfl rfl rfl ?_
      exact K2
    refine an_b 2 (pc2 := 4) (L2 := [some (vR 0 0 g), some (vI a1), some (vI (if (v_X1_at s1.2 0 g (v_X4_cell s1.2 a1 (nI j1))) ≤ 0 then s1.1 else (s1.1 ||| ((1 : Int32) <<< ((nI j1) &&& (31 : Int32)))))), some (vI ((nI j1) + (1 : Int32)))]) (st2 := []) (m1 := (if (v_X1_at s1.2 0 g (v_X4_cell s1.2 a1 (nI j1))) ≤ 0 then s1.2 else (w_X1_put s1.2 0 g (v_X4_cell s1.2 a1 (nI j1)) (0 : Int32)))) rfl ?_
    refine an_cL (K := [some (vR 0 0 g), some (vI a1), some (vI (if (v_X1_at s1.2 0 g (v_X4_cell s1.2 a1 (nI j1))) ≤ 0 then s1.1 else (s1.1 ||| ((1 : Int32) <<< ((nI j1) &&& (31 : Int32)))))), some (vI (nI (j1 + 1)))]) (by simp only [nI_1]) ?_
    exact K1
  · show An MX2_strip 4 [some (vR 0 0 g), some (vI a1), some (vI s1.1), some (vI (nI 12))] [] s1.2 v9 m9
    refine an_b 3 (pc2 := if (12 : Int32) ≤ (nI 12) then 50 else 10) (L2 := [some (vR 0 0 g), some (vI a1), some (vI s1.1), some (vI (nI 12))]) (st2 := []) (m1 := s1.2) rfl ?_
    refine an_t (nI_le (a := 12) (b := 12) (by omega) (by omega)) ?_
    refine an_weak (L := [some (vR 0 0 g), some (vI a1), some (vI s1.1), none]) (⟨rfl, rfl, rfl, trivial⟩) ?_
    exact K1
  show An MX2_strip 50 [some (vR 0 0 g), some (vI a1), some (vI ((lp (b_X2_strip_1 m g a1) 12 0 ((0 : Int32), m)).1)), none] [] (lp (b_X2_strip_1 m g a1) 12 0 ((0 : Int32), m)).2 _ _
  refine an_b 2 (pc2 := 52) (L2 := [some (vR 0 0 g), some (vI a1), some (vI ((lp (b_X2_strip_1 m g a1) 12 0 ((0 : Int32), m)).1)), none]) (st2 := [vI a1, vR 0 0 g]) (m1 := (lp (b_X2_strip_1 m g a1) 12 0 ((0 : Int32), m)).2) rfl ?_
  refine an_call (r_X2_isWaiting ((lp (b_X2_strip_1 m g a1) 12 0 ((0 : Int32), m)).2) g a1) rfl rfl rfl rfl ?_
  refine an_b 1 (pc2 := if (v_X2_isWaiting ((lp (b_X2_strip_1 m g a1) 12 0 ((0 : Int32), m)).2) g a1) = 0 then 76 else 58) (L2 := [some (vR 0 0 g), some (vI a1), some (vI ((lp (b_X2_strip_1 m g a1) 12 0 ((0 : Int32), m)).1)), none]) (st2 := []) (m1 := (lp (b_X2_strip_1 m g a1) 12 0 ((0 : Int32), m)).2) rfl ?_
  refine re_if2 (c := (v_X2_isWaiting ((lp (b_X2_strip_1 m g a1) 12 0 ((0 : Int32), m)).2) g a1) = 0) (a := (lp (b_X2_strip_1 m g a1) 12 0 ((0 : Int32), m)).1) (b := (((lp (b_X2_strip_1 m g a1) 12 0 ((0 : Int32), m)).1) ||| ((1 : Int32) <<< ((v_X1_at ((lp (b_X2_strip_1 m g a1) 12 0 ((0 : Int32), m)).2) 1 g a1) &&& (31 : Int32))))) (x := (lp (b_X2_strip_1 m g a1) 12 0 ((0 : Int32), m)).2) (y := (w_X2_dequeue ((lp (b_X2_strip_1 m g a1) 12 0 ((0 : Int32), m)).2) g a1)) (fun x y => (76, [some (vR 0 0 g), some (vI a1), some (vI x), none], [], y)) (fun h3 v9 m9 K4 => ?_) (fun h3 v9 m9 K4 => ?_) _ _ ?_
  · exact K4
  · refine an_b 5 (pc2 := 65) (L2 := [some (vR 0 0 g), some (vI a1), some (vI ((lp (b_X2_strip_1 m g a1) 12 0 ((0 : Int32), m)).1)), none]) (st2 := [vI a1, vR 1 1 g, vI (1 : Int32), vI ((lp (b_X2_strip_1 m g a1) 12 0 ((0 : Int32), m)).1)]) (m1 := (lp (b_X2_strip_1 m g a1) 12 0 ((0 : Int32), m)).2) rfl ?_
    refine an_call (r_X1_at ((lp (b_X2_strip_1 m g a1) 12 0 ((0 : Int32), m)).2) 1 g a1) rfl rfl rfl rfl ?_
    refine an_b 5 (pc2 := 73) (L2 := [some (vR 0 0 g), some (vI a1), some (vI (((lp (b_X2_strip_1 m g a1) 12 0 ((0 : Int32), m)).1) ||| ((1 : Int32) <<< ((v_X1_at ((lp (b_X2_strip_1 m g a1) 12 0 ((0 : Int32), m)).2) 1 g a1) &&& (31 : Int32))))), none]) (st2 := [vI a1, vR 0 0 g]) (m1 := (lp (b_X2_strip_1 m g a1) 12 0 ((0 : Int32), m)).2) rfl ?_
    refine an_call (r_X2_dequeue ((lp (b_X2_strip_1 m g a1) 12 0 ((0 : Int32), m)).2) g a1) rfl rfl rfl rfl ?_
    exact K4
  refine an_b 3 (pc2 := 81) (L2 := [some (vR 0 0 g), some (vI a1), some (vI (if (v_X2_isWaiting ((lp (b_X2_strip_1 m g a1) 12 0 ((0 : Int32), m)).2) g a1) = 0 then ((lp (b_X2_strip_1 m g a1) 12 0 ((0 : Int32), m)).1) else (((lp (b_X2_strip_1 m g a1) 12 0 ((0 : Int32), m)).1) ||| ((1 : Int32) <<< ((v_X1_at ((lp (b_X2_strip_1 m g a1) 12 0 ((0 : Int32), m)).2) 1 g a1) &&& (31 : Int32)))))), none]) (st2 := [vI a1, vR 1 7 g]) (m1 := (if (v_X2_isWaiting ((lp (b_X2_strip_1 m g a1) 12 0 ((0 : Int32), m)).2) g a1) = 0 then (lp (b_X2_strip_1 m g a1) 12 0 ((0 : Int32), m)).2 else (w_X2_dequeue ((lp (b_X2_strip_1 m g a1) 12 0 ((0 : Int32), m)).2) g a1))) rfl ?_
  refine an_call (r_X1_raise (if (v_X2_isWaiting ((lp (b_X2_strip_1 m g a1) 12 0 ((0 : Int32), m)).2) g a1) = 0 then (lp (b_X2_strip_1 m g a1) 12 0 ((0 : Int32), m)).2 else (w_X2_dequeue ((lp (b_X2_strip_1 m g a1) 12 0 ((0 : Int32), m)).2) g a1)) 7 g a1) rfl rfl rfl rfl ?_
  refine an_b 1 (pc2 := 85) (L2 := [some (vR 0 0 g), some (vI a1), some (vI (if (v_X2_isWaiting ((lp (b_X2_strip_1 m g a1) 12 0 ((0 : Int32), m)).2) g a1) = 0 then ((lp (b_X2_strip_1 m g a1) 12 0 ((0 : Int32), m)).1) else (((lp (b_X2_strip_1 m g a1) 12 0 ((0 : Int32), m)).1) ||| ((1 : Int32) <<< ((v_X1_at ((lp (b_X2_strip_1 m g a1) 12 0 ((0 : Int32), m)).2) 1 g a1) &&& (31 : Int32)))))), none]) (st2 := [vI (if (v_X2_isWaiting ((lp (b_X2_strip_1 m g a1) 12 0 ((0 : Int32), m)).2) g a1) = 0 then ((lp (b_X2_strip_1 m g a1) 12 0 ((0 : Int32), m)).1) else (((lp (b_X2_strip_1 m g a1) 12 0 ((0 : Int32), m)).1) ||| ((1 : Int32) <<< ((v_X1_at ((lp (b_X2_strip_1 m g a1) 12 0 ((0 : Int32), m)).2) 1 g a1) &&& (31 : Int32)))))]) (m1 := (w_X1_raise (if (v_X2_isWaiting ((lp (b_X2_strip_1 m g a1) 12 0 ((0 : Int32), m)).2) g a1) = 0 then (lp (b_X2_strip_1 m g a1) 12 0 ((0 : Int32), m)).2 else (w_X2_dequeue ((lp (b_X2_strip_1 m g a1) 12 0 ((0 : Int32), m)).2) g a1)) 7 g a1)) rfl ?_
  exact an_ret rfl rfl rfl rfl rfl
def b_X2_takeAsking_2 (m : PM) (g : Nat) (a1 : Int32) (a2 : Int32) (a3 : Int32) (j1 : Nat) (s1 : PM) (j2 : Nat) (s2 : PM) : PM := (if (v_X4_has s2 (v_X2_strip s1 g (v_X2_loserFor s1 g a1)) (nI j2)) = 0 then s2 else (w_X2_settle s2 g (nI j2)))
def b_X2_takeAsking_1 (m : PM) (g : Nat) (a1 : Int32) (a2 : Int32) (a3 : Int32)  (j1 : Nat) (s1 : PM) : (PM) ⊕ (PM) := if ¬ (v_X2_loserFor s1 g a1) = (-1 : Int32) then .inl (lp (b_X2_takeAsking_2 m g a1 a2 a3 j1 s1) 12 0 (w_X2_strip s1 g (v_X2_loserFor s1 g a1))) else .inr s1
def v_X2_takeAsking (m : PM) (g : Nat) (a1 : Int32) (a2 : Int32) (a3 : Int32) : Int32 := (if (v_X1_at (w_X1_raise m 9 g a1) 0 g (v_X4_cell (w_X1_raise m 9 g a1) a1 a2)) < a3 then (if (v_X1_at (lqv (lq (b_X2_takeAsking_1 m g a1 a2 a3) 8 0 (w_X2_settle (w_X2_enqueue (w_X1_raise m 9 g a1) g a1 a2 a3) g a2))) 0 g (v_X4_cell (lqv (lq (b_X2_takeAsking_1 m g a1 a2 a3) 8 0 (w_X2_settle (w_X2_enqueue (w_X1_raise m 9 g a1) g a1 a2 a3) g a2))) a1 a2)) < a3 then (if (v_X2_isWaiting (lqv (lq (b_X2_takeAsking_1 m g a1 a2 a3) 8 0 (w_X2_settle (w_X2_enqueue (w_X1_raise m 9 g a1) g a1 a2 a3) g a2))) g a1) = 0 then (2 : Int32) else (1 : Int32)) else (0 : Int32)) else (0 : Int32))
def w_X2_takeAsking (m : PM) (g : Nat) (a1 : Int32) (a2 : Int32) (a3 : Int32) : PM := (if (v_X1_at (w_X1_raise m 9 g a1) 0 g (v_X4_cell (w_X1_raise m 9 g a1) a1 a2)) < a3 then (lqv (lq (b_X2_takeAsking_1 m g a1 a2 a3) 8 0 (w_X2_settle (w_X2_enqueue (w_X1_raise m 9 g a1) g a1 a2 a3) g a2))) else (w_X1_raise (w_X1_raise m 9 g a1) 8 g a1))
set_option maxRecDepth 100000 in
theorem r_X2_takeAsking (m : PM) (g : Nat) (a1 : Int32) (a2 : Int32) (a3 : Int32) : Rn MX2_takeAsking [vR 0 0 g, vI a1, vI a2, vI a3] m (some (vI (v_X2_takeAsking m g a1 a2 a3))) (w_X2_takeAsking m g a1 a2 a3) := by
  refine rn_of [some (vR 0 0 g), some (vI a1), some (vI a2), some (vI a3), none, none, none, none] rfl ?_
  unfold v_X2_takeAsking w_X2_takeAsking
  refine an_b 3 (pc2 := 5) (L2 := [some (vR 0 0 g), some (vI a1), some (vI a2), some (vI a3), none, none, none, none]) (st2 := [vI a1, vR 1 9 g]) (m1 := m) rfl ?_
  refine an_call (r_X1_raise m 9 g a1) rfl rfl rfl rfl ?_
  refine an_b 4 (pc2 := 14) (L2 := [some (vR 0 0 g), some (vI a1), some (vI a2), some (vI a3), none, none, none, none]) (st2 := [vI a2, vI a1, vR 1 0 g]) (m1 := (w_X1_raise m 9 g a1)) rfl ?_
  refine an_call (r_X4_cell (w_X1_raise m 9 g a1) a1 a2) rfl rfl rfl rfl ?_
  refine an_call (r_X1_at (w_X1_raise m 9 g a1) 0 g (v_X4_cell (w_X1_raise m 9 g a1) a1 a2)) rfl rfl rfl rfl ?_
  refine an_b 2 (pc2 := if (v_X1_at (w_X1_raise m 9 g a1) 0 g (v_X4_cell (w_X1_raise m 9 g a1) a1 a2)) < a3 then 34 else 24) (L2 := [some (vR 0 0 g), some (vI a1), some (vI a2), some (vI a3), none, none, none, none]) (st2 := []) (m1 := (w_X1_raise m 9 g a1)) rfl ?_
  refine an_ifim (c := (v_X1_at (w_X1_raise m 9 g a1) 0 g (v_X4_cell (w_X1_raise m 9 g a1) a1 a2)) < a3) (fun h1 => ?_) (fun h1 => ?_)
  · refine an_b 4 (pc2 := 38) (L2 := [some (vR 0 0 g), some (vI a1), some (vI a2), some (vI a3), none, none, none, none]) (st2 := [vI a3, vI a2, vI a1, vR 0 0 g]) (m1 := (w_X1_raise m 9 g a1)) rfl ?_
    refine an_call (r_X2_enqueue (w_X1_raise m 9 g a1) g a1 a2 a3) rfl rfl rfl rfl ?_
    refine an_b 2 (pc2 := 43) (L2 := [some (vR 0 0 g), some (vI a1), some (vI a2), some (vI a3), none, none, none, none]) (st2 := [vI a2, vR 0 0 g]) (m1 := (w_X2_enqueue (w_X1_raise m 9 g a1) g a1 a2 a3)) rfl ?_
    refine an_call (r_X2_settle (w_X2_enqueue (w_X1_raise m 9 g a1) g a1 a2 a3) g a2) rfl rfl rfl rfl ?_
    refine an_b 3 (pc2 := 50) (L2 := [some (vR 0 0 g), some (vI a1), some (vI a2), some (vI a3), some (vI (0 : Int32)), none, none, none]) (st2 := []) (m1 := (w_X2_settle (w_X2_enqueue (w_X1_raise m 9 g a1) g a1 a2 a3) g a2)) rfl ?_
    refine re_lq (σ := PM) (ρ := PM) (b_X2_takeAsking_1 m g a1 a2 a3) (fun j1 s1 => (50, [some (vR 0 0 g), some (vI a1), some (vI a2), some (vI a3), some (vI (nI j1)), none, none, none], [], s1)) 8 (fun x9 => (120, [some (vR 0 0 g), some (vI a1), some (vI a2), some (vI a3), none, none, none, none], [], (lqv x9))) (fun j1 s1 hj1 v9 m9 hc1 hr1 => ?_) (fun s1 v9 m9 K1 => ?_) 8 0 (w_X2_settle (w_X2_enqueue (w_X1_raise m 9 g a1) g a1 a2 a3) g a2) (Nat.add_zero _) _ _ ?_
    · show An MX2_takeAsking 50 [some (vR 0 0 g), some (vI a1), some (vI a2), some (vI a3), some (vI (nI j1)), none, none, none] [] s1 v9 m9
      refine an_b 3 (pc2 := if (8 : Int32) ≤ (nI j1) then 120 else 57) (L2 := [some (vR 0 0 g), some (vI a1), some (vI a2), some (vI a3), some (vI (nI j1)), none, none, none]) (st2 := []) (m1 := s1) rfl ?_
      refine an_f (nI_ge (a := j1) (b := 8) (by omega) (by omega)) ?_
      refine an_b 2 (pc2 := 59) (L2 := [some (vR 0 0 g), some (vI a1), some (vI a2), some (vI a3), some (vI (nI j1)), none, none, none]) (st2 := [vI a1, vR 0 0 g]) (m1 := s1) rfl ?_
      refine an_call (r_X2_loserFor s1 g a1) rfl rfl rfl rfl ?_
      refine an_b 4 (pc2 := if ¬ (v_X2_loserFor s1 g a1) = (-1 : Int32) then 73 else 70) (L2 := [some (vR 0 0 g), some (vI a1), some (vI a2), some (vI a3), some (vI (nI j1)), some (vI (v_X2_loserFor s1 g a1)), none, none]) (st2 := []) (m1 := s1) rfl ?_
      refine an_if (c := ¬ (v_X2_loserFor s1 g a1) = (-1 : Int32)) (fun h2 => ?_) (fun h2 => ?_)
      · refine an_b 2 (pc2 := 76) (L2 := [some (vR 0 0 g), some (vI a1), some (vI a2), some (vI a3), some (vI (nI j1)), some (vI (v_X2_loserFor s1 g a1)), none, none]) (st2 := [vI (v_X2_loserFor s1 g a1), vR 0 0 g]) (m1 := s1) rfl ?_
        refine an_call (r_X2_strip s1 g (v_X2_loserFor s1 g a1)) rfl rfl rfl rfl ?_
        refine an_b 3 (pc2 := 84) (L2 := [some (vR 0 0 g), some (vI a1), some (vI a2), some (vI a3), some (vI (nI j1)), some (vI (v_X2_loserFor s1 g a1)), some (vI (v_X2_strip s1 g (v_X2_loserFor s1 g a1))), some (vI (0 : Int32))]) (st2 := []) (m1 := (w_X2_strip s1 g (v_X2_loserFor s1 g a1))) rfl ?_
        refine re_lp (σ := PM) (b_X2_takeAsking_2 m g a1 a2 a3 j1 s1) (fun j2 s2 => (84, [some (vR 0 0 g), some (vI a1), some (vI a2), some (vI a3), some (vI (nI j1)), some (vI (v_X2_loserFor s1 g a1)), some (vI (v_X2_strip s1 g (v_X2_loserFor s1 g a1))), some (vI (nI j2))], [], s2)) 12 (fun s2 => (114, [some (vR 0 0 g), some (vI a1), some (vI a2), some (vI a3), some (vI (nI j1)), some (vI (v_X2_loserFor s1 g a1)), some (vI (v_X2_strip s1 g (v_X2_loserFor s1 g a1))), none], [], s2)) (fun j2 s2 hj2 v9 m9 K2 => ?_) (fun s2 v9 m9 K2 => ?_) 12 0 (w_X2_strip s1 g (v_X2_loserFor s1 g a1)) (Nat.add_zero _) _ _ ?_
        · show An MX2_takeAsking 84 [some (vR 0 0 g), some (vI a1), some (vI a2), some (vI a3), some (vI (nI j1)), some (vI (v_X2_loserFor s1 g a1)), some (vI (v_X2_strip s1 g (v_X2_loserFor s1 g a1))), some (vI (nI j2))] [] s2 v9 m9
          refine an_b 3 (pc2 := if (12 : Int32) ≤ (nI j2) then 114 else 91) (L2 := [some (vR 0 0 g), some (vI a1), some (vI a2), some (vI a3), some (vI (nI j1)), some (vI (v_X2_loserFor s1 g a1)), some (vI (v_X2_strip s1 g (v_X2_loserFor s1 g a1))), some (vI (nI j2))]) (st2 := []) (m1 := s2) rfl ?_
          refine an_f (nI_ge (a := j2) (b := 12) (by omega) (by omega)) ?_
          refine an_b 2 (pc2 := 95) (L2 := [some (vR 0 0 g), some (vI a1), some (vI a2), some (vI a3), some (vI (nI j1)), some (vI (v_X2_loserFor s1 g a1)), some (vI (v_X2_strip s1 g (v_X2_loserFor s1 g a1))), some (vI (nI j2))]) (st2 := [vI (nI j2), vI (v_X2_strip s1 g (v_X2_loserFor s1 g a1))]) (m1 := s2) rfl ?_
          refine an_call (r_X4_has s2 (v_X2_strip s1 g (v_X2_loserFor s1 g a1)) (nI j2)) rfl rfl rfl rfl ?_
          refine an_b 1 (pc2 := if (v_X4_has s2 (v_X2_strip s1 g (v_X2_loserFor s1 g a1)) (nI j2)) = 0 then 108 else 101) (L2 := [some (vR 0 0 g), some (vI a1), some (vI a2), some (vI a3), some (vI (nI j1)), some (vI (v_X2_loserFor s1 g a1)), some (vI (v_X2_strip s1 g (v_X2_loserFor s1 g a1))), some (vI (nI j2))]) (st2 := []) (m1 := s2) rfl ?_
          refine re_if1 (c := (v_X4_has s2 (v_X2_strip s1 g (v_X2_loserFor s1 g a1)) (nI j2)) = 0) (a := s2) (b := (w_X2_settle s2 g (nI j2))) (fun x => (108, [some (vR 0 0 g), some (vI a1), some (vI a2), some (vI a3), some (vI (nI j1)), some (vI (v_X2_loserFor s1 g a1)), some (vI (v_X2_strip s1 g (v_X2_loserFor s1 g a1))), some (vI (nI j2))], [], x)) (fun h3 v9 m9 K4 => ?_) (fun h3 v9 m9 K4 => ?_) _ _ ?_
          · exact K4
          · refine an_b 2 (pc2 := 104) (L2 := [some (vR 0 0 g), some (vI a1), some (vI a2), some (vI a3), some (vI (nI j1)), some (vI (v_X2_loserFor s1 g a1)), some (vI (v_X2_strip s1 g (v_X2_loserFor s1 g a1))), some (vI (nI j2))]) (st2 := [vI (nI j2), vR 0 0 g]) (m1 := s2) rfl ?_
            refine an_call (r_X2_settle s2 g (nI j2)) rfl rfl rfl rfl ?_
            refine an_b 1 (pc2 := 108) (L2 := [some (vR 0 0 g), some (vI a1), some (vI a2), some (vI a3), some (vI (nI j1)), some (vI (v_X2_loserFor s1 g a1)), some (vI (v_X2_strip s1 g (v_X2_loserFor s1 g a1))), some (vI (nI j2))]) (st2 := []) (m1 := (w_X2_settle s2 g (nI j2))) rfl ?_
            exact K4
          refine an_b 2 (pc2 := 84) (L2 := [some (vR 0 0 g), some (vI a1), some (vI a2), some (vI a3), some (vI (nI j1)), some (vI (v_X2_loserFor s1 g a1)), some (vI (v_X2_strip s1 g (v_X2_loserFor s1 g a1))), some (vI ((nI j2) + (1 : Int32)))]) (st2 := []) (m1 := (if (v_X4_has s2 (v_X2_strip s1 g (v_X2_loserFor s1 g a1)) (nI j2)) = 0 then s2 else (w_X2_settle s2 g (nI j2)))) rfl ?_
          refine an_cL (K := [some (vR 0 0 g), some (vI a1), some (vI a2), some (vI a3), some (vI (nI j1)), some (vI (v_X2_loserFor s1 g a1)), some (vI (v_X2_strip s1 g (v_X2_loserFor s1 g a1))), some (vI (nI (j2 + 1)))]) (by simp only [nI_1]) ?_
          exact K2
        · show An MX2_takeAsking 84 [some (vR 0 0 g), some (vI a1), some (vI a2), some (vI a3), some (vI (nI j1)), some (vI (v_X2_loserFor s1 g a1)), some (vI (v_X2_strip s1 g (v_X2_loserFor s1 g a1))), some (vI (nI 12))] [] s2 v9 m9
          refine an_b 3 (pc2 := if (12 : Int32) ≤ (nI 12) then 114 else 91) (L2 := [some (vR 0 0 g), some (vI a1), some (vI a2), some (vI a3), some (vI (nI j1)), some (vI (v_X2_loserFor s1 g a1)), some (vI (v_X2_strip s1 g (v_X2_loserFor s1 g a1))), some (vI (nI 12))]) (st2 := []) (m1 := s2) rfl ?_
          refine an_t (nI_le (a := 12) (b := 12) (by omega) (by omega)) ?_
          refine an_weak (L := [some (vR 0 0 g), some (vI a1), some (vI a2), some (vI a3), some (vI (nI j1)), some (vI (v_X2_loserFor s1 g a1)), some (vI (v_X2_strip s1 g (v_X2_loserFor s1 g a1))), none]) (⟨rfl, rfl, rfl, rfl, rfl, rfl, rfl, trivial⟩) ?_
          exact K2
        show An MX2_takeAsking 114 [some (vR 0 0 g), some (vI a1), some (vI a2), some (vI a3), some (vI (nI j1)), some (vI (v_X2_loserFor s1 g a1)), some (vI (v_X2_strip s1 g (v_X2_loserFor s1 g a1))), none] [] (lp (b_X2_takeAsking_2 m g a1 a2 a3 j1 s1) 12 0 (w_X2_strip s1 g (v_X2_loserFor s1 g a1))) _ _
        refine an_b 2 (pc2 := 50) (L2 := [some (vR 0 0 g), some (vI a1), some (vI a2), some (vI a3), some (vI ((nI j1) + (1 : Int32))), some (vI (v_X2_loserFor s1 g a1)), some (vI (v_X2_strip s1 g (v_X2_loserFor s1 g a1))), none]) (st2 := []) (m1 := (lp (b_X2_takeAsking_2 m g a1 a2 a3 j1 s1) 12 0 (w_X2_strip s1 g (v_X2_loserFor s1 g a1)))) rfl ?_
        refine an_weak (L := [some (vR 0 0 g), some (vI a1), some (vI a2), some (vI a3), some (vI ((nI j1) + (1 : Int32))), none, none, none]) (⟨rfl, rfl, rfl, rfl, rfl, trivial⟩) ?_
        refine an_cL (K := [some (vR 0 0 g), some (vI a1), some (vI a2), some (vI a3), some (vI (nI (j1 + 1))), none, none, none]) (by simp only [nI_1]) ?_
        exact hc1 _ (by unfold b_X2_takeAsking_1; rw [if_pos h2])
      · refine an_b 1 (pc2 := 120) (L2 := [some (vR 0 0 g), some (vI a1), some (vI a2), some (vI a3), some (vI (nI j1)), some (vI (v_X2_loserFor s1 g a1)), none, none]) (st2 := []) (m1 := s1) rfl ?_
        refine an_weak (L := [some (vR 0 0 g), some (vI a1), some (vI a2), some (vI a3), none, none, none, none]) (⟨rfl, rfl, rfl, rfl, trivial⟩) ?_
        exact hr1 _ (by unfold b_X2_takeAsking_1; rw [if_neg h2])
    · show An MX2_takeAsking 50 [some (vR 0 0 g), some (vI a1), some (vI a2), some (vI a3), some (vI (nI 8)), none, none, none] [] s1 v9 m9
      refine an_b 3 (pc2 := if (8 : Int32) ≤ (nI 8) then 120 else 57) (L2 := [some (vR 0 0 g), some (vI a1), some (vI a2), some (vI a3), some (vI (nI 8)), none, none, none]) (st2 := []) (m1 := s1) rfl ?_
      refine an_t (nI_le (a := 8) (b := 8) (by omega) (by omega)) ?_
      refine an_weak (L := [some (vR 0 0 g), some (vI a1), some (vI a2), some (vI a3), none, none, none, none]) (⟨rfl, rfl, rfl, rfl, trivial⟩) ?_
      exact K1
    show An MX2_takeAsking 120 [some (vR 0 0 g), some (vI a1), some (vI a2), some (vI a3), none, none, none, none] [] (lqv (lq (b_X2_takeAsking_1 m g a1 a2 a3) 8 0 (w_X2_settle (w_X2_enqueue (w_X1_raise m 9 g a1) g a1 a2 a3) g a2))) _ _
    refine an_b 4 (pc2 := 126) (L2 := [some (vR 0 0 g), some (vI a1), some (vI a2), some (vI a3), none, none, none, none]) (st2 := [vI a2, vI a1, vR 1 0 g]) (m1 := (lqv (lq (b_X2_takeAsking_1 m g a1 a2 a3) 8 0 (w_X2_settle (w_X2_enqueue (w_X1_raise m 9 g a1) g a1 a2 a3) g a2)))) rfl ?_
    refine an_call (r_X4_cell (lqv (lq (b_X2_takeAsking_1 m g a1 a2 a3) 8 0 (w_X2_settle (w_X2_enqueue (w_X1_raise m 9 g a1) g a1 a2 a3) g a2))) a1 a2) rfl rfl rfl rfl ?_
    refine an_call (r_X1_at (lqv (lq (b_X2_takeAsking_1 m g a1 a2 a3) 8 0 (w_X2_settle (w_X2_enqueue (w_X1_raise m 9 g a1) g a1 a2 a3) g a2))) 0 g (v_X4_cell (lqv (lq (b_X2_takeAsking_1 m g a1 a2 a3) 8 0 (w_X2_settle (w_X2_enqueue (w_X1_raise m 9 g a1) g a1 a2 a3) g a2))) a1 a2)) rfl rfl rfl rfl ?_
    refine an_b 2 (pc2 := if (v_X1_at (lqv (lq (b_X2_takeAsking_1 m g a1 a2 a3) 8 0 (w_X2_settle (w_X2_enqueue (w_X1_raise m 9 g a1) g a1 a2 a3) g a2))) 0 g (v_X4_cell (lqv (lq (b_X2_takeAsking_1 m g a1 a2 a3) 8 0 (w_X2_settle (w_X2_enqueue (w_X1_raise m 9 g a1) g a1 a2 a3) g a2))) a1 a2)) < a3 then 138 else 136) (L2 := [some (vR 0 0 g), some (vI a1), some (vI a2), some (vI a3), none, none, none, none]) (st2 := []) (m1 := (lqv (lq (b_X2_takeAsking_1 m g a1 a2 a3) 8 0 (w_X2_settle (w_X2_enqueue (w_X1_raise m 9 g a1) g a1 a2 a3) g a2)))) rfl ?_
    refine an_ifi (c := (v_X1_at (lqv (lq (b_X2_takeAsking_1 m g a1 a2 a3) 8 0 (w_X2_settle (w_X2_enqueue (w_X1_raise m 9 g a1) g a1 a2 a3) g a2))) 0 g (v_X4_cell (lqv (lq (b_X2_takeAsking_1 m g a1 a2 a3) 8 0 (w_X2_settle (w_X2_enqueue (w_X1_raise m 9 g a1) g a1 a2 a3) g a2))) a1 a2)) < a3) (fun h5 => ?_) (fun h5 => ?_)
    · refine an_b 2 (pc2 := 140) (L2 := [some (vR 0 0 g), some (vI a1), some (vI a2), some (vI a3), none, none, none, none]) (st2 := [vI a1, vR 0 0 g]) (m1 := (lqv (lq (b_X2_takeAsking_1 m g a1 a2 a3) 8 0 (w_X2_settle (w_X2_enqueue (w_X1_raise m 9 g a1) g a1 a2 a3) g a2)))) rfl ?_
      refine an_call (r_X2_isWaiting (lqv (lq (b_X2_takeAsking_1 m g a1 a2 a3) 8 0 (w_X2_settle (w_X2_enqueue (w_X1_raise m 9 g a1) g a1 a2 a3) g a2))) g a1) rfl rfl rfl rfl ?_
      refine an_b 1 (pc2 := if (v_X2_isWaiting (lqv (lq (b_X2_takeAsking_1 m g a1 a2 a3) 8 0 (w_X2_settle (w_X2_enqueue (w_X1_raise m 9 g a1) g a1 a2 a3) g a2))) g a1) = 0 then 150 else 146) (L2 := [some (vR 0 0 g), some (vI a1), some (vI a2), some (vI a3), none, none, none, none]) (st2 := []) (m1 := (lqv (lq (b_X2_takeAsking_1 m g a1 a2 a3) 8 0 (w_X2_settle (w_X2_enqueue (w_X1_raise m 9 g a1) g a1 a2 a3) g a2)))) rfl ?_
      refine an_ifi (c := (v_X2_isWaiting (lqv (lq (b_X2_takeAsking_1 m g a1 a2 a3) 8 0 (w_X2_settle (w_X2_enqueue (w_X1_raise m 9 g a1) g a1 a2 a3) g a2))) g a1) = 0) (fun h6 => ?_) (fun h6 => ?_)
      · refine an_b 1 (pc2 := 151) (L2 := [some (vR 0 0 g), some (vI a1), some (vI a2), some (vI a3), none, none, none, none]) (st2 := [vI (2 : Int32)]) (m1 := (lqv (lq (b_X2_takeAsking_1 m g a1 a2 a3) 8 0 (w_X2_settle (w_X2_enqueue (w_X1_raise m 9 g a1) g a1 a2 a3) g a2)))) rfl ?_
        exact an_ret rfl rfl rfl rfl rfl
      · refine an_b 2 (pc2 := 151) (L2 := [some (vR 0 0 g), some (vI a1), some (vI a2), some (vI a3), none, none, none, none]) (st2 := [vI (1 : Int32)]) (m1 := (lqv (lq (b_X2_takeAsking_1 m g a1 a2 a3) 8 0 (w_X2_settle (w_X2_enqueue (w_X1_raise m 9 g a1) g a1 a2 a3) g a2)))) rfl ?_
        exact an_ret rfl rfl rfl rfl rfl
    · refine an_b 1 (pc2 := 137) (L2 := [some (vR 0 0 g), some (vI a1), some (vI a2), some (vI a3), none, none, none, none]) (st2 := [vI (0 : Int32)]) (m1 := (lqv (lq (b_X2_takeAsking_1 m g a1 a2 a3) 8 0 (w_X2_settle (w_X2_enqueue (w_X1_raise m 9 g a1) g a1 a2 a3) g a2)))) rfl ?_
      exact an_ret rfl rfl rfl rfl rfl
  · refine an_b 3 (pc2 := 29) (L2 := [some (vR 0 0 g), some (vI a1), some (vI a2), some (vI a3), none, none, none, none]) (st2 := [vI a1, vR 1 8 g]) (m1 := (w_X1_raise m 9 g a1)) rfl ?_
    refine an_call (r_X1_raise (w_X1_raise m 9 g a1) 8 g a1) rfl rfl rfl rfl ?_
    refine an_b 1 (pc2 := 33) (L2 := [some (vR 0 0 g), some (vI a1), some (vI a2), some (vI a3), none, none, none, none]) (st2 := [vI (0 : Int32)]) (m1 := (w_X1_raise (w_X1_raise m 9 g a1) 8 g a1)) rfl ?_
    exact an_ret rfl rfl rfl rfl rfl
def v_X2_canLetGo (m : PM) (g : Nat) (a1 : Int32) (a2 : Int32) : Int32 := (if (v_X1_at m 0 g (v_X4_cell m a1 a2)) ≤ 0 then (0 : Int32) else (if (v_X1_at m 1 g a1) = a2 then (0 : Int32) else (1 : Int32)))
set_option maxRecDepth 100000 in
theorem r_X2_canLetGo (m : PM) (g : Nat) (a1 : Int32) (a2 : Int32) : Rn MX2_canLetGo [vR 0 0 g, vI a1, vI a2] m (some (vI (v_X2_canLetGo m g a1 a2))) m := by
  refine rn_of [some (vR 0 0 g), some (vI a1), some (vI a2)] rfl ?_
  unfold v_X2_canLetGo
  refine an_b 4 (pc2 := 6) (L2 := [some (vR 0 0 g), some (vI a1), some (vI a2)]) (st2 := [vI a2, vI a1, vR 1 0 g]) (m1 := m) rfl ?_
  refine an_call (r_X4_cell m a1 a2) rfl rfl rfl rfl ?_
  refine an_call (r_X1_at m 0 g (v_X4_cell m a1 a2)) rfl rfl rfl rfl ?_
  refine an_b 1 (pc2 := if (v_X1_at m 0 g (v_X4_cell m a1 a2)) ≤ 0 then 31 else 15) (L2 := [some (vR 0 0 g), some (vI a1), some (vI a2)]) (st2 := []) (m1 := m) rfl ?_
  refine an_ifi (c := (v_X1_at m 0 g (v_X4_cell m a1 a2)) ≤ 0) (fun h1 => ?_) (fun h1 => ?_)
  · refine an_b 1 (pc2 := 32) (L2 := [some (vR 0 0 g), some (vI a1), some (vI a2)]) (st2 := [vI (0 : Int32)]) (m1 := m) rfl ?_
    exact an_ret rfl rfl rfl rfl rfl
  · refine an_b 3 (pc2 := 20) (L2 := [some (vR 0 0 g), some (vI a1), some (vI a2)]) (st2 := [vI a1, vR 1 1 g]) (m1 := m) rfl ?_
    refine an_call (r_X1_at m 1 g a1) rfl rfl rfl rfl ?_
    refine an_b 2 (pc2 := if (v_X1_at m 1 g a1) = a2 then 31 else 27) (L2 := [some (vR 0 0 g), some (vI a1), some (vI a2)]) (st2 := []) (m1 := m) rfl ?_
    refine an_ifi (c := (v_X1_at m 1 g a1) = a2) (fun h2 => ?_) (fun h2 => ?_)
    · refine an_b 1 (pc2 := 32) (L2 := [some (vR 0 0 g), some (vI a1), some (vI a2)]) (st2 := [vI (0 : Int32)]) (m1 := m) rfl ?_
      exact an_ret rfl rfl rfl rfl rfl
    · refine an_b 2 (pc2 := 32) (L2 := [some (vR 0 0 g), some (vI a1), some (vI a2)]) (st2 := [vI (1 : Int32)]) (m1 := m) rfl ?_
      exact an_ret rfl rfl rfl rfl rfl
def v_X2_letGo (m : PM) (g : Nat) (a1 : Int32) (a2 : Int32) : Int32 := (v_X2_settle (w_X1_put m 0 g (v_X4_cell m a1 a2) (0 : Int32)) g a2)
def w_X2_letGo (m : PM) (g : Nat) (a1 : Int32) (a2 : Int32) : PM := (w_X2_settle (w_X1_put m 0 g (v_X4_cell m a1 a2) (0 : Int32)) g a2)
set_option maxRecDepth 100000 in
theorem r_X2_letGo (m : PM) (g : Nat) (a1 : Int32) (a2 : Int32) : Rn MX2_letGo [vR 0 0 g, vI a1, vI a2] m (some (vI (v_X2_letGo m g a1 a2))) (w_X2_letGo m g a1 a2) := by
  refine rn_of [some (vR 0 0 g), some (vI a1), some (vI a2)] rfl ?_
  unfold v_X2_letGo w_X2_letGo
  refine an_b 4 (pc2 := 6) (L2 := [some (vR 0 0 g), some (vI a1), some (vI a2)]) (st2 := [vI a2, vI a1, vR 1 0 g]) (m1 := m) rfl ?_
  refine an_call (r_X4_cell m a1 a2) rfl rfl rfl rfl ?_
  refine an_b 1 (pc2 := 10) (L2 := [some (vR 0 0 g), some (vI a1), some (vI a2)]) (st2 := [vI (0 : Int32), vI (v_X4_cell m a1 a2), vR 1 0 g]) (m1 := m) rfl ?_
  refine an_call (r_X1_put m 0 g (v_X4_cell m a1 a2) (0 : Int32)) rfl rfl rfl rfl ?_
  refine an_b 2 (pc2 := 15) (L2 := [some (vR 0 0 g), some (vI a1), some (vI a2)]) (st2 := [vI a2, vR 0 0 g]) (m1 := (w_X1_put m 0 g (v_X4_cell m a1 a2) (0 : Int32))) rfl ?_
  refine an_call (r_X2_settle (w_X1_put m 0 g (v_X4_cell m a1 a2) (0 : Int32)) g a2) rfl rfl rfl rfl ?_
  exact an_ret rfl rfl rfl rfl rfl
def v_X2_stopWaiting (m : PM) (g : Nat) (a1 : Int32) : Int32 := (v_X1_at m 1 g a1)
def w_X2_stopWaiting (m : PM) (g : Nat) (a1 : Int32) : PM := (w_X2_settle (w_X2_dequeue m g a1) g (v_X1_at m 1 g a1))
set_option maxRecDepth 100000 in
theorem r_X2_stopWaiting (m : PM) (g : Nat) (a1 : Int32) : Rn MX2_stopWaiting [vR 0 0 g, vI a1] m (some (vI (v_X2_stopWaiting m g a1))) (w_X2_stopWaiting m g a1) := by
  refine rn_of [some (vR 0 0 g), some (vI a1), none] rfl ?_
  unfold v_X2_stopWaiting w_X2_stopWaiting
  refine an_b 3 (pc2 := 5) (L2 := [some (vR 0 0 g), some (vI a1), none]) (st2 := [vI a1, vR 1 1 g]) (m1 := m) rfl ?_
  refine an_call (r_X1_at m 1 g a1) rfl rfl rfl rfl ?_
  refine an_b 3 (pc2 := 11) (L2 := [some (vR 0 0 g), some (vI a1), some (vI (v_X1_at m 1 g a1))]) (st2 := [vI a1, vR 0 0 g]) (m1 := m) rfl ?_
  refine an_call (r_X2_dequeue m g a1) rfl rfl rfl rfl ?_
  refine an_b 2 (pc2 := 16) (L2 := [some (vR 0 0 g), some (vI a1), some (vI (v_X1_at m 1 g a1))]) (st2 := [vI (v_X1_at m 1 g a1), vR 0 0 g]) (m1 := (w_X2_dequeue m g a1)) rfl ?_
  refine an_call (r_X2_settle (w_X2_dequeue m g a1) g (v_X1_at m 1 g a1)) rfl rfl rfl rfl ?_
  refine an_b 2 (pc2 := 21) (L2 := [some (vR 0 0 g), some (vI a1), some (vI (v_X1_at m 1 g a1))]) (st2 := [vI (v_X1_at m 1 g a1)]) (m1 := (w_X2_settle (w_X2_dequeue m g a1) g (v_X1_at m 1 g a1))) rfl ?_
  exact an_ret rfl rfl rfl rfl rfl
def v_X2_canPassOver (m : PM) (g : Nat) (a1 : Int32) (a2 : Int32) (a3 : Int32) : Int32 := (if (v_X2_canLetGo m g a1 a2) = 0 then (0 : Int32) else (if a1 = a3 then (0 : Int32) else (if ¬ (v_X1_at m 1 g a3) = a2 then (0 : Int32) else (if ¬ (v_X2_clashes m g a2 (v_X1_at m 2 g a3) a1 a3) = 0 then (0 : Int32) else (1 : Int32)))))
set_option maxRecDepth 100000 in
theorem r_X2_canPassOver (m : PM) (g : Nat) (a1 : Int32) (a2 : Int32) (a3 : Int32) : Rn MX2_canPassOver [vR 0 0 g, vI a1, vI a2, vI a3] m (some (vI (v_X2_canPassOver m g a1 a2 a3))) m := by
  refine rn_of [some (vR 0 0 g), some (vI a1), some (vI a2), some (vI a3)] rfl ?_
  unfold v_X2_canPassOver
  refine an_b 3 (pc2 := 3) (L2 := [some (vR 0 0 g), some (vI a1), some (vI a2), some (vI a3)]) (st2 := [vI a2, vI a1, vR 0 0 g]) (m1 := m) rfl ?_
  refine an_call (r_X2_canLetGo m g a1 a2) rfl rfl rfl rfl ?_
  refine an_b 1 (pc2 := if (v_X2_canLetGo m g a1 a2) = 0 then 48 else 9) (L2 := [some (vR 0 0 g), some (vI a1), some (vI a2), some (vI a3)]) (st2 := []) (m1 := m) rfl ?_
  refine an_ifi (c := (v_X2_canLetGo m g a1 a2) = 0) (fun h1 => ?_) (fun h1 => ?_)
  · refine an_b 1 (pc2 := 49) (L2 := [some (vR 0 0 g), some (vI a1), some (vI a2), some (vI a3)]) (st2 := [vI (0 : Int32)]) (m1 := m) rfl ?_
    exact an_ret rfl rfl rfl rfl rfl
  · refine an_b 3 (pc2 := if a1 = a3 then 48 else 14) (L2 := [some (vR 0 0 g), some (vI a1), some (vI a2), some (vI a3)]) (st2 := []) (m1 := m) rfl ?_
    refine an_ifi (c := a1 = a3) (fun h2 => ?_) (fun h2 => ?_)
    · refine an_b 1 (pc2 := 49) (L2 := [some (vR 0 0 g), some (vI a1), some (vI a2), some (vI a3)]) (st2 := [vI (0 : Int32)]) (m1 := m) rfl ?_
      exact an_ret rfl rfl rfl rfl rfl
    · refine an_b 3 (pc2 := 19) (L2 := [some (vR 0 0 g), some (vI a1), some (vI a2), some (vI a3)]) (st2 := [vI a3, vR 1 1 g]) (m1 := m) rfl ?_
      refine an_call (r_X1_at m 1 g a3) rfl rfl rfl rfl ?_
      refine an_b 2 (pc2 := if ¬ (v_X1_at m 1 g a3) = a2 then 48 else 26) (L2 := [some (vR 0 0 g), some (vI a1), some (vI a2), some (vI a3)]) (st2 := []) (m1 := m) rfl ?_
      refine an_ifi (c := ¬ (v_X1_at m 1 g a3) = a2) (fun h3 => ?_) (fun h3 => ?_)
      · refine an_b 1 (pc2 := 49) (L2 := [some (vR 0 0 g), some (vI a1), some (vI a2), some (vI a3)]) (st2 := [vI (0 : Int32)]) (m1 := m) rfl ?_
        exact an_ret rfl rfl rfl rfl rfl
      · refine an_b 5 (pc2 := 33) (L2 := [some (vR 0 0 g), some (vI a1), some (vI a2), some (vI a3)]) (st2 := [vI a3, vR 1 2 g, vI a2, vR 0 0 g]) (m1 := m) rfl ?_
        refine an_call (r_X1_at m 2 g a3) rfl rfl rfl rfl ?_
        refine an_b 2 (pc2 := 38) (L2 := [some (vR 0 0 g), some (vI a1), some (vI a2), some (vI a3)]) (st2 := [vI a3, vI a1, vI (v_X1_at m 2 g a3), vI a2, vR 0 0 g]) (m1 := m) rfl ?_
        refine an_call (r_X2_clashes m g a2 (v_X1_at m 2 g a3) a1 a3) rfl rfl rfl rfl ?_
        refine an_b 1 (pc2 := if ¬ (v_X2_clashes m g a2 (v_X1_at m 2 g a3) a1 a3) = 0 then 48 else 44) (L2 := [some (vR 0 0 g), some (vI a1), some (vI a2), some (vI a3)]) (st2 := []) (m1 := m) rfl ?_
        refine an_ifi (c := ¬ (v_X2_clashes m g a2 (v_X1_at m 2 g a3) a1 a3) = 0) (fun h4 => ?_) (fun h4 => ?_)
        · refine an_b 1 (pc2 := 49) (L2 := [some (vR 0 0 g), some (vI a1), some (vI a2), some (vI a3)]) (st2 := [vI (0 : Int32)]) (m1 := m) rfl ?_
          exact an_ret rfl rfl rfl rfl rfl
        · refine an_b 2 (pc2 := 49) (L2 := [some (vR 0 0 g), some (vI a1), some (vI a2), some (vI a3)]) (st2 := [vI (1 : Int32)]) (m1 := m) rfl ?_
          exact an_ret rfl rfl rfl rfl rfl
def v_X2_passOver (m : PM) (g : Nat) (a1 : Int32) (a2 : Int32) (a3 : Int32) : Int32 := (v_X1_at (w_X2_settle (w_X1_raise (w_X2_grant (w_X1_put m 0 g (v_X4_cell m a1 a2) (0 : Int32)) g a3) 5 g a2) g a2) 0 g (v_X4_cell (w_X2_settle (w_X1_raise (w_X2_grant (w_X1_put m 0 g (v_X4_cell m a1 a2) (0 : Int32)) g a3) 5 g a2) g a2) a3 a2))
def w_X2_passOver (m : PM) (g : Nat) (a1 : Int32) (a2 : Int32) (a3 : Int32) : PM := (w_X2_settle (w_X1_raise (w_X2_grant (w_X1_put m 0 g (v_X4_cell m a1 a2) (0 : Int32)) g a3) 5 g a2) g a2)
set_option maxRecDepth 100000 in
theorem r_X2_passOver (m : PM) (g : Nat) (a1 : Int32) (a2 : Int32) (a3 : Int32) : Rn MX2_passOver [vR 0 0 g, vI a1, vI a2, vI a3] m (some (vI (v_X2_passOver m g a1 a2 a3))) (w_X2_passOver m g a1 a2 a3) := by
  refine rn_of [some (vR 0 0 g), some (vI a1), some (vI a2), some (vI a3)] rfl ?_
  unfold v_X2_passOver w_X2_passOver
  refine an_b 4 (pc2 := 6) (L2 := [some (vR 0 0 g), some (vI a1), some (vI a2), some (vI a3)]) (st2 := [vI a2, vI a1, vR 1 0 g]) (m1 := m) rfl ?_
  refine an_call (r_X4_cell m a1 a2) rfl rfl rfl rfl ?_
  refine an_b 1 (pc2 := 10) (L2 := [some (vR 0 0 g), some (vI a1), some (vI a2), some (vI a3)]) (st2 := [vI (0 : Int32), vI (v_X4_cell m a1 a2), vR 1 0 g]) (m1 := m) rfl ?_
  refine an_call (r_X1_put m 0 g (v_X4_cell m a1 a2) (0 : Int32)) rfl rfl rfl rfl ?_
  refine an_b 2 (pc2 := 15) (L2 := [some (vR 0 0 g), some (vI a1), some (vI a2), some (vI a3)]) (st2 := [vI a3, vR 0 0 g]) (m1 := (w_X1_put m 0 g (v_X4_cell m a1 a2) (0 : Int32))) rfl ?_
  refine an_call (r_X2_grant (w_X1_put m 0 g (v_X4_cell m a1 a2) (0 : Int32)) g a3) rfl rfl rfl rfl ?_
  refine an_b 3 (pc2 := 23) (L2 := [some (vR 0 0 g), some (vI a1), some (vI a2), some (vI a3)]) (st2 := [vI a2, vR 1 5 g]) (m1 := (w_X2_grant (w_X1_put m 0 g (v_X4_cell m a1 a2) (0 : Int32)) g a3)) rfl ?_
  refine an_call (r_X1_raise (w_X2_grant (w_X1_put m 0 g (v_X4_cell m a1 a2) (0 : Int32)) g a3) 5 g a2) rfl rfl rfl rfl ?_
  refine an_b 2 (pc2 := 28) (L2 := [some (vR 0 0 g), some (vI a1), some (vI a2), some (vI a3)]) (st2 := [vI a2, vR 0 0 g]) (m1 := (w_X1_raise (w_X2_grant (w_X1_put m 0 g (v_X4_cell m a1 a2) (0 : Int32)) g a3) 5 g a2)) rfl ?_
  refine an_call (r_X2_settle (w_X1_raise (w_X2_grant (w_X1_put m 0 g (v_X4_cell m a1 a2) (0 : Int32)) g a3) 5 g a2) g a2) rfl rfl rfl rfl ?_
  refine an_b 5 (pc2 := 38) (L2 := [some (vR 0 0 g), some (vI a1), some (vI a2), some (vI a3)]) (st2 := [vI a2, vI a3, vR 1 0 g]) (m1 := (w_X2_settle (w_X1_raise (w_X2_grant (w_X1_put m 0 g (v_X4_cell m a1 a2) (0 : Int32)) g a3) 5 g a2) g a2)) rfl ?_
  refine an_call (r_X4_cell (w_X2_settle (w_X1_raise (w_X2_grant (w_X1_put m 0 g (v_X4_cell m a1 a2) (0 : Int32)) g a3) 5 g a2) g a2) a3 a2) rfl rfl rfl rfl ?_
  refine an_call (r_X1_at (w_X2_settle (w_X1_raise (w_X2_grant (w_X1_put m 0 g (v_X4_cell m a1 a2) (0 : Int32)) g a3) 5 g a2) g a2) 0 g (v_X4_cell (w_X2_settle (w_X1_raise (w_X2_grant (w_X1_put m 0 g (v_X4_cell m a1 a2) (0 : Int32)) g a3) 5 g a2) g a2) a3 a2)) rfl rfl rfl rfl ?_
  exact an_ret rfl rfl rfl rfl rfl
def b_X2_takersOf_1 (m : PM) (g : Nat) (a1 : Int32) (a2 : Int32)  (j1 : Nat) (s1 : Int32) : Int32 := (if (v_X2_canPassOver m g a1 a2 (nI j1)) = 0 then s1 else (s1 ||| ((1 : Int32) <<< ((nI j1) &&& (31 : Int32)))))
def v_X2_takersOf (m : PM) (g : Nat) (a1 : Int32) (a2 : Int32) : Int32 := (lp (b_X2_takersOf_1 m g a1 a2) 8 0 (0 : Int32))
set_option maxRecDepth 100000 in
theorem r_X2_takersOf (m : PM) (g : Nat) (a1 : Int32) (a2 : Int32) : Rn MX2_takersOf [vR 0 0 g, vI a1, vI a2] m (some (vI (v_X2_takersOf m g a1 a2))) m := by
  refine rn_of [some (vR 0 0 g), some (vI a1), some (vI a2), none, none] rfl ?_
  unfold v_X2_takersOf
  refine an_b 4 (pc2 := 5) (L2 := [some (vR 0 0 g), some (vI a1), some (vI a2), some (vI (0 : Int32)), some (vI (0 : Int32))]) (st2 := []) (m1 := m) rfl ?_
  refine re_lp (σ := Int32) (b_X2_takersOf_1 m g a1 a2) (fun j1 s1 => (5, [some (vR 0 0 g), some (vI a1), some (vI a2), some (vI s1), some (vI (nI j1))], [], m)) 8 (fun s1 => (36, [some (vR 0 0 g), some (vI a1), some (vI a2), some (vI s1), none], [], m)) (fun j1 s1 hj1 v9 m9 K1 => ?_) (fun s1 v9 m9 K1 => ?_) 8 0 (0 : Int32) (Nat.add_zero _) _ _ ?_
  · show An MX2_takersOf 5 [some (vR 0 0 g), some (vI a1), some (vI a2), some (vI s1), some (vI (nI j1))] [] m v9 m9
    refine an_b 3 (pc2 := if (8 : Int32) ≤ (nI j1) then 36 else 12) (L2 := [some (vR 0 0 g), some (vI a1), some (vI a2), some (vI s1), some (vI (nI j1))]) (st2 := []) (m1 := m) rfl ?_
    refine an_f (nI_ge (a := j1) (b := 8) (by omega) (by omega)) ?_
    refine an_b 4 (pc2 := 17) (L2 := [some (vR 0 0 g), some (vI a1), some (vI a2), some (vI s1), some (vI (nI j1))]) (st2 := [vI (nI j1), vI a2, vI a1, vR 0 0 g]) (m1 := m) rfl ?_
    refine an_call (r_X2_canPassOver m g a1 a2 (nI j1)) rfl rfl rfl rfl ?_
    refine an_b 1 (pc2 := if (v_X2_canPassOver m g a1 a2 (nI j1)) = 0 then 30 else 23) (L2 := [some (vR 0 0 g), some (vI a1), some (vI a2), some (vI s1), some (vI (nI j1))]) (st2 := []) (m1 := m) rfl ?_
    refine re_if1 (c := (v_X2_canPassOver m g a1 a2 (nI j1)) = 0) (a := s1) (b := (s1 ||| ((1 : Int32) <<< ((nI j1) &&& (31 : Int32))))) (fun x => (30, [some (vR 0 0 g), some (vI a1), some (vI a2), some (vI x), some (vI (nI j1))], [], m)) (fun h1 v9 m9 K2 => ?_) (fun h1 v9 m9 K2 => ?_) _ _ ?_
    · exact K2
    · refine an_b 6 (pc2 := 30) (L2 := [some (vR 0 0 g), some (vI a1), some (vI a2), some (vI (s1 ||| ((1 : Int32) <<< ((nI j1) &&& (31 : Int32))))), some (vI (nI j1))]) (st2 := []) (m1 := m) rfl ?_
      exact K2
    refine an_b 2 (pc2 := 5) (L2 := [some (vR 0 0 g), some (vI a1), some (vI a2), some (vI (if (v_X2_canPassOver m g a1 a2 (nI j1)) = 0 then s1 else (s1 ||| ((1 : Int32) <<< ((nI j1) &&& (31 : Int32)))))), some (vI ((nI j1) + (1 : Int32)))]) (st2 := []) (m1 := m) rfl ?_
    refine an_cL (K := [some (vR 0 0 g), some (vI a1), some (vI a2), some (vI (if (v_X2_canPassOver m g a1 a2 (nI j1)) = 0 then s1 else (s1 ||| ((1 : Int32) <<< ((nI j1) &&& (31 : Int32)))))), some (vI (nI (j1 + 1)))]) (by simp only [nI_1]) ?_
    exact K1
  · show An MX2_takersOf 5 [some (vR 0 0 g), some (vI a1), some (vI a2), some (vI s1), some (vI (nI 8))] [] m v9 m9
    refine an_b 3 (pc2 := if (8 : Int32) ≤ (nI 8) then 36 else 12) (L2 := [some (vR 0 0 g), some (vI a1), some (vI a2), some (vI s1), some (vI (nI 8))]) (st2 := []) (m1 := m) rfl ?_
    refine an_t (nI_le (a := 8) (b := 8) (by omega) (by omega)) ?_
    refine an_weak (L := [some (vR 0 0 g), some (vI a1), some (vI a2), some (vI s1), none]) (⟨rfl, rfl, rfl, rfl, trivial⟩) ?_
    exact K1
  show An MX2_takersOf 36 [some (vR 0 0 g), some (vI a1), some (vI a2), some (vI (lp (b_X2_takersOf_1 m g a1 a2) 8 0 (0 : Int32))), none] [] m _ _
  refine an_b 1 (pc2 := 37) (L2 := [some (vR 0 0 g), some (vI a1), some (vI a2), some (vI (lp (b_X2_takersOf_1 m g a1 a2) 8 0 (0 : Int32))), none]) (st2 := [vI (lp (b_X2_takersOf_1 m g a1 a2) 8 0 (0 : Int32))]) (m1 := m) rfl ?_
  exact an_ret rfl rfl rfl rfl rfl
def v_X2_heatAfter (m : PM) (g : Nat) (a1 : Int32) (a2 : Int32) : Int32 := (if a2 ≤ 0 then (if (0 : Int32) < (a1 - (v_X1_at m 10 g (2 : Int32))) then (a1 - (v_X1_at m 10 g (2 : Int32))) else (0 : Int32)) else (if (a1 + (a2 * (v_X1_at m 10 g (1 : Int32)))) < (1000 : Int32) then (a1 + (a2 * (v_X1_at m 10 g (1 : Int32)))) else (1000 : Int32)))
set_option maxRecDepth 100000 in
theorem r_X2_heatAfter (m : PM) (g : Nat) (a1 : Int32) (a2 : Int32) : Rn MX2_heatAfter [vR 0 0 g, vI a1, vI a2] m (some (vI (v_X2_heatAfter m g a1 a2))) m := by
  refine rn_of [some (vR 0 0 g), some (vI a1), some (vI a2)] rfl ?_
  unfold v_X2_heatAfter
  refine an_b 2 (pc2 := if a2 ≤ 0 then 23 else 4) (L2 := [some (vR 0 0 g), some (vI a1), some (vI a2)]) (st2 := []) (m1 := m) rfl ?_
  refine an_ifi (c := a2 ≤ 0) (fun h1 => ?_) (fun h1 => ?_)
  · refine an_b 5 (pc2 := 30) (L2 := [some (vR 0 0 g), some (vI a1), some (vI a2)]) (st2 := [vI (2 : Int32), vR 1 10 g, vI a1, vI (0 : Int32)]) (m1 := m) rfl ?_
    refine an_call (r_X1_at m 10 g (2 : Int32)) rfl rfl rfl rfl ?_
    refine an_b 2 (pc2 := 37) (L2 := [some (vR 0 0 g), some (vI a1), some (vI a2)]) (st2 := [vI (if (0 : Int32) < (a1 - (v_X1_at m 10 g (2 : Int32))) then (a1 - (v_X1_at m 10 g (2 : Int32))) else (0 : Int32))]) (m1 := m) rfl ?_
    exact an_ret rfl rfl rfl rfl rfl
  · refine an_b 6 (pc2 := 14) (L2 := [some (vR 0 0 g), some (vI a1), some (vI a2)]) (st2 := [vI (1 : Int32), vR 1 10 g, vI a2, vI a1, vI (1000 : Int32)]) (m1 := m) rfl ?_
    refine an_call (r_X1_at m 10 g (1 : Int32)) rfl rfl rfl rfl ?_
    refine an_b 3 (pc2 := 22) (L2 := [some (vR 0 0 g), some (vI a1), some (vI a2)]) (st2 := [vI (if (a1 + (a2 * (v_X1_at m 10 g (1 : Int32)))) < (1000 : Int32) then (a1 + (a2 * (v_X1_at m 10 g (1 : Int32)))) else (1000 : Int32))]) (m1 := m) rfl ?_
    exact an_ret rfl rfl rfl rfl rfl
def b_X2_greatestMode_1 (m : PM) (g : Nat) (a1 : Int32)  (j1 : Nat) (s1 : Int32) : Int32 := (if s1 < (v_X1_at m 0 g (v_X4_cell m (nI j1) a1)) then (v_X1_at m 0 g (v_X4_cell m (nI j1) a1)) else s1)
def v_X2_greatestMode (m : PM) (g : Nat) (a1 : Int32) : Int32 := (lp (b_X2_greatestMode_1 m g a1) 8 0 (0 : Int32))
set_option maxRecDepth 100000 in
theorem r_X2_greatestMode (m : PM) (g : Nat) (a1 : Int32) : Rn MX2_greatestMode [vR 0 0 g, vI a1] m (some (vI (v_X2_greatestMode m g a1))) m := by
  refine rn_of [some (vR 0 0 g), some (vI a1), none, none] rfl ?_
  unfold v_X2_greatestMode
  refine an_b 4 (pc2 := 4) (L2 := [some (vR 0 0 g), some (vI a1), some (vI (0 : Int32)), some (vI (0 : Int32))]) (st2 := []) (m1 := m) rfl ?_
  refine re_lp (σ := Int32) (b_X2_greatestMode_1 m g a1) (fun j1 s1 => (4, [some (vR 0 0 g), some (vI a1), some (vI s1), some (vI (nI j1))], [], m)) 8 (fun s1 => (33, [some (vR 0 0 g), some (vI a1), some (vI s1), none], [], m)) (fun j1 s1 hj1 v9 m9 K1 => ?_) (fun s1 v9 m9 K1 => ?_) 8 0 (0 : Int32) (Nat.add_zero _) _ _ ?_
  · show An MX2_greatestMode 4 [some (vR 0 0 g), some (vI a1), some (vI s1), some (vI (nI j1))] [] m v9 m9
    refine an_b 3 (pc2 := if (8 : Int32) ≤ (nI j1) then 33 else 10) (L2 := [some (vR 0 0 g), some (vI a1), some (vI s1), some (vI (nI j1))]) (st2 := []) (m1 := m) rfl ?_
    refine an_f (nI_ge (a := j1) (b := 8) (by omega) (by omega)) ?_
    refine an_b 5 (pc2 := 17) (L2 := [some (vR 0 0 g), some (vI a1), some (vI s1), some (vI (nI j1))]) (st2 := [vI a1, vI (nI j1), vR 1 0 g, vI s1]) (m1 := m) rfl ?_
    refine an_call (r_X4_cell m (nI j1) a1) rfl rfl rfl rfl ?_
    refine an_call (r_X1_at m 0 g (v_X4_cell m (nI j1) a1)) rfl rfl rfl rfl ?_
    refine an_b 4 (pc2 := 4) (L2 := [some (vR 0 0 g), some (vI a1), some (vI (if s1 < (v_X1_at m 0 g (v_X4_cell m (nI j1) a1)) then (v_X1_at m 0 g (v_X4_cell m (nI j1) a1)) else s1)), some (vI ((nI j1) + (1 : Int32)))]) (st2 := []) (m1 := m) rfl ?_
    refine an_cL (K := [some (vR 0 0 g), some (vI a1), some (vI (if s1 < (v_X1_at m 0 g (v_X4_cell m (nI j1) a1)) then (v_X1_at m 0 g (v_X4_cell m (nI j1) a1)) else s1)), some (vI (nI (j1 + 1)))]) (by simp only [nI_1]) ?_
    exact K1
  · show An MX2_greatestMode 4 [some (vR 0 0 g), some (vI a1), some (vI s1), some (vI (nI 8))] [] m v9 m9
    refine an_b 3 (pc2 := if (8 : Int32) ≤ (nI 8) then 33 else 10) (L2 := [some (vR 0 0 g), some (vI a1), some (vI s1), some (vI (nI 8))]) (st2 := []) (m1 := m) rfl ?_
    refine an_t (nI_le (a := 8) (b := 8) (by omega) (by omega)) ?_
    refine an_weak (L := [some (vR 0 0 g), some (vI a1), some (vI s1), none]) (⟨rfl, rfl, rfl, trivial⟩) ?_
    exact K1
  show An MX2_greatestMode 33 [some (vR 0 0 g), some (vI a1), some (vI (lp (b_X2_greatestMode_1 m g a1) 8 0 (0 : Int32))), none] [] m _ _
  refine an_b 1 (pc2 := 34) (L2 := [some (vR 0 0 g), some (vI a1), some (vI (lp (b_X2_greatestMode_1 m g a1) 8 0 (0 : Int32))), none]) (st2 := [vI (lp (b_X2_greatestMode_1 m g a1) 8 0 (0 : Int32))]) (m1 := m) rfl ?_
  exact an_ret rfl rfl rfl rfl rfl
def b_X2_burn_1 (m : PM) (g : Nat) (a1 : Int32)  (j1 : Nat) (s1 : Int32 × PM) : Int32 × PM := ((if (v_X1_at s1.2 0 g (v_X4_cell s1.2 (nI j1) a1)) ≤ 0 then s1.1 else (s1.1 + (1 : Int32))), (if (v_X1_at s1.2 0 g (v_X4_cell s1.2 (nI j1) a1)) ≤ 0 then s1.2 else (w_X1_raise (w_X1_put s1.2 0 g (v_X4_cell s1.2 (nI j1) a1) (0 : Int32)) 6 g (nI j1))))
def v_X2_burn (m : PM) (g : Nat) (a1 : Int32) : Int32 := (lp (b_X2_burn_1 m g a1) 8 0 ((0 : Int32), m)).1
def w_X2_burn (m : PM) (g : Nat) (a1 : Int32) : PM := (if ((lp (b_X2_burn_1 m g a1) 8 0 ((0 : Int32), m)).1) ≤ 0 then (lp (b_X2_burn_1 m g a1) 8 0 ((0 : Int32), m)).2 else (w_X2_settle ((lp (b_X2_burn_1 m g a1) 8 0 ((0 : Int32), m)).2) g a1))
set_option maxRecDepth 100000 in
theorem r_X2_burn (m : PM) (g : Nat) (a1 : Int32) : Rn MX2_burn [vR 0 0 g, vI a1] m (some (vI (v_X2_burn m g a1))) (w_X2_burn m g a1) := by
  refine rn_of [some (vR 0 0 g), some (vI a1), none, none] rfl ?_
  unfold v_X2_burn w_X2_burn
  refine an_b 4 (pc2 := 4) (L2 := [some (vR 0 0 g), some (vI a1), some (vI (0 : Int32)), some (vI (0 : Int32))]) (st2 := []) (m1 := m) rfl ?_
  refine re_lp (σ := Int32 × PM) (b_X2_burn_1 m g a1) (fun j1 s1 => (4, [some (vR 0 0 g), some (vI a1), some (vI s1.1), some (vI (nI j1))], [], s1.2)) 8 (fun s1 => (55, [some (vR 0 0 g), some (vI a1), some (vI s1.1), none], [], s1.2)) (fun j1 s1 hj1 v9 m9 K1 => ?_) (fun s1 v9 m9 K1 => ?_) 8 0 ((0 : Int32), m) (Nat.add_zero _) _ _ ?_
  · show An MX2_burn 4 [some (vR 0 0 g), some (vI a1), some (vI s1.1), some (vI (nI j1))] [] s1.2 v9 m9
    refine an_b 3 (pc2 := if (8 : Int32) ≤ (nI j1) then 55 else 10) (L2 := [some (vR 0 0 g), some (vI a1), some (vI s1.1), some (vI (nI j1))]) (st2 := []) (m1 := s1.2) rfl ?_
    refine an_f (nI_ge (a := j1) (b := 8) (by omega) (by omega)) ?_
    refine an_b 4 (pc2 := 16) (L2 := [some (vR 0 0 g), some (vI a1), some (vI s1.1), some (vI (nI j1))]) (st2 := [vI a1, vI (nI j1), vR 1 0 g]) (m1 := s1.2) rfl ?_
    refine an_call (r_X4_cell s1.2 (nI j1) a1) rfl rfl rfl rfl ?_
    refine an_call (r_X1_at s1.2 0 g (v_X4_cell s1.2 (nI j1) a1)) rfl rfl rfl rfl ?_
    refine an_b 1 (pc2 := if (v_X1_at s1.2 0 g (v_X4_cell s1.2 (nI j1) a1)) ≤ 0 then 49 else 25) (L2 := [some (vR 0 0 g), some (vI a1), some (vI s1.1), some (vI (nI j1))]) (st2 := []) (m1 := s1.2) rfl ?_
    refine re_if2 (c := (v_X1_at s1.2 0 g (v_X4_cell s1.2 (nI j1) a1)) ≤ 0) (a := s1.1) (b := s1.1 + (1 : Int32)) (x := s1.2) (y := (w_X1_raise (w_X1_put s1.2 0 g (v_X4_cell s1.2 (nI j1) a1) (0 : Int32)) 6 g (nI j1))) (fun x y => (49, [some (vR 0 0 g), some (vI a1), some (vI x), some (vI (nI j1))], [], y)) (fun h1 v9 m9 K2 => ?_) (fun h1 v9 m9 K2 => ?_) _ _ ?_
    · exact K2
    · refine an_b 4 (pc2 := 31) (L2 := [some (vR 0 0 g), some (vI a1), some (vI s1.1), some (vI (nI j1))]) (st2 := [vI a1, vI (nI j1), vR 1 0 g]) (m1 := s1.2) rfl ?_
      refine an_call (r_X4_cell s1.2 (nI j1) a1) rfl rfl rfl rfl ?_
      refine an_b 1 (pc2 := 35) (L2 := [some (vR 0 0 g), some (vI a1), some (vI s1.1), some (vI (nI j1))]) (st2 := [vI (0 : Int32), vI (v_X4_cell s1.2 (nI j1) a1), vR 1 0 g]) (m1 := s1.2) rfl ?_
      refine an_call (r_X1_put s1.2 0 g (v_X4_cell s1.2 (nI j1) a1) (0 : Int32)) rfl rfl rfl rfl ?_
      refine an_b 3 (pc2 := 43) (L2 := [some (vR 0 0 g), some (vI a1), some (vI s1.1), some (vI (nI j1))]) (st2 := [vI (nI j1), vR 1 6 g]) (m1 := (w_X1_put s1.2 0 g (v_X4_cell s1.2 (nI j1) a1) (0 : Int32))) rfl ?_
      refine an_call (r_X1_raise (w_X1_put s1.2 0 g (v_X4_cell s1.2 (nI j1) a1) (0 : Int32)) 6 g (nI j1)) rfl rfl rfl rfl ?_
      refine an_b 1 (pc2 := 49) (L2 := [some (vR 0 0 g), some (vI a1), some (vI (s1.1 + (1 : Int32))), some (vI (nI j1))]) (st2 := []) (m1 := (w_X1_raise (w_X1_put s1.2 0 g (v_X4_cell s1.2 (nI j1) a1) (0 : Int32)) 6 g (nI j1))) rfl ?_
      exact K2
    refine an_b 2 (pc2 := 4) (L2 := [some (vR 0 0 g), some (vI a1), some (vI (if (v_X1_at s1.2 0 g (v_X4_cell s1.2 (nI j1) a1)) ≤ 0 then s1.1 else (s1.1 + (1 : Int32)))), some (vI ((nI j1) + (1 : Int32)))]) (st2 := []) (m1 := (if (v_X1_at s1.2 0 g (v_X4_cell s1.2 (nI j1) a1)) ≤ 0 then s1.2 else (w_X1_raise (w_X1_put s1.2 0 g (v_X4_cell s1.2 (nI j1) a1) (0 : Int32)) 6 g (nI j1)))) rfl ?_
    refine an_cL (K := [some (vR 0 0 g), some (vI a1), some (vI (if (v_X1_at s1.2 0 g (v_X4_cell s1.2 (nI j1) a1)) ≤ 0 then s1.1 else (s1.1 + (1 : Int32)))), some (vI (nI (j1 + 1)))]) (by simp only [nI_1]) ?_
    exact K1
  · show An MX2_burn 4 [some (vR 0 0 g), some (vI a1), some (vI s1.1), some (vI (nI 8))] [] s1.2 v9 m9
    refine an_b 3 (pc2 := if (8 : Int32) ≤ (nI 8) then 55 else 10) (L2 := [some (vR 0 0 g), some (vI a1), some (vI s1.1), some (vI (nI 8))]) (st2 := []) (m1 := s1.2) rfl ?_
    refine an_t (nI_le (a := 8) (b := 8) (by omega) (by omega)) ?_
    refine an_weak (L := [some (vR 0 0 g), some (vI a1), some (vI s1.1), none]) (⟨rfl, rfl, rfl, trivial⟩) ?_
    exact K1
  show An MX2_burn 55 [some (vR 0 0 g), some (vI a1), some (vI ((lp (b_X2_burn_1 m g a1) 8 0 ((0 : Int32), m)).1)), none] [] (lp (b_X2_burn_1 m g a1) 8 0 ((0 : Int32), m)).2 _ _
  refine an_b 2 (pc2 := if ((lp (b_X2_burn_1 m g a1) 8 0 ((0 : Int32), m)).1) ≤ 0 then 65 else 59) (L2 := [some (vR 0 0 g), some (vI a1), some (vI ((lp (b_X2_burn_1 m g a1) 8 0 ((0 : Int32), m)).1)), none]) (st2 := []) (m1 := (lp (b_X2_burn_1 m g a1) 8 0 ((0 : Int32), m)).2) rfl ?_
  refine re_if1 (c := ((lp (b_X2_burn_1 m g a1) 8 0 ((0 : Int32), m)).1) ≤ 0) (a := (lp (b_X2_burn_1 m g a1) 8 0 ((0 : Int32), m)).2) (b := (w_X2_settle ((lp (b_X2_burn_1 m g a1) 8 0 ((0 : Int32), m)).2) g a1)) (fun x => (65, [some (vR 0 0 g), some (vI a1), some (vI ((lp (b_X2_burn_1 m g a1) 8 0 ((0 : Int32), m)).1)), none], [], x)) (fun h3 v9 m9 K4 => ?_) (fun h3 v9 m9 K4 => ?_) _ _ ?_
  · exact K4
  · refine an_b 2 (pc2 := 61) (L2 := [some (vR 0 0 g), some (vI a1), some (vI ((lp (b_X2_burn_1 m g a1) 8 0 ((0 : Int32), m)).1)), none]) (st2 := [vI a1, vR 0 0 g]) (m1 := (lp (b_X2_burn_1 m g a1) 8 0 ((0 : Int32), m)).2) rfl ?_
    refine an_call (r_X2_settle ((lp (b_X2_burn_1 m g a1) 8 0 ((0 : Int32), m)).2) g a1) rfl rfl rfl rfl ?_
    refine an_b 1 (pc2 := 65) (L2 := [some (vR 0 0 g), some (vI a1), some (vI ((lp (b_X2_burn_1 m g a1) 8 0 ((0 : Int32), m)).1)), none]) (st2 := []) (m1 := (w_X2_settle ((lp (b_X2_burn_1 m g a1) 8 0 ((0 : Int32), m)).2) g a1)) rfl ?_
    exact K4
  refine an_b 1 (pc2 := 66) (L2 := [some (vR 0 0 g), some (vI a1), some (vI ((lp (b_X2_burn_1 m g a1) 8 0 ((0 : Int32), m)).1)), none]) (st2 := [vI ((lp (b_X2_burn_1 m g a1) 8 0 ((0 : Int32), m)).1)]) (m1 := (if ((lp (b_X2_burn_1 m g a1) 8 0 ((0 : Int32), m)).1) ≤ 0 then (lp (b_X2_burn_1 m g a1) 8 0 ((0 : Int32), m)).2 else (w_X2_settle ((lp (b_X2_burn_1 m g a1) 8 0 ((0 : Int32), m)).2) g a1))) rfl ?_
  exact an_ret rfl rfl rfl rfl rfl
def b_X2_tick_1 (m : PM) (g : Nat)  (j1 : Nat) (s1 : PM) : PM := (w_X1_put s1 4 g (nI j1) (v_X2_heatAfter s1 g (v_X1_at s1 4 g (nI j1)) (v_X2_greatestMode s1 g (nI j1))))
def b_X2_tick_2 (m : PM) (g : Nat)  (j2 : Nat) (s2 : Int32 × PM) : Int32 × PM := ((if (v_X1_at s2.2 4 g (nI j2)) ≤ (v_X1_at s2.2 10 g (0 : Int32)) then s2.1 else (s2.1 + (v_X2_burn s2.2 g (nI j2)))), (if (v_X1_at s2.2 4 g (nI j2)) ≤ (v_X1_at s2.2 10 g (0 : Int32)) then s2.2 else (w_X2_burn s2.2 g (nI j2))))
def v_X2_tick (m : PM) (g : Nat) : Int32 := (lp (b_X2_tick_2 m g) 12 0 ((0 : Int32), (lp (b_X2_tick_1 m g) 12 0 (wI m 0 0 g 11 ((m.1 0 0 g 11) + (1 : Int32)))))).1
def w_X2_tick (m : PM) (g : Nat) : PM := (lp (b_X2_tick_2 m g) 12 0 ((0 : Int32), (lp (b_X2_tick_1 m g) 12 0 (wI m 0 0 g 11 ((m.1 0 0 g 11) + (1 : Int32)))))).2
set_option maxRecDepth 100000 in
theorem r_X2_tick (m : PM) (g : Nat) : Rn MX2_tick [vR 0 0 g] m (some (vI (v_X2_tick m g))) (w_X2_tick m g) := by
  refine rn_of [some (vR 0 0 g), none, none] rfl ?_
  unfold v_X2_tick w_X2_tick
  refine an_b 8 (pc2 := 12) (L2 := [some (vR 0 0 g), some (vI (0 : Int32)), none]) (st2 := []) (m1 := (wI m 0 0 g 11 ((m.1 0 0 g 11) + (1 : Int32)))) rfl ?_
  refine re_lp (σ := PM) (b_X2_tick_1 m g) (fun j1 s1 => (12, [some (vR 0 0 g), some (vI (nI j1)), none], [], s1)) 12 (fun s1 => (49, [some (vR 0 0 g), none, none], [], s1)) (fun j1 s1 hj1 v9 m9 K1 => ?_) (fun s1 v9 m9 K1 => ?_) 12 0 (wI m 0 0 g 11 ((m.1 0 0 g 11) + (1 : Int32))) (Nat.add_zero _) _ _ ?_
  · show An MX2_tick 12 [some (vR 0 0 g), some (vI (nI j1)), none] [] s1 v9 m9
    refine an_b 3 (pc2 := if (12 : Int32) ≤ (nI j1) then 49 else 18) (L2 := [some (vR 0 0 g), some (vI (nI j1)), none]) (st2 := []) (m1 := s1) rfl ?_
    refine an_f (nI_ge (a := j1) (b := 12) (by omega) (by omega)) ?_
    refine an_b 7 (pc2 := 29) (L2 := [some (vR 0 0 g), some (vI (nI j1)), none]) (st2 := [vI (nI j1), vR 1 4 g, vR 0 0 g, vI (nI j1), vR 1 4 g]) (m1 := s1) rfl ?_
    refine an_call (r_X1_at s1 4 g (nI j1)) rfl rfl rfl rfl ?_
    refine an_b 2 (pc2 := 34) (L2 := [some (vR 0 0 g), some (vI (nI j1)), none]) (st2 := [vI (nI j1), vR 0 0 g, vI (v_X1_at s1 4 g (nI j1)), vR 0 0 g, vI (nI j1), vR 1 4 g]) (m1 := s1) rfl ?_
    refine an_call (r_X2_greatestMode s1 g (nI j1)) rfl rfl rfl rfl ?_
    refine an_call (r_X2_heatAfter s1 g (v_X1_at s1 4 g (nI j1)) (v_X2_greatestMode s1 g (nI j1))) rfl rfl rfl rfl ?_
    refine an_call (r_X1_put s1 4 g (nI j1) (v_X2_heatAfter s1 g (v_X1_at s1 4 g (nI j1)) (v_X2_greatestMode s1 g (nI j1)))) rfl rfl rfl rfl ?_
    refine an_b 2 (pc2 := 12) (L2 := [some (vR 0 0 g), some (vI ((nI j1) + (1 : Int32))), none]) (st2 := []) (m1 := (w_X1_put s1 4 g (nI j1) (v_X2_heatAfter s1 g (v_X1_at s1 4 g (nI j1)) (v_X2_greatestMode s1 g (nI j1))))) rfl ?_
    refine an_cL (K := [some (vR 0 0 g), some (vI (nI (j1 + 1))), none]) (by simp only [nI_1]) ?_
    exact K1
  · show An MX2_tick 12 [some (vR 0 0 g), some (vI (nI 12)), none] [] s1 v9 m9
    refine an_b 3 (pc2 := if (12 : Int32) ≤ (nI 12) then 49 else 18) (L2 := [some (vR 0 0 g), some (vI (nI 12)), none]) (st2 := []) (m1 := s1) rfl ?_
    refine an_t (nI_le (a := 12) (b := 12) (by omega) (by omega)) ?_
    refine an_weak (L := [some (vR 0 0 g), none, none]) (⟨rfl, trivial⟩) ?_
    exact K1
  show An MX2_tick 49 [some (vR 0 0 g), none, none] [] (lp (b_X2_tick_1 m g) 12 0 (wI m 0 0 g 11 ((m.1 0 0 g 11) + (1 : Int32)))) _ _
  refine an_b 4 (pc2 := 53) (L2 := [some (vR 0 0 g), some (vI (0 : Int32)), some (vI (0 : Int32))]) (st2 := []) (m1 := (lp (b_X2_tick_1 m g) 12 0 (wI m 0 0 g 11 ((m.1 0 0 g 11) + (1 : Int32))))) rfl ?_
  refine re_lp (σ := Int32 × PM) (b_X2_tick_2 m g) (fun j2 s2 => (53, [some (vR 0 0 g), some (vI s2.1), some (vI (nI j2))], [], s2.2)) 12 (fun s2 => (92, [some (vR 0 0 g), some (vI s2.1), none], [], s2.2)) (fun j2 s2 hj2 v9 m9 K2 => ?_) (fun s2 v9 m9 K2 => ?_) 12 0 ((0 : Int32), (lp (b_X2_tick_1 m g) 12 0 (wI m 0 0 g 11 ((m.1 0 0 g 11) + (1 : Int32))))) (Nat.add_zero _) _ _ ?_
  · show An MX2_tick 53 [some (vR 0 0 g), some (vI s2.1), some (vI (nI j2))] [] s2.2 v9 m9
    refine an_b 3 (pc2 := if (12 : Int32) ≤ (nI j2) then 92 else 59) (L2 := [some (vR 0 0 g), some (vI s2.1), some (vI (nI j2))]) (st2 := []) (m1 := s2.2) rfl ?_
    refine an_f (nI_ge (a := j2) (b := 12) (by omega) (by omega)) ?_
    refine an_b 3 (pc2 := 64) (L2 := [some (vR 0 0 g), some (vI s2.1), some (vI (nI j2))]) (st2 := [vI (nI j2), vR 1 4 g]) (m1 := s2.2) rfl ?_
    refine an_call (r_X1_at s2.2 4 g (nI j2)) rfl rfl rfl rfl ?_
    refine an_b 3 (pc2 := 72) (L2 := [some (vR 0 0 g), some (vI s2.1), some (vI (nI j2))]) (st2 := [vI (0 : Int32), vR 1 10 g, vI (v_X1_at s2.2 4 g (nI j2))]) (m1 := s2.2) rfl ?_
    refine an_call (r_X1_at s2.2 10 g (0 : Int32)) rfl rfl rfl rfl ?_
    refine an_b 1 (pc2 := if (v_X1_at s2.2 4 g (nI j2)) ≤ (v_X1_at s2.2 10 g (0 : Int32)) then 86 else 78) (L2 := [some (vR 0 0 g), some (vI s2.1), some (vI (nI j2))]) (st2 := []) (m1 := s2.2) rfl ?_
    refine re_if2 (c := (v_X1_at s2.2 4 g (nI j2)) ≤ (v_X1_at s2.2 10 g (0 : Int32))) (a := s2.1) (b := (s2.1 + (v_X2_burn s2.2 g (nI j2)))) (x := s2.2) (y := (w_X2_burn s2.2 g (nI j2))) (fun x y => (86, [some (vR 0 0 g), some (vI x), some (vI (nI j2))], [], y)) (fun h1 v9 m9 K2 => ?_) (fun h1 v9 m9 K2 => ?_) _ _ ?_
    · exact K2
    · refine an_b 3 (pc2 := 81) (L2 := [some (vR 0 0 g), some (vI s2.1), some (vI (nI j2))]) (st2 := [vI (nI j2), vR 0 0 g, vI s2.1]) (m1 := s2.2) rfl ?_
      refine an_call (r_X2_burn s2.2 g (nI j2)) rfl rfl rfl rfl ?_
      refine an_b 2 (pc2 := 86) (L2 := [some (vR 0 0 g), some (vI (s2.1 + (v_X2_burn s2.2 g (nI j2)))), some (vI (nI j2))]) (st2 := []) (m1 := (w_X2_burn s2.2 g (nI j2))) rfl ?_
      exact K2
    refine an_b 2 (pc2 := 53) (L2 := [some (vR 0 0 g), some (vI (if (v_X1_at s2.2 4 g (nI j2)) ≤ (v_X1_at s2.2 10 g (0 : Int32)) then s2.1 else (s2.1 + (v_X2_burn s2.2 g (nI j2))))), some (vI ((nI j2) + (1 : Int32)))]) (st2 := []) (m1 := (if (v_X1_at s2.2 4 g (nI j2)) ≤ (v_X1_at s2.2 10 g (0 : Int32)) then s2.2 else (w_X2_burn s2.2 g (nI j2)))) rfl ?_
    refine an_cL (K := [some (vR 0 0 g), some (vI (if (v_X1_at s2.2 4 g (nI j2)) ≤ (v_X1_at s2.2 10 g (0 : Int32)) then s2.1 else (s2.1 + (v_X2_burn s2.2 g (nI j2))))), some (vI (nI (j2 + 1)))]) (by simp only [nI_1]) ?_
    exact K2
  · show An MX2_tick 53 [some (vR 0 0 g), some (vI s2.1), some (vI (nI 12))] [] s2.2 v9 m9
    refine an_b 3 (pc2 := if (12 : Int32) ≤ (nI 12) then 92 else 59) (L2 := [some (vR 0 0 g), some (vI s2.1), some (vI (nI 12))]) (st2 := []) (m1 := s2.2) rfl ?_
    refine an_t (nI_le (a := 12) (b := 12) (by omega) (by omega)) ?_
    refine an_weak (L := [some (vR 0 0 g), some (vI s2.1), none]) (⟨rfl, rfl, trivial⟩) ?_
    exact K2
  show An MX2_tick 92 [some (vR 0 0 g), some (vI ((lp (b_X2_tick_2 m g) 12 0 ((0 : Int32), (lp (b_X2_tick_1 m g) 12 0 (wI m 0 0 g 11 ((m.1 0 0 g 11) + (1 : Int32)))))).1)), none] [] (lp (b_X2_tick_2 m g) 12 0 ((0 : Int32), (lp (b_X2_tick_1 m g) 12 0 (wI m 0 0 g 11 ((m.1 0 0 g 11) + (1 : Int32)))))).2 _ _
  refine an_b 1 (pc2 := 93) (L2 := [some (vR 0 0 g), some (vI ((lp (b_X2_tick_2 m g) 12 0 ((0 : Int32), (lp (b_X2_tick_1 m g) 12 0 (wI m 0 0 g 11 ((m.1 0 0 g 11) + (1 : Int32)))))).1)), none]) (st2 := [vI ((lp (b_X2_tick_2 m g) 12 0 ((0 : Int32), (lp (b_X2_tick_1 m g) 12 0 (wI m 0 0 g 11 ((m.1 0 0 g 11) + (1 : Int32)))))).1)]) (m1 := (lp (b_X2_tick_2 m g) 12 0 ((0 : Int32), (lp (b_X2_tick_1 m g) 12 0 (wI m 0 0 g 11 ((m.1 0 0 g 11) + (1 : Int32)))))).2) rfl ?_
  exact an_ret rfl rfl rfl rfl rfl
def b_X2_holders_1 (m : PM) (g : Nat) (a1 : Int32)  (j1 : Nat) (s1 : Int32) : Int32 := (if (v_X1_at m 0 g (v_X4_cell m (nI j1) a1)) ≤ 0 then s1 else (s1 ||| ((1 : Int32) <<< ((nI j1) &&& (31 : Int32)))))
def v_X2_holders (m : PM) (g : Nat) (a1 : Int32) : Int32 := (lp (b_X2_holders_1 m g a1) 8 0 (0 : Int32))
set_option maxRecDepth 100000 in
theorem r_X2_holders (m : PM) (g : Nat) (a1 : Int32) : Rn MX2_holders [vR 0 0 g, vI a1] m (some (vI (v_X2_holders m g a1))) m := by
  refine rn_of [some (vR 0 0 g), some (vI a1), none, none] rfl ?_
  unfold v_X2_holders
  refine an_b 4 (pc2 := 4) (L2 := [some (vR 0 0 g), some (vI a1), some (vI (0 : Int32)), some (vI (0 : Int32))]) (st2 := []) (m1 := m) rfl ?_
  refine re_lp (σ := Int32) (b_X2_holders_1 m g a1) (fun j1 s1 => (4, [some (vR 0 0 g), some (vI a1), some (vI s1), some (vI (nI j1))], [], m)) 8 (fun s1 => (37, [some (vR 0 0 g), some (vI a1), some (vI s1), none], [], m)) (fun j1 s1 hj1 v9 m9 K1 => ?_) (fun s1 v9 m9 K1 => ?_) 8 0 (0 : Int32) (Nat.add_zero _) _ _ ?_
  · show An MX2_holders 4 [some (vR 0 0 g), some (vI a1), some (vI s1), some (vI (nI j1))] [] m v9 m9
    refine an_b 3 (pc2 := if (8 : Int32) ≤ (nI j1) then 37 else 10) (L2 := [some (vR 0 0 g), some (vI a1), some (vI s1), some (vI (nI j1))]) (st2 := []) (m1 := m) rfl ?_
    refine an_f (nI_ge (a := j1) (b := 8) (by omega) (by omega)) ?_
    refine an_b 4 (pc2 := 16) (L2 := [some (vR 0 0 g), some (vI a1), some (vI s1), some (vI (nI j1))]) (st2 := [vI a1, vI (nI j1), vR 1 0 g]) (m1 := m) rfl ?_
    refine an_call (r_X4_cell m (nI j1) a1) rfl rfl rfl rfl ?_
    refine an_call (r_X1_at m 0 g (v_X4_cell m (nI j1) a1)) rfl rfl rfl rfl ?_
    refine an_b 1 (pc2 := if (v_X1_at m 0 g (v_X4_cell m (nI j1) a1)) ≤ 0 then 31 else 25) (L2 := [some (vR 0 0 g), some (vI a1), some (vI s1), some (vI (nI j1))]) (st2 := []) (m1 := m) rfl ?_
    refine re_if1 (c := (v_X1_at m 0 g (v_X4_cell m (nI j1) a1)) ≤ 0) (a := s1) (b := (s1 ||| ((1 : Int32) <<< ((nI j1) &&& (31 : Int32))))) (fun x => (31, [some (vR 0 0 g), some (vI a1), some (vI x), some (vI (nI j1))], [], m)) (fun h1 v9 m9 K2 => ?_) (fun h1 v9 m9 K2 => ?_) _ _ ?_
    · exact K2
    · refine an_b 6 (pc2 := 31) (L2 := [some (vR 0 0 g), some (vI a1), some (vI (s1 ||| ((1 : Int32) <<< ((nI j1) &&& (31 : Int32))))), some (vI (nI j1))]) (st2 := []) (m1 := m) rfl ?_
      exact K2
    refine an_b 2 (pc2 := 4) (L2 := [some (vR 0 0 g), some (vI a1), some (vI (if (v_X1_at m 0 g (v_X4_cell m (nI j1) a1)) ≤ 0 then s1 else (s1 ||| ((1 : Int32) <<< ((nI j1) &&& (31 : Int32)))))), some (vI ((nI j1) + (1 : Int32)))]) (st2 := []) (m1 := m) rfl ?_
    refine an_cL (K := [some (vR 0 0 g), some (vI a1), some (vI (if (v_X1_at m 0 g (v_X4_cell m (nI j1) a1)) ≤ 0 then s1 else (s1 ||| ((1 : Int32) <<< ((nI j1) &&& (31 : Int32)))))), some (vI (nI (j1 + 1)))]) (by simp only [nI_1]) ?_
    exact K1
  · show An MX2_holders 4 [some (vR 0 0 g), some (vI a1), some (vI s1), some (vI (nI 8))] [] m v9 m9
    refine an_b 3 (pc2 := if (8 : Int32) ≤ (nI 8) then 37 else 10) (L2 := [some (vR 0 0 g), some (vI a1), some (vI s1), some (vI (nI 8))]) (st2 := []) (m1 := m) rfl ?_
    refine an_t (nI_le (a := 8) (b := 8) (by omega) (by omega)) ?_
    refine an_weak (L := [some (vR 0 0 g), some (vI a1), some (vI s1), none]) (⟨rfl, rfl, rfl, trivial⟩) ?_
    exact K1
  show An MX2_holders 37 [some (vR 0 0 g), some (vI a1), some (vI (lp (b_X2_holders_1 m g a1) 8 0 (0 : Int32))), none] [] m _ _
  refine an_b 1 (pc2 := 38) (L2 := [some (vR 0 0 g), some (vI a1), some (vI (lp (b_X2_holders_1 m g a1) 8 0 (0 : Int32))), none]) (st2 := [vI (lp (b_X2_holders_1 m g a1) 8 0 (0 : Int32))]) (m1 := m) rfl ?_
  exact an_ret rfl rfl rfl rfl rfl
def b_X2_locksOf_1 (m : PM) (g : Nat) (a1 : Int32)  (j1 : Nat) (s1 : Int32) : Int32 := (if (v_X1_at m 0 g (v_X4_cell m a1 (nI j1))) ≤ 0 then s1 else (s1 + (1 : Int32)))
def v_X2_locksOf (m : PM) (g : Nat) (a1 : Int32) : Int32 := (lp (b_X2_locksOf_1 m g a1) 12 0 (0 : Int32))
set_option maxRecDepth 100000 in
theorem r_X2_locksOf (m : PM) (g : Nat) (a1 : Int32) : Rn MX2_locksOf [vR 0 0 g, vI a1] m (some (vI (v_X2_locksOf m g a1))) m := by
  refine rn_of [some (vR 0 0 g), some (vI a1), none, none] rfl ?_
  unfold v_X2_locksOf
  refine an_b 4 (pc2 := 4) (L2 := [some (vR 0 0 g), some (vI a1), some (vI (0 : Int32)), some (vI (0 : Int32))]) (st2 := []) (m1 := m) rfl ?_
  refine re_lp (σ := Int32) (b_X2_locksOf_1 m g a1) (fun j1 s1 => (4, [some (vR 0 0 g), some (vI a1), some (vI s1), some (vI (nI j1))], [], m)) 12 (fun s1 => (34, [some (vR 0 0 g), some (vI a1), some (vI s1), none], [], m)) (fun j1 s1 hj1 v9 m9 K1 => ?_) (fun s1 v9 m9 K1 => ?_) 12 0 (0 : Int32) (Nat.add_zero _) _ _ ?_
  · show An MX2_locksOf 4 [some (vR 0 0 g), some (vI a1), some (vI s1), some (vI (nI j1))] [] m v9 m9
    refine an_b 3 (pc2 := if (12 : Int32) ≤ (nI j1) then 34 else 10) (L2 := [some (vR 0 0 g), some (vI a1), some (vI s1), some (vI (nI j1))]) (st2 := []) (m1 := m) rfl ?_
    refine an_f (nI_ge (a := j1) (b := 12) (by omega) (by omega)) ?_
    refine an_b 4 (pc2 := 16) (L2 := [some (vR 0 0 g), some (vI a1), some (vI s1), some (vI (nI j1))]) (st2 := [vI (nI j1), vI a1, vR 1 0 g]) (m1 := m) rfl ?_
    refine an_call (r_X4_cell m a1 (nI j1)) rfl rfl rfl rfl ?_
    refine an_call (r_X1_at m 0 g (v_X4_cell m a1 (nI j1))) rfl rfl rfl rfl ?_
    refine an_b 1 (pc2 := if (v_X1_at m 0 g (v_X4_cell m a1 (nI j1))) ≤ 0 then 28 else 25) (L2 := [some (vR 0 0 g), some (vI a1), some (vI s1), some (vI (nI j1))]) (st2 := []) (m1 := m) rfl ?_
    refine re_if1 (c := (v_X1_at m 0 g (v_X4_cell m a1 (nI j1))) ≤ 0) (a := s1) (b := s1 + (1 : Int32)) (fun x => (28, [some (vR 0 0 g), some (vI a1), some (vI x), some (vI (nI j1))], [], m)) (fun h1 v9 m9 K2 => ?_) (fun h1 v9 m9 K2 => ?_) _ _ ?_
    · exact K2
    · refine an_b 1 (pc2 := 28) (L2 := [some (vR 0 0 g), some (vI a1), some (vI (s1 + (1 : Int32))), some (vI (nI j1))]) (st2 := []) (m1 := m) rfl ?_
      exact K2
    refine an_b 2 (pc2 := 4) (L2 := [some (vR 0 0 g), some (vI a1), some (vI (if (v_X1_at m 0 g (v_X4_cell m a1 (nI j1))) ≤ 0 then s1 else (s1 + (1 : Int32)))), some (vI ((nI j1) + (1 : Int32)))]) (st2 := []) (m1 := m) rfl ?_
    refine an_cL (K := [some (vR 0 0 g), some (vI a1), some (vI (if (v_X1_at m 0 g (v_X4_cell m a1 (nI j1))) ≤ 0 then s1 else (s1 + (1 : Int32)))), some (vI (nI (j1 + 1)))]) (by simp only [nI_1]) ?_
    exact K1
  · show An MX2_locksOf 4 [some (vR 0 0 g), some (vI a1), some (vI s1), some (vI (nI 12))] [] m v9 m9
    refine an_b 3 (pc2 := if (12 : Int32) ≤ (nI 12) then 34 else 10) (L2 := [some (vR 0 0 g), some (vI a1), some (vI s1), some (vI (nI 12))]) (st2 := []) (m1 := m) rfl ?_
    refine an_t (nI_le (a := 12) (b := 12) (by omega) (by omega)) ?_
    refine an_weak (L := [some (vR 0 0 g), some (vI a1), some (vI s1), none]) (⟨rfl, rfl, rfl, trivial⟩) ?_
    exact K1
  show An MX2_locksOf 34 [some (vR 0 0 g), some (vI a1), some (vI (lp (b_X2_locksOf_1 m g a1) 12 0 (0 : Int32))), none] [] m _ _
  refine an_b 1 (pc2 := 35) (L2 := [some (vR 0 0 g), some (vI a1), some (vI (lp (b_X2_locksOf_1 m g a1) 12 0 (0 : Int32))), none]) (st2 := [vI (lp (b_X2_locksOf_1 m g a1) 12 0 (0 : Int32))]) (m1 := m) rfl ?_
  exact an_ret rfl rfl rfl rfl rfl
def b_X2_lockCount_1 (m : PM) (g : Nat)  (j1 : Nat) (s1 : Int32) : Int32 := (s1 + (v_X2_locksOf m g (nI j1)))
def v_X2_lockCount (m : PM) (g : Nat) : Int32 := (lp (b_X2_lockCount_1 m g) 8 0 (0 : Int32))
set_option maxRecDepth 100000 in
theorem r_X2_lockCount (m : PM) (g : Nat) : Rn MX2_lockCount [vR 0 0 g] m (some (vI (v_X2_lockCount m g))) m := by
  refine rn_of [some (vR 0 0 g), none, none] rfl ?_
  unfold v_X2_lockCount
  refine an_b 4 (pc2 := 4) (L2 := [some (vR 0 0 g), some (vI (0 : Int32)), some (vI (0 : Int32))]) (st2 := []) (m1 := m) rfl ?_
  refine re_lp (σ := Int32) (b_X2_lockCount_1 m g) (fun j1 s1 => (4, [some (vR 0 0 g), some (vI s1), some (vI (nI j1))], [], m)) 8 (fun s1 => (24, [some (vR 0 0 g), some (vI s1), none], [], m)) (fun j1 s1 hj1 v9 m9 K1 => ?_) (fun s1 v9 m9 K1 => ?_) 8 0 (0 : Int32) (Nat.add_zero _) _ _ ?_
  · show An MX2_lockCount 4 [some (vR 0 0 g), some (vI s1), some (vI (nI j1))] [] m v9 m9
    refine an_b 3 (pc2 := if (8 : Int32) ≤ (nI j1) then 24 else 10) (L2 := [some (vR 0 0 g), some (vI s1), some (vI (nI j1))]) (st2 := []) (m1 := m) rfl ?_
    refine an_f (nI_ge (a := j1) (b := 8) (by omega) (by omega)) ?_
    refine an_b 3 (pc2 := 13) (L2 := [some (vR 0 0 g), some (vI s1), some (vI (nI j1))]) (st2 := [vI (nI j1), vR 0 0 g, vI s1]) (m1 := m) rfl ?_
    refine an_call (r_X2_locksOf m g (nI j1)) rfl rfl rfl rfl ?_
    refine an_b 4 (pc2 := 4) (L2 := [some (vR 0 0 g), some (vI (s1 + (v_X2_locksOf m g (nI j1)))), some (vI ((nI j1) + (1 : Int32)))]) (st2 := []) (m1 := m) rfl ?_
    refine an_cL (K := [some (vR 0 0 g), some (vI (s1 + (v_X2_locksOf m g (nI j1)))), some (vI (nI (j1 + 1)))]) (by simp only [nI_1]) ?_
    exact K1
  · show An MX2_lockCount 4 [some (vR 0 0 g), some (vI s1), some (vI (nI 8))] [] m v9 m9
    refine an_b 3 (pc2 := if (8 : Int32) ≤ (nI 8) then 24 else 10) (L2 := [some (vR 0 0 g), some (vI s1), some (vI (nI 8))]) (st2 := []) (m1 := m) rfl ?_
    refine an_t (nI_le (a := 8) (b := 8) (by omega) (by omega)) ?_
    refine an_weak (L := [some (vR 0 0 g), some (vI s1), none]) (⟨rfl, rfl, trivial⟩) ?_
    exact K1
  show An MX2_lockCount 24 [some (vR 0 0 g), some (vI (lp (b_X2_lockCount_1 m g) 8 0 (0 : Int32))), none] [] m _ _
  refine an_b 1 (pc2 := 25) (L2 := [some (vR 0 0 g), some (vI (lp (b_X2_lockCount_1 m g) 8 0 (0 : Int32))), none]) (st2 := [vI (lp (b_X2_lockCount_1 m g) 8 0 (0 : Int32))]) (m1 := m) rfl ?_
  exact an_ret rfl rfl rfl rfl rfl
def b_X2_waitingCount_1 (m : PM) (g : Nat)  (j1 : Nat) (s1 : Int32) : Int32 := (if (v_X2_isWaiting m g (nI j1)) = 0 then s1 else (s1 + (1 : Int32)))
def v_X2_waitingCount (m : PM) (g : Nat) : Int32 := (lp (b_X2_waitingCount_1 m g) 8 0 (0 : Int32))
set_option maxRecDepth 100000 in
theorem r_X2_waitingCount (m : PM) (g : Nat) : Rn MX2_waitingCount [vR 0 0 g] m (some (vI (v_X2_waitingCount m g))) m := by
  refine rn_of [some (vR 0 0 g), none, none] rfl ?_
  unfold v_X2_waitingCount
  refine an_b 4 (pc2 := 4) (L2 := [some (vR 0 0 g), some (vI (0 : Int32)), some (vI (0 : Int32))]) (st2 := []) (m1 := m) rfl ?_
  refine re_lp (σ := Int32) (b_X2_waitingCount_1 m g) (fun j1 s1 => (4, [some (vR 0 0 g), some (vI s1), some (vI (nI j1))], [], m)) 8 (fun s1 => (27, [some (vR 0 0 g), some (vI s1), none], [], m)) (fun j1 s1 hj1 v9 m9 K1 => ?_) (fun s1 v9 m9 K1 => ?_) 8 0 (0 : Int32) (Nat.add_zero _) _ _ ?_
  · show An MX2_waitingCount 4 [some (vR 0 0 g), some (vI s1), some (vI (nI j1))] [] m v9 m9
    refine an_b 3 (pc2 := if (8 : Int32) ≤ (nI j1) then 27 else 10) (L2 := [some (vR 0 0 g), some (vI s1), some (vI (nI j1))]) (st2 := []) (m1 := m) rfl ?_
    refine an_f (nI_ge (a := j1) (b := 8) (by omega) (by omega)) ?_
    refine an_b 2 (pc2 := 12) (L2 := [some (vR 0 0 g), some (vI s1), some (vI (nI j1))]) (st2 := [vI (nI j1), vR 0 0 g]) (m1 := m) rfl ?_
    refine an_call (r_X2_isWaiting m g (nI j1)) rfl rfl rfl rfl ?_
    refine an_b 1 (pc2 := if (v_X2_isWaiting m g (nI j1)) = 0 then 21 else 18) (L2 := [some (vR 0 0 g), some (vI s1), some (vI (nI j1))]) (st2 := []) (m1 := m) rfl ?_
    refine re_if1 (c := (v_X2_isWaiting m g (nI j1)) = 0) (a := s1) (b := s1 + (1 : Int32)) (fun x => (21, [some (vR 0 0 g), some (vI x), some (vI (nI j1))], [], m)) (fun h1 v9 m9 K2 => ?_) (fun h1 v9 m9 K2 => ?_) _ _ ?_
    · exact K2
    · refine an_b 1 (pc2 := 21) (L2 := [some (vR 0 0 g), some (vI (s1 + (1 : Int32))), some (vI (nI j1))]) (st2 := []) (m1 := m) rfl ?_
      exact K2
    refine an_b 2 (pc2 := 4) (L2 := [some (vR 0 0 g), some (vI (if (v_X2_isWaiting m g (nI j1)) = 0 then s1 else (s1 + (1 : Int32)))), some (vI ((nI j1) + (1 : Int32)))]) (st2 := []) (m1 := m) rfl ?_
    refine an_cL (K := [some (vR 0 0 g), some (vI (if (v_X2_isWaiting m g (nI j1)) = 0 then s1 else (s1 + (1 : Int32)))), some (vI (nI (j1 + 1)))]) (by simp only [nI_1]) ?_
    exact K1
  · show An MX2_waitingCount 4 [some (vR 0 0 g), some (vI s1), some (vI (nI 8))] [] m v9 m9
    refine an_b 3 (pc2 := if (8 : Int32) ≤ (nI 8) then 27 else 10) (L2 := [some (vR 0 0 g), some (vI s1), some (vI (nI 8))]) (st2 := []) (m1 := m) rfl ?_
    refine an_t (nI_le (a := 8) (b := 8) (by omega) (by omega)) ?_
    refine an_weak (L := [some (vR 0 0 g), some (vI s1), none]) (⟨rfl, rfl, trivial⟩) ?_
    exact K1
  show An MX2_waitingCount 27 [some (vR 0 0 g), some (vI (lp (b_X2_waitingCount_1 m g) 8 0 (0 : Int32))), none] [] m _ _
  refine an_b 1 (pc2 := 28) (L2 := [some (vR 0 0 g), some (vI (lp (b_X2_waitingCount_1 m g) 8 0 (0 : Int32))), none]) (st2 := [vI (lp (b_X2_waitingCount_1 m g) 8 0 (0 : Int32))]) (m1 := m) rfl ?_
  exact an_ret rfl rfl rfl rfl rfl
def b_X2_heldRows_1 (m : PM) (g : Nat)  (j1 : Nat) (s1 : Int32) : Int32 := (if (v_X2_holders m g (nI j1)) = 0 then s1 else (s1 + (1 : Int32)))
def v_X2_heldRows (m : PM) (g : Nat) : Int32 := (lp (b_X2_heldRows_1 m g) 12 0 (0 : Int32))
set_option maxRecDepth 100000 in
theorem r_X2_heldRows (m : PM) (g : Nat) : Rn MX2_heldRows [vR 0 0 g] m (some (vI (v_X2_heldRows m g))) m := by
  refine rn_of [some (vR 0 0 g), none, none] rfl ?_
  unfold v_X2_heldRows
  refine an_b 4 (pc2 := 4) (L2 := [some (vR 0 0 g), some (vI (0 : Int32)), some (vI (0 : Int32))]) (st2 := []) (m1 := m) rfl ?_
  refine re_lp (σ := Int32) (b_X2_heldRows_1 m g) (fun j1 s1 => (4, [some (vR 0 0 g), some (vI s1), some (vI (nI j1))], [], m)) 12 (fun s1 => (27, [some (vR 0 0 g), some (vI s1), none], [], m)) (fun j1 s1 hj1 v9 m9 K1 => ?_) (fun s1 v9 m9 K1 => ?_) 12 0 (0 : Int32) (Nat.add_zero _) _ _ ?_
  · show An MX2_heldRows 4 [some (vR 0 0 g), some (vI s1), some (vI (nI j1))] [] m v9 m9
    refine an_b 3 (pc2 := if (12 : Int32) ≤ (nI j1) then 27 else 10) (L2 := [some (vR 0 0 g), some (vI s1), some (vI (nI j1))]) (st2 := []) (m1 := m) rfl ?_
    refine an_f (nI_ge (a := j1) (b := 12) (by omega) (by omega)) ?_
    refine an_b 2 (pc2 := 12) (L2 := [some (vR 0 0 g), some (vI s1), some (vI (nI j1))]) (st2 := [vI (nI j1), vR 0 0 g]) (m1 := m) rfl ?_
    refine an_call (r_X2_holders m g (nI j1)) rfl rfl rfl rfl ?_
    refine an_b 1 (pc2 := if (v_X2_holders m g (nI j1)) = 0 then 21 else 18) (L2 := [some (vR 0 0 g), some (vI s1), some (vI (nI j1))]) (st2 := []) (m1 := m) rfl ?_
    refine re_if1 (c := (v_X2_holders m g (nI j1)) = 0) (a := s1) (b := s1 + (1 : Int32)) (fun x => (21, [some (vR 0 0 g), some (vI x), some (vI (nI j1))], [], m)) (fun h1 v9 m9 K2 => ?_) (fun h1 v9 m9 K2 => ?_) _ _ ?_
    · exact K2
    · refine an_b 1 (pc2 := 21) (L2 := [some (vR 0 0 g), some (vI (s1 + (1 : Int32))), some (vI (nI j1))]) (st2 := []) (m1 := m) rfl ?_
      exact K2
    refine an_b 2 (pc2 := 4) (L2 := [some (vR 0 0 g), some (vI (if (v_X2_holders m g (nI j1)) = 0 then s1 else (s1 + (1 : Int32)))), some (vI ((nI j1) + (1 : Int32)))]) (st2 := []) (m1 := m) rfl ?_
    refine an_cL (K := [some (vR 0 0 g), some (vI (if (v_X2_holders m g (nI j1)) = 0 then s1 else (s1 + (1 : Int32)))), some (vI (nI (j1 + 1)))]) (by simp only [nI_1]) ?_
    exact K1
  · show An MX2_heldRows 4 [some (vR 0 0 g), some (vI s1), some (vI (nI 12))] [] m v9 m9
    refine an_b 3 (pc2 := if (12 : Int32) ≤ (nI 12) then 27 else 10) (L2 := [some (vR 0 0 g), some (vI s1), some (vI (nI 12))]) (st2 := []) (m1 := m) rfl ?_
    refine an_t (nI_le (a := 12) (b := 12) (by omega) (by omega)) ?_
    refine an_weak (L := [some (vR 0 0 g), some (vI s1), none]) (⟨rfl, rfl, trivial⟩) ?_
    exact K1
  show An MX2_heldRows 27 [some (vR 0 0 g), some (vI (lp (b_X2_heldRows_1 m g) 12 0 (0 : Int32))), none] [] m _ _
  refine an_b 1 (pc2 := 28) (L2 := [some (vR 0 0 g), some (vI (lp (b_X2_heldRows_1 m g) 12 0 (0 : Int32))), none]) (st2 := [vI (lp (b_X2_heldRows_1 m g) 12 0 (0 : Int32))]) (m1 := m) rfl ?_
  exact an_ret rfl rfl rfl rfl rfl
def v_X2_handPart (m : PM) (g : Nat) (a1 : Int32) (a2 : Int32) : Int32 := (if a2 = nI 0 then (v_X2_locksOf m g a1) else (if a2 = nI 1 then (v_X2_work m g a1) else (if a2 = nI 2 then (v_X1_at m 1 g a1) else (if a2 = nI 3 then (v_X1_at m 2 g a1) else (if a2 = nI 4 then (v_X2_direct m g a1) else (if a2 = nI 5 then (v_X1_at m 6 g a1) else (if a2 = nI 6 then (v_X1_at m 7 g a1) else (if a2 = nI 7 then (v_X1_at m 8 g a1) else (v_X1_at m 9 g a1)))))))))
set_option maxRecDepth 100000 in
theorem r_X2_handPart (m : PM) (g : Nat) (a1 : Int32) (a2 : Int32) : Rn MX2_handPart [vR 0 0 g, vI a1, vI a2] m (some (vI (v_X2_handPart m g a1 a2))) m := by
  refine rn_of [some (vR 0 0 g), some (vI a1), some (vI a2)] rfl ?_
  unfold v_X2_handPart
  refine an_b 1 (pc2 := 1) (L2 := [some (vR 0 0 g), some (vI a1), some (vI a2)]) (st2 := [vI a2]) (m1 := m) rfl ?_
  refine an_tsw [48, 54, 60, 69, 78, 84, 93, 102] 111 rfl rfl rfl (by decide) ?_
  refine an_ifi (c := a2 = nI 0) (fun h1 => ?_) (fun h1 => ?_)
  · refine an_b 2 (pc2 := 50) (L2 := [some (vR 0 0 g), some (vI a1), some (vI a2)]) (st2 := [vI a1, vR 0 0 g]) (m1 := m) rfl ?_
    refine an_call (r_X2_locksOf m g a1) rfl rfl rfl rfl ?_
    exact an_ret rfl rfl rfl rfl rfl
  · refine an_ifi (c := a2 = nI 1) (fun h2 => ?_) (fun h2 => ?_)
    · refine an_b 2 (pc2 := 56) (L2 := [some (vR 0 0 g), some (vI a1), some (vI a2)]) (st2 := [vI a1, vR 0 0 g]) (m1 := m) rfl ?_
      refine an_call (r_X2_work m g a1) rfl rfl rfl rfl ?_
      exact an_ret rfl rfl rfl rfl rfl
    · refine an_ifi (c := a2 = nI 2) (fun h3 => ?_) (fun h3 => ?_)
      · refine an_b 3 (pc2 := 65) (L2 := [some (vR 0 0 g), some (vI a1), some (vI a2)]) (st2 := [vI a1, vR 1 1 g]) (m1 := m) rfl ?_
        refine an_call (r_X1_at m 1 g a1) rfl rfl rfl rfl ?_
        exact an_ret rfl rfl rfl rfl rfl
      · refine an_ifi (c := a2 = nI 3) (fun h4 => ?_) (fun h4 => ?_)
        · refine an_b 3 (pc2 := 74) (L2 := [some (vR 0 0 g), some (vI a1), some (vI a2)]) (st2 := [vI a1, vR 1 2 g]) (m1 := m) rfl ?_
          refine an_call (r_X1_at m 2 g a1) rfl rfl rfl rfl ?_
          exact an_ret rfl rfl rfl rfl rfl
        · refine an_ifi (c := a2 = nI 4) (fun h5 => ?_) (fun h5 => ?_)
          · refine an_b 2 (pc2 := 80) (L2 := [some (vR 0 0 g), some (vI a1), some (vI a2)]) (st2 := [vI a1, vR 0 0 g]) (m1 := m) rfl ?_
            refine an_call (r_X2_direct m g a1) rfl rfl rfl rfl ?_
            exact an_ret rfl rfl rfl rfl rfl
          · refine an_ifi (c := a2 = nI 5) (fun h6 => ?_) (fun h6 => ?_)
            · refine an_b 3 (pc2 := 89) (L2 := [some (vR 0 0 g), some (vI a1), some (vI a2)]) (st2 := [vI a1, vR 1 6 g]) (m1 := m) rfl ?_
              refine an_call (r_X1_at m 6 g a1) rfl rfl rfl rfl ?_
              exact an_ret rfl rfl rfl rfl rfl
            · refine an_ifi (c := a2 = nI 6) (fun h7 => ?_) (fun h7 => ?_)
              · refine an_b 3 (pc2 := 98) (L2 := [some (vR 0 0 g), some (vI a1), some (vI a2)]) (st2 := [vI a1, vR 1 7 g]) (m1 := m) rfl ?_
                refine an_call (r_X1_at m 7 g a1) rfl rfl rfl rfl ?_
                exact an_ret rfl rfl rfl rfl rfl
              · refine an_ifi (c := a2 = nI 7) (fun h8 => ?_) (fun h8 => ?_)
                · refine an_b 3 (pc2 := 107) (L2 := [some (vR 0 0 g), some (vI a1), some (vI a2)]) (st2 := [vI a1, vR 1 8 g]) (m1 := m) rfl ?_
                  refine an_call (r_X1_at m 8 g a1) rfl rfl rfl rfl ?_
                  exact an_ret rfl rfl rfl rfl rfl
                · refine an_b 3 (pc2 := 116) (L2 := [some (vR 0 0 g), some (vI a1), some (vI a2)]) (st2 := [vI a1, vR 1 9 g]) (m1 := m) rfl ?_
                  refine an_call (r_X1_at m 9 g a1) rfl rfl rfl rfl ?_
                  exact an_ret rfl rfl rfl rfl rfl
def v_X2_rowPart (m : PM) (g : Nat) (a1 : Int32) (a2 : Int32) : Int32 := (if a2 = nI 0 then (v_X1_at m 4 g a1) else (if a2 = nI 1 then (v_X2_greatestMode m g a1) else (if a2 = nI 2 then (v_X2_holders m g a1) else (if a2 = nI 3 then (v_X2_queueLength m g a1) else (if a2 = nI 4 then (v_X1_at m 5 g a1) else (v_X2_handAt m g a1 (0 : Int32)))))))
set_option maxRecDepth 100000 in
theorem r_X2_rowPart (m : PM) (g : Nat) (a1 : Int32) (a2 : Int32) : Rn MX2_rowPart [vR 0 0 g, vI a1, vI a2] m (some (vI (v_X2_rowPart m g a1 a2))) m := by
  refine rn_of [some (vR 0 0 g), some (vI a1), some (vI a2)] rfl ?_
  unfold v_X2_rowPart
  refine an_b 1 (pc2 := 1) (L2 := [some (vR 0 0 g), some (vI a1), some (vI a2)]) (st2 := [vI a2]) (m1 := m) rfl ?_
  refine an_tsw [36, 45, 51, 57, 63] 72 rfl rfl rfl (by decide) ?_
  refine an_ifi (c := a2 = nI 0) (fun h1 => ?_) (fun h1 => ?_)
  · refine an_b 3 (pc2 := 41) (L2 := [some (vR 0 0 g), some (vI a1), some (vI a2)]) (st2 := [vI a1, vR 1 4 g]) (m1 := m) rfl ?_
    refine an_call (r_X1_at m 4 g a1) rfl rfl rfl rfl ?_
    exact an_ret rfl rfl rfl rfl rfl
  · refine an_ifi (c := a2 = nI 1) (fun h2 => ?_) (fun h2 => ?_)
    · refine an_b 2 (pc2 := 47) (L2 := [some (vR 0 0 g), some (vI a1), some (vI a2)]) (st2 := [vI a1, vR 0 0 g]) (m1 := m) rfl ?_
      refine an_call (r_X2_greatestMode m g a1) rfl rfl rfl rfl ?_
      exact an_ret rfl rfl rfl rfl rfl
    · refine an_ifi (c := a2 = nI 2) (fun h3 => ?_) (fun h3 => ?_)
      · refine an_b 2 (pc2 := 53) (L2 := [some (vR 0 0 g), some (vI a1), some (vI a2)]) (st2 := [vI a1, vR 0 0 g]) (m1 := m) rfl ?_
        refine an_call (r_X2_holders m g a1) rfl rfl rfl rfl ?_
        exact an_ret rfl rfl rfl rfl rfl
      · refine an_ifi (c := a2 = nI 3) (fun h4 => ?_) (fun h4 => ?_)
        · refine an_b 2 (pc2 := 59) (L2 := [some (vR 0 0 g), some (vI a1), some (vI a2)]) (st2 := [vI a1, vR 0 0 g]) (m1 := m) rfl ?_
          refine an_call (r_X2_queueLength m g a1) rfl rfl rfl rfl ?_
          exact an_ret rfl rfl rfl rfl rfl
        · refine an_ifi (c := a2 = nI 4) (fun h5 => ?_) (fun h5 => ?_)
          · refine an_b 3 (pc2 := 68) (L2 := [some (vR 0 0 g), some (vI a1), some (vI a2)]) (st2 := [vI a1, vR 1 5 g]) (m1 := m) rfl ?_
            refine an_call (r_X1_at m 5 g a1) rfl rfl rfl rfl ?_
            exact an_ret rfl rfl rfl rfl rfl
          · refine an_b 3 (pc2 := 75) (L2 := [some (vR 0 0 g), some (vI a1), some (vI a2)]) (st2 := [vI (0 : Int32), vI a1, vR 0 0 g]) (m1 := m) rfl ?_
            refine an_call (r_X2_handAt m g a1 (0 : Int32)) rfl rfl rfl rfl ?_
            exact an_ret rfl rfl rfl rfl rfl
def v_X2_requestPart (m : PM) (g : Nat) (a1 : Int32) (a2 : Int32) (a3 : Int32) : Int32 := (if (v_X2_handAt m g a1 a2) = (-1 : Int32) then (v_X2_handAt m g a1 a2) else (if ¬ a3 = 0 then (v_X1_at m 2 g (v_X2_handAt m g a1 a2)) else (v_X2_handAt m g a1 a2)))
set_option maxRecDepth 100000 in
theorem r_X2_requestPart (m : PM) (g : Nat) (a1 : Int32) (a2 : Int32) (a3 : Int32) : Rn MX2_requestPart [vR 0 0 g, vI a1, vI a2, vI a3] m (some (vI (v_X2_requestPart m g a1 a2 a3))) m := by
  refine rn_of [some (vR 0 0 g), some (vI a1), some (vI a2), some (vI a3), none] rfl ?_
  unfold v_X2_requestPart
  refine an_b 3 (pc2 := 3) (L2 := [some (vR 0 0 g), some (vI a1), some (vI a2), some (vI a3), none]) (st2 := [vI a2, vI a1, vR 0 0 g]) (m1 := m) rfl ?_
  refine an_call (r_X2_handAt m g a1 a2) rfl rfl rfl rfl ?_
  refine an_b 4 (pc2 := if (v_X2_handAt m g a1 a2) = (-1 : Int32) then 18 else 14) (L2 := [some (vR 0 0 g), some (vI a1), some (vI a2), some (vI a3), some (vI (v_X2_handAt m g a1 a2))]) (st2 := []) (m1 := m) rfl ?_
  refine an_ifi (c := (v_X2_handAt m g a1 a2) = (-1 : Int32)) (fun h1 => ?_) (fun h1 => ?_)
  · refine an_b 2 (pc2 := 32) (L2 := [some (vR 0 0 g), some (vI a1), some (vI a2), some (vI a3), some (vI (v_X2_handAt m g a1 a2))]) (st2 := [vI (v_X2_handAt m g a1 a2)]) (m1 := m) rfl ?_
    exact an_ret rfl rfl rfl rfl rfl
  · refine an_b 2 (pc2 := if ¬ a3 = 0 then 23 else 18) (L2 := [some (vR 0 0 g), some (vI a1), some (vI a2), some (vI a3), some (vI (v_X2_handAt m g a1 a2))]) (st2 := []) (m1 := m) rfl ?_
    refine an_ifi (c := ¬ a3 = 0) (fun h2 => ?_) (fun h2 => ?_)
    · refine an_b 3 (pc2 := 29) (L2 := [some (vR 0 0 g), some (vI a1), some (vI a2), some (vI a3), some (vI (v_X2_handAt m g a1 a2))]) (st2 := [vI (v_X2_handAt m g a1 a2), vR 1 2 g]) (m1 := m) rfl ?_
      refine an_call (r_X1_at m 2 g (v_X2_handAt m g a1 a2)) rfl rfl rfl rfl ?_
      exact an_ret rfl rfl rfl rfl rfl
    · refine an_b 2 (pc2 := 32) (L2 := [some (vR 0 0 g), some (vI a1), some (vI a2), some (vI a3), some (vI (v_X2_handAt m g a1 a2))]) (st2 := [vI (v_X2_handAt m g a1 a2)]) (m1 := m) rfl ?_
      exact an_ret rfl rfl rfl rfl rfl
def v_X2_total (m : PM) (g : Nat) (a1 : Int32) : Int32 := (if a1 = nI 0 then (v_X2_lockCount m g) else (if a1 = nI 1 then (v_X2_waitingCount m g) else (if a1 = nI 2 then (m.1 0 0 g 11) else (if a1 = nI 3 then (v_X1_sum m 6 g) else (if a1 = nI 4 then (v_X1_sum m 7 g) else (if a1 = nI 5 then (v_X1_sum m 5 g) else (if a1 = nI 6 then (v_X1_sum m 8 g) else (if a1 = nI 7 then (v_X1_sum m 9 g) else (v_X2_heldRows m g)))))))))
set_option maxRecDepth 100000 in
theorem r_X2_total (m : PM) (g : Nat) (a1 : Int32) : Rn MX2_total [vR 0 0 g, vI a1] m (some (vI (v_X2_total m g a1))) m := by
  refine rn_of [some (vR 0 0 g), some (vI a1)] rfl ?_
  unfold v_X2_total
  refine an_b 1 (pc2 := 1) (L2 := [some (vR 0 0 g), some (vI a1)]) (st2 := [vI a1]) (m1 := m) rfl ?_
  refine an_tsw [48, 53, 58, 63, 71, 79, 87, 95] 103 rfl rfl rfl (by decide) ?_
  refine an_ifi (c := a1 = nI 0) (fun h1 => ?_) (fun h1 => ?_)
  · refine an_b 1 (pc2 := 49) (L2 := [some (vR 0 0 g), some (vI a1)]) (st2 := [vR 0 0 g]) (m1 := m) rfl ?_
    refine an_call (r_X2_lockCount m g) rfl rfl rfl rfl ?_
    exact an_ret rfl rfl rfl rfl rfl
  · refine an_ifi (c := a1 = nI 1) (fun h2 => ?_) (fun h2 => ?_)
    · refine an_b 1 (pc2 := 54) (L2 := [some (vR 0 0 g), some (vI a1)]) (st2 := [vR 0 0 g]) (m1 := m) rfl ?_
      refine an_call (r_X2_waitingCount m g) rfl rfl rfl rfl ?_
      exact an_ret rfl rfl rfl rfl rfl
    · refine an_ifi (c := a1 = nI 2) (fun h3 => ?_) (fun h3 => ?_)
      · refine an_b 2 (pc2 := 62) (L2 := [some (vR 0 0 g), some (vI a1)]) (st2 := [vI (m.1 0 0 g 11)]) (m1 := m) rfl ?_
        exact an_ret rfl rfl rfl rfl rfl
      · refine an_ifi (c := a1 = nI 3) (fun h4 => ?_) (fun h4 => ?_)
        · refine an_b 2 (pc2 := 67) (L2 := [some (vR 0 0 g), some (vI a1)]) (st2 := [vR 1 6 g]) (m1 := m) rfl ?_
          refine an_call (r_X1_sum m 6 g) rfl rfl rfl rfl ?_
          exact an_ret rfl rfl rfl rfl rfl
        · refine an_ifi (c := a1 = nI 4) (fun h5 => ?_) (fun h5 => ?_)
          · refine an_b 2 (pc2 := 75) (L2 := [some (vR 0 0 g), some (vI a1)]) (st2 := [vR 1 7 g]) (m1 := m) rfl ?_
            refine an_call (r_X1_sum m 7 g) rfl rfl rfl rfl ?_
            exact an_ret rfl rfl rfl rfl rfl
          · refine an_ifi (c := a1 = nI 5) (fun h6 => ?_) (fun h6 => ?_)
            · refine an_b 2 (pc2 := 83) (L2 := [some (vR 0 0 g), some (vI a1)]) (st2 := [vR 1 5 g]) (m1 := m) rfl ?_
              refine an_call (r_X1_sum m 5 g) rfl rfl rfl rfl ?_
              exact an_ret rfl rfl rfl rfl rfl
            · refine an_ifi (c := a1 = nI 6) (fun h7 => ?_) (fun h7 => ?_)
              · refine an_b 2 (pc2 := 91) (L2 := [some (vR 0 0 g), some (vI a1)]) (st2 := [vR 1 8 g]) (m1 := m) rfl ?_
                refine an_call (r_X1_sum m 8 g) rfl rfl rfl rfl ?_
                exact an_ret rfl rfl rfl rfl rfl
              · refine an_ifi (c := a1 = nI 7) (fun h8 => ?_) (fun h8 => ?_)
                · refine an_b 2 (pc2 := 99) (L2 := [some (vR 0 0 g), some (vI a1)]) (st2 := [vR 1 9 g]) (m1 := m) rfl ?_
                  refine an_call (r_X1_sum m 9 g) rfl rfl rfl rfl ?_
                  exact an_ret rfl rfl rfl rfl rfl
                · refine an_b 1 (pc2 := 104) (L2 := [some (vR 0 0 g), some (vI a1)]) (st2 := [vR 0 0 g]) (m1 := m) rfl ?_
                  refine an_call (r_X2_heldRows m g) rfl rfl rfl rfl ?_
                  exact an_ret rfl rfl rfl rfl rfl
def v_X4_isHand (m : PM) (a1 : Int32) : Int32 := (if a1 < 0 then (0 : Int32) else (if (8 : Int32) ≤ a1 then (0 : Int32) else (1 : Int32)))
set_option maxRecDepth 100000 in
theorem r_X4_isHand (m : PM) (a1 : Int32) : Rn MX4_isHand [vI a1] m (some (vI (v_X4_isHand m a1))) m := by
  refine rn_of [some (vI a1)] rfl ?_
  unfold v_X4_isHand
  refine an_b 2 (pc2 := if a1 < 0 then 14 else 4) (L2 := [some (vI a1)]) (st2 := []) (m1 := m) rfl ?_
  refine an_ifi (c := a1 < 0) (fun h1 => ?_) (fun h1 => ?_)
  · refine an_b 1 (pc2 := 15) (L2 := [some (vI a1)]) (st2 := [vI (0 : Int32)]) (m1 := m) rfl ?_
    exact an_ret rfl rfl rfl rfl rfl
  · refine an_b 3 (pc2 := if (8 : Int32) ≤ a1 then 14 else 10) (L2 := [some (vI a1)]) (st2 := []) (m1 := m) rfl ?_
    refine an_ifi (c := (8 : Int32) ≤ a1) (fun h2 => ?_) (fun h2 => ?_)
    · refine an_b 1 (pc2 := 15) (L2 := [some (vI a1)]) (st2 := [vI (0 : Int32)]) (m1 := m) rfl ?_
      exact an_ret rfl rfl rfl rfl rfl
    · refine an_b 2 (pc2 := 15) (L2 := [some (vI a1)]) (st2 := [vI (1 : Int32)]) (m1 := m) rfl ?_
      exact an_ret rfl rfl rfl rfl rfl
def v_X4_isRow (m : PM) (a1 : Int32) : Int32 := (if a1 < 0 then (0 : Int32) else (if (12 : Int32) ≤ a1 then (0 : Int32) else (1 : Int32)))
set_option maxRecDepth 100000 in
theorem r_X4_isRow (m : PM) (a1 : Int32) : Rn MX4_isRow [vI a1] m (some (vI (v_X4_isRow m a1))) m := by
  refine rn_of [some (vI a1)] rfl ?_
  unfold v_X4_isRow
  refine an_b 2 (pc2 := if a1 < 0 then 14 else 4) (L2 := [some (vI a1)]) (st2 := []) (m1 := m) rfl ?_
  refine an_ifi (c := a1 < 0) (fun h1 => ?_) (fun h1 => ?_)
  · refine an_b 1 (pc2 := 15) (L2 := [some (vI a1)]) (st2 := [vI (0 : Int32)]) (m1 := m) rfl ?_
    exact an_ret rfl rfl rfl rfl rfl
  · refine an_b 3 (pc2 := if (12 : Int32) ≤ a1 then 14 else 10) (L2 := [some (vI a1)]) (st2 := []) (m1 := m) rfl ?_
    refine an_ifi (c := (12 : Int32) ≤ a1) (fun h2 => ?_) (fun h2 => ?_)
    · refine an_b 1 (pc2 := 15) (L2 := [some (vI a1)]) (st2 := [vI (0 : Int32)]) (m1 := m) rfl ?_
      exact an_ret rfl rfl rfl rfl rfl
    · refine an_b 2 (pc2 := 15) (L2 := [some (vI a1)]) (st2 := [vI (1 : Int32)]) (m1 := m) rfl ?_
      exact an_ret rfl rfl rfl rfl rfl
def v_X4_isMode (m : PM) (a1 : Int32) : Int32 := (if a1 < (1 : Int32) then (0 : Int32) else (if (3 : Int32) < a1 then (0 : Int32) else (1 : Int32)))
set_option maxRecDepth 100000 in
theorem r_X4_isMode (m : PM) (a1 : Int32) : Rn MX4_isMode [vI a1] m (some (vI (v_X4_isMode m a1))) m := by
  refine rn_of [some (vI a1)] rfl ?_
  unfold v_X4_isMode
  refine an_b 3 (pc2 := if a1 < (1 : Int32) then 14 else 5) (L2 := [some (vI a1)]) (st2 := []) (m1 := m) rfl ?_
  refine an_ifi (c := a1 < (1 : Int32)) (fun h1 => ?_) (fun h1 => ?_)
  · refine an_b 1 (pc2 := 15) (L2 := [some (vI a1)]) (st2 := [vI (0 : Int32)]) (m1 := m) rfl ?_
    exact an_ret rfl rfl rfl rfl rfl
  · refine an_b 3 (pc2 := if (3 : Int32) < a1 then 14 else 10) (L2 := [some (vI a1)]) (st2 := []) (m1 := m) rfl ?_
    refine an_ifi (c := (3 : Int32) < a1) (fun h2 => ?_) (fun h2 => ?_)
    · refine an_b 1 (pc2 := 15) (L2 := [some (vI a1)]) (st2 := [vI (0 : Int32)]) (m1 := m) rfl ?_
      exact an_ret rfl rfl rfl rfl rfl
    · refine an_b 2 (pc2 := 15) (L2 := [some (vI a1)]) (st2 := [vI (1 : Int32)]) (m1 := m) rfl ?_
      exact an_ret rfl rfl rfl rfl rfl
def v_X4_isSetting (m : PM) (a1 : Int32) : Int32 := (if a1 < 0 then (0 : Int32) else (if (3 : Int32) ≤ a1 then (0 : Int32) else (1 : Int32)))
set_option maxRecDepth 100000 in
theorem r_X4_isSetting (m : PM) (a1 : Int32) : Rn MX4_isSetting [vI a1] m (some (vI (v_X4_isSetting m a1))) m := by
  refine rn_of [some (vI a1)] rfl ?_
  unfold v_X4_isSetting
  refine an_b 2 (pc2 := if a1 < 0 then 13 else 4) (L2 := [some (vI a1)]) (st2 := []) (m1 := m) rfl ?_
  refine an_ifi (c := a1 < 0) (fun h1 => ?_) (fun h1 => ?_)
  · refine an_b 1 (pc2 := 14) (L2 := [some (vI a1)]) (st2 := [vI (0 : Int32)]) (m1 := m) rfl ?_
    exact an_ret rfl rfl rfl rfl rfl
  · refine an_b 3 (pc2 := if (3 : Int32) ≤ a1 then 13 else 9) (L2 := [some (vI a1)]) (st2 := []) (m1 := m) rfl ?_
    refine an_ifi (c := (3 : Int32) ≤ a1) (fun h2 => ?_) (fun h2 => ?_)
    · refine an_b 1 (pc2 := 14) (L2 := [some (vI a1)]) (st2 := [vI (0 : Int32)]) (m1 := m) rfl ?_
      exact an_ret rfl rfl rfl rfl rfl
    · refine an_b 2 (pc2 := 14) (L2 := [some (vI a1)]) (st2 := [vI (1 : Int32)]) (m1 := m) rfl ?_
      exact an_ret rfl rfl rfl rfl rfl
def v_X4_leastValue (m : PM) (a1 : Int32) : Int32 := (if ¬ a1 = 0 then (0 : Int32) else (10 : Int32))
set_option maxRecDepth 100000 in
theorem r_X4_leastValue (m : PM) (a1 : Int32) : Rn MX4_leastValue [vI a1] m (some (vI (v_X4_leastValue m a1))) m := by
  refine rn_of [some (vI a1)] rfl ?_
  unfold v_X4_leastValue
  refine an_b 2 (pc2 := if ¬ a1 = 0 then 9 else 4) (L2 := [some (vI a1)]) (st2 := []) (m1 := m) rfl ?_
  refine an_ifi (c := ¬ a1 = 0) (fun h1 => ?_) (fun h1 => ?_)
  · refine an_b 1 (pc2 := 10) (L2 := [some (vI a1)]) (st2 := [vI (0 : Int32)]) (m1 := m) rfl ?_
    exact an_ret rfl rfl rfl rfl rfl
  · refine an_b 2 (pc2 := 10) (L2 := [some (vI a1)]) (st2 := [vI (10 : Int32)]) (m1 := m) rfl ?_
    exact an_ret rfl rfl rfl rfl rfl
def v_X4_greatestValue (m : PM) (a1 : Int32) : Int32 := (if ¬ a1 = 0 then (if ¬ a1 = (1 : Int32) then (50 : Int32) else (20 : Int32)) else (900 : Int32))
set_option maxRecDepth 100000 in
theorem r_X4_greatestValue (m : PM) (a1 : Int32) : Rn MX4_greatestValue [vI a1] m (some (vI (v_X4_greatestValue m a1))) m := by
  refine rn_of [some (vI a1)] rfl ?_
  unfold v_X4_greatestValue
  refine an_b 2 (pc2 := if ¬ a1 = 0 then 8 else 4) (L2 := [some (vI a1)]) (st2 := []) (m1 := m) rfl ?_
  refine an_ifi (c := ¬ a1 = 0) (fun h1 => ?_) (fun h1 => ?_)
  · refine an_b 3 (pc2 := if ¬ a1 = (1 : Int32) then 18 else 13) (L2 := [some (vI a1)]) (st2 := []) (m1 := m) rfl ?_
    refine an_ifi (c := ¬ a1 = (1 : Int32)) (fun h2 => ?_) (fun h2 => ?_)
    · refine an_b 1 (pc2 := 20) (L2 := [some (vI a1)]) (st2 := [vI (50 : Int32)]) (m1 := m) rfl ?_
      exact an_ret rfl rfl rfl rfl rfl
    · refine an_b 2 (pc2 := 20) (L2 := [some (vI a1)]) (st2 := [vI (20 : Int32)]) (m1 := m) rfl ?_
      exact an_ret rfl rfl rfl rfl rfl
  · refine an_b 1 (pc2 := 7) (L2 := [some (vI a1)]) (st2 := [vI (900 : Int32)]) (m1 := m) rfl ?_
    exact an_ret rfl rfl rfl rfl rfl
def v_X4_numberOf (m : PM) (a1 : Int32) : Int32 := (if ¬ a1 = (9 : Int32) then (v_X2_total m 0 a1) else (m.1 4 0 0 2))
set_option maxRecDepth 100000 in
theorem r_X4_numberOf (m : PM) (a1 : Int32) : Rn MX4_numberOf [vR 3 0 0, vI a1] m (some (vI (v_X4_numberOf m a1))) m := by
  refine rn_of [some (vR 3 0 0), some (vI a1)] rfl ?_
  unfold v_X4_numberOf
  refine an_b 3 (pc2 := if ¬ a1 = (9 : Int32) then 16 else 6) (L2 := [some (vR 3 0 0), some (vI a1)]) (st2 := []) (m1 := m) rfl ?_
  refine an_ifi (c := ¬ a1 = (9 : Int32)) (fun h1 => ?_) (fun h1 => ?_)
  · refine an_b 3 (pc2 := 21) (L2 := [some (vR 3 0 0), some (vI a1)]) (st2 := [vI a1, vR 0 0 0]) (m1 := m) rfl ?_
    refine an_call (r_X2_total m 0 a1) rfl rfl rfl rfl ?_
    exact an_ret rfl rfl rfl rfl rfl
  · refine an_b 4 (pc2 := 24) (L2 := [some (vR 3 0 0), some (vI a1)]) (st2 := [vI (m.1 4 0 0 2)]) (m1 := m) rfl ?_
    exact an_ret rfl rfl rfl rfl rfl
