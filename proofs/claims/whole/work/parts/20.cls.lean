def w_X2_copyFrom (m : PM) (g : Nat) (g1 : Nat) : PM := (wI (w_X1_copyFrom (w_X1_copyFrom (w_X1_copyFrom (w_X1_copyFrom (w_X1_copyFrom (w_X1_copyFrom (w_X1_copyFrom (w_X1_copyFrom (w_X1_copyFrom (w_X1_copyFrom (w_X1_copyFrom m 0 g 0 g1) 1 g 1 g1) 2 g 2 g1) 3 g 3 g1) 4 g 4 g1) 5 g 5 g1) 6 g 6 g1) 7 g 7 g1) 8 g 8 g1) 9 g 9 g1) 10 g 10 g1) 0 0 g 11 ((w_X1_copyFrom (w_X1_copyFrom (w_X1_copyFrom (w_X1_copyFrom (w_X1_copyFrom (w_X1_copyFrom (w_X1_copyFrom (w_X1_copyFrom (w_X1_copyFrom (w_X1_copyFrom (w_X1_copyFrom m 0 g 0 g1) 1 g 1 g1) 2 g 2 g1) 3 g 3 g1) 4 g 4 g1) 5 g 5 g1) 6 g 6 g1) 7 g 7 g1) 8 g 8 g1) 9 g 9 g1) 10 g 10 g1).1 0 0 g1 11))
set_option maxRecDepth 100000 in
theorem r_X2_copyFrom (m : PM) (g : Nat) (g1 : Nat) : Rn MX2_copyFrom [vR 0 0 g, vR 0 0 g1] m none (w_X2_copyFrom m g g1) := by
  refine rn_of [some (vR 0 0 g), some (vR 0 0 g1)] rfl ?_
  unfold w_X2_copyFrom
  refine an_b 6 (pc2 := 13) (L2 := [some (vR 0 0 g), some (vR 0 0 g1)]) (st2 := [vR 1 0 g1, vR 1 0 g]) (m1 := m) rfl ?_
  refine an_call (r_X1_copyFrom m 0 g 0 g1) rfl rfl rfl rfl ?_
  refine an_b 4 (pc2 := 24) (L2 := [some (vR 0 0 g), some (vR 0 0 g1)]) (st2 := [vR 1 1 g1, vR 1 1 g]) (m1 := (w_X1_copyFrom m 0 g 0 g1)) rfl ?_
  refine an_call (r_X1_copyFrom (w_X1_copyFrom m 0 g 0 g1) 1 g 1 g1) rfl rfl rfl rfl ?_
  refine an_b 4 (pc2 := 35) (L2 := [some (vR 0 0 g), some (vR 0 0 g1)]) (st2 := [vR 1 2 g1, vR 1 2 g]) (m1 := (w_X1_copyFrom (w_X1_copyFrom m 0 g 0 g1) 1 g 1 g1)) rfl ?_
  refine an_call (r_X1_copyFrom (w_X1_copyFrom (w_X1_copyFrom m 0 g 0 g1) 1 g 1 g1) 2 g 2 g1) rfl rfl rfl rfl ?_
  refine an_b 4 (pc2 := 46) (L2 := [some (vR 0 0 g), some (vR 0 0 g1)]) (st2 := [vR 1 3 g1, vR 1 3 g]) (m1 := (w_X1_copyFrom (w_X1_copyFrom (w_X1_copyFrom m 0 g 0 g1) 1 g 1 g1) 2 g 2 g1)) rfl ?_
  refine an_call (r_X1_copyFrom (w_X1_copyFrom (w_X1_copyFrom (w_X1_copyFrom m 0 g 0 g1) 1 g 1 g1) 2 g 2 g1) 3 g 3 g1) rfl rfl rfl rfl ?_
  refine an_b 4 (pc2 := 57) (L2 := [some (vR 0 0 g), some (vR 0 0 g1)]) (st2 := [vR 1 4 g1, vR 1 4 g]) (m1 := (w_X1_copyFrom (w_X1_copyFrom (w_X1_copyFrom (w_X1_copyFrom m 0 g 0 g1) 1 g 1 g1) 2 g 2 g1) 3 g 3 g1)) rfl ?_
  refine an_call (r_X1_copyFrom (w_X1_copyFrom (w_X1_copyFrom (w_X1_copyFrom (w_X1_copyFrom m 0 g 0 g1) 1 g 1 g1) 2 g 2 g1) 3 g 3 g1) 4 g 4 g1) rfl rfl rfl rfl ?_
  refine an_b 4 (pc2 := 68) (L2 := [some (vR 0 0 g), some (vR 0 0 g1)]) (st2 := [vR 1 5 g1, vR 1 5 g]) (m1 := (w_X1_copyFrom (w_X1_copyFrom (w_X1_copyFrom (w_X1_copyFrom (w_X1_copyFrom m 0 g 0 g1) 1 g 1 g1) 2 g 2 g1) 3 g 3 g1) 4 g 4 g1)) rfl ?_
  refine an_call (r_X1_copyFrom (w_X1_copyFrom (w_X1_copyFrom (w_X1_copyFrom (w_X1_copyFrom (w_X1_copyFrom m 0 g 0 g1) 1 g 1 g1) 2 g 2 g1) 3 g 3 g1) 4 g 4 g1) 5 g 5 g1) rfl rfl rfl rfl ?_
  refine an_b 4 (pc2 := 79) (L2 := [some (vR 0 0 g), some (vR 0 0 g1)]) (st2 := [vR 1 6 g1, vR 1 6 g]) (m1 := (w_X1_copyFrom (w_X1_copyFrom (w_X1_copyFrom (w_X1_copyFrom (w_X1_copyFrom (w_X1_copyFrom m 0 g 0 g1) 1 g 1 g1) 2 g 2 g1) 3 g 3 g1) 4 g 4 g1) 5 g 5 g1)) rfl ?_
  refine an_call (r_X1_copyFrom (w_X1_copyFrom (w_X1_copyFrom (w_X1_copyFrom (w_X1_copyFrom (w_X1_copyFrom (w_X1_copyFrom m 0 g 0 g1) 1 g 1 g1) 2 g 2 g1) 3 g 3 g1) 4 g 4 g1) 5 g 5 g1) 6 g 6 g1) rfl rfl rfl rfl ?_
  refine an_b 4 (pc2 := 90) (L2 := [some (vR 0 0 g), some (vR 0 0 g1)]) (st2 := [vR 1 7 g1, vR 1 7 g]) (m1 := (w_X1_copyFrom (w_X1_copyFrom (w_X1_copyFrom (w_X1_copyFrom (w_X1_copyFrom (w_X1_copyFrom (w_X1_copyFrom m 0 g 0 g1) 1 g 1 g1) 2 g 2 g1) 3 g 3 g1) 4 g 4 g1) 5 g 5 g1) 6 g 6 g1)) rfl ?_
  refine an_call (r_X1_copyFrom (w_X1_copyFrom (w_X1_copyFrom (w_X1_copyFrom (w_X1_copyFrom (w_X1_copyFrom (w_X1_copyFrom (w_X1_copyFrom m 0 g 0 g1) 1 g 1 g1) 2 g 2 g1) 3 g 3 g1) 4 g 4 g1) 5 g 5 g1) 6 g 6 g1) 7 g 7 g1) rfl rfl rfl rfl ?_
  refine an_b 4 (pc2 := 101) (L2 := [some (vR 0 0 g), some (vR 0 0 g1)]) (st2 := [vR 1 8 g1, vR 1 8 g]) (m1 := (w_X1_copyFrom (w_X1_copyFrom (w_X1_copyFrom (w_X1_copyFrom (w_X1_copyFrom (w_X1_copyFrom (w_X1_copyFrom (w_X1_copyFrom m 0 g 0 g1) 1 g 1 g1) 2 g 2 g1) 3 g 3 g1) 4 g 4 g1) 5 g 5 g1) 6 g 6 g1) 7 g 7 g1)) rfl ?_
  refine an_call (r_X1_copyFrom (w_X1_copyFrom (w_X1_copyFrom (w_X1_copyFrom (w_X1_copyFrom (w_X1_copyFrom (w_X1_copyFrom (w_X1_copyFrom (w_X1_copyFrom m 0 g 0 g1) 1 g 1 g1) 2 g 2 g1) 3 g 3 g1) 4 g 4 g1) 5 g 5 g1) 6 g 6 g1) 7 g 7 g1) 8 g 8 g1) rfl rfl rfl rfl ?_
  refine an_b 4 (pc2 := 112) (L2 := [some (vR 0 0 g), some (vR 0 0 g1)]) (st2 := [vR 1 9 g1, vR 1 9 g]) (m1 := (w_X1_copyFrom (w_X1_copyFrom (w_X1_copyFrom (w_X1_copyFrom (w_X1_copyFrom (w_X1_copyFrom (w_X1_copyFrom (w_X1_copyFrom (w_X1_copyFrom m 0 g 0 g1) 1 g 1 g1) 2 g 2 g1) 3 g 3 g1) 4 g 4 g1) 5 g 5 g1) 6 g 6 g1) 7 g 7 g1) 8 g 8 g1)) rfl ?_
  refine an_call (r_X1_copyFrom (w_X1_copyFrom (w_X1_copyFrom (w_X1_copyFrom (w_X1_copyFrom (w_X1_copyFrom (w_X1_copyFrom (w_X1_copyFrom (w_X1_copyFrom (w_X1_copyFrom m 0 g 0 g1) 1 g 1 g1) 2 g 2 g1) 3 g 3 g1) 4 g 4 g1) 5 g 5 g1) 6 g 6 g1) 7 g 7 g1) 8 g 8 g1) 9 g 9 g1) rfl rfl rfl rfl ?_
  refine an_b 4 (pc2 := 123) (L2 := [some (vR 0 0 g), some (vR 0 0 g1)]) (st2 := [vR 1 10 g1, vR 1 10 g]) (m1 := (w_X1_copyFrom (w_X1_copyFrom (w_X1_copyFrom (w_X1_copyFrom (w_X1_copyFrom (w_X1_copyFrom (w_X1_copyFrom (w_X1_copyFrom (w_X1_copyFrom (w_X1_copyFrom m 0 g 0 g1) 1 g 1 g1) 2 g 2 g1) 3 g 3 g1) 4 g 4 g1) 5 g 5 g1) 6 g 6 g1) 7 g 7 g1) 8 g 8 g1) 9 g 9 g1)) rfl ?_
  refine an_call (r_X1_copyFrom (w_X1_copyFrom (w_X1_copyFrom (w_X1_copyFrom (w_X1_copyFrom (w_X1_copyFrom (w_X1_copyFrom (w_X1_copyFrom (w_X1_copyFrom (w_X1_copyFrom (w_X1_copyFrom m 0 g 0 g1) 1 g 1 g1) 2 g 2 g1) 3 g 3 g1) 4 g 4 g1) 5 g 5 g1) 6 g 6 g1) 7 g 7 g1) 8 g 8 g1) 9 g 9 g1) 10 g 10 g1) rfl rfl rfl rfl ?_
  refine an_b 4 (pc2 := 134) (L2 := [some (vR 0 0 g), some (vR 0 0 g1)]) (st2 := []) (m1 := (wI (w_X1_copyFrom (w_X1_copyFrom (w_X1_copyFrom (w_X1_copyFrom (w_X1_copyFrom (w_X1_copyFrom (w_X1_copyFrom (w_X1_copyFrom (w_X1_copyFrom (w_X1_copyFrom (w_X1_copyFrom m 0 g 0 g1) 1 g 1 g1) 2 g 2 g1) 3 g 3 g1) 4 g 4 g1) 5 g 5 g1) 6 g 6 g1) 7 g 7 g1) 8 g 8 g1) 9 g 9 g1) 10 g 10 g1) 0 0 g 11 ((w_X1_copyFrom (w_X1_copyFrom (w_X1_copyFrom (w_X1_copyFrom (w_X1_copyFrom (w_X1_copyFrom (w_X1_copyFrom (w_X1_copyFrom (w_X1_copyFrom (w_X1_copyFrom (w_X1_copyFrom m 0 g 0 g1) 1 g 1 g1) 2 g 2 g1) 3 g 3 g1) 4 g 4 g1) 5 g 5 g1) 6 g 6 g1) 7 g 7 g1) 8 g 8 g1) 9 g 9 g1) 10 g 10 g1).1 0 0 g1 11))) rfl ?_
  exact an_ret rfl rfl rfl rfl rfl
def w_X1_raise (m : PM) (k : Nat) (g : Nat) (a1 : Int32) : PM := (w_X1_put m k g a1 ((v_X1_at m k g a1) + (1 : Int32)))
set_option maxRecDepth 100000 in
theorem r_X1_raise (m : PM) (k : Nat) (g : Nat) (a1 : Int32) : Rn MX1_raise [vR 1 k g, vI a1] m none (w_X1_raise m k g a1) := by
  refine rn_of [some (vR 1 k g), some (vI a1)] rfl ?_
  unfold w_X1_raise
  refine an_b 4 (pc2 := 4) (L2 := [some (vR 1 k g), some (vI a1)]) (st2 := [vI a1, vR 1 k g, vI a1, vR 1 k g]) (m1 := m) rfl ?_
  refine an_call (r_X1_at m k g a1) rfl rfl rfl rfl ?_
  refine an_b 2 (pc2 := 9) (L2 := [some (vR 1 k g), some (vI a1)]) (st2 := [vI ((v_X1_at m k g a1) + (1 : Int32)), vI a1, vR 1 k g]) (m1 := m) rfl ?_
  refine an_call (r_X1_put m k g a1 ((v_X1_at m k g a1) + (1 : Int32))) rfl rfl rfl rfl ?_
  exact an_ret rfl rfl rfl rfl rfl
def v_X2_isWaiting (m : PM) (g : Nat) (a1 : Int32) : Int32 := (if (v_X1_at m 1 g a1) = (-1 : Int32) then (0 : Int32) else (1 : Int32))
set_option maxRecDepth 100000 in
theorem r_X2_isWaiting (m : PM) (g : Nat) (a1 : Int32) : Rn MX2_isWaiting [vR 0 0 g, vI a1] m (some (vI (v_X2_isWaiting m g a1))) m := by
  refine rn_of [some (vR 0 0 g), some (vI a1)] rfl ?_
  unfold v_X2_isWaiting
  refine an_b 3 (pc2 := 5) (L2 := [some (vR 0 0 g), some (vI a1)]) (st2 := [vI a1, vR 1 1 g]) (m1 := m) rfl ?_
  refine an_call (r_X1_at m 1 g a1) rfl rfl rfl rfl ?_
  refine an_b 2 (pc2 := if (v_X1_at m 1 g a1) = (-1 : Int32) then 16 else 12) (L2 := [some (vR 0 0 g), some (vI a1)]) (st2 := []) (m1 := m) rfl ?_
  refine an_ifi (c := (v_X1_at m 1 g a1) = (-1 : Int32)) (fun h1 => ?_) (fun h1 => ?_)
  · refine an_b 1 (pc2 := 17) (L2 := [some (vR 0 0 g), some (vI a1)]) (st2 := [vI (0 : Int32)]) (m1 := m) rfl ?_
    exact an_ret rfl rfl rfl rfl rfl
  · refine an_b 2 (pc2 := 17) (L2 := [some (vR 0 0 g), some (vI a1)]) (st2 := [vI (1 : Int32)]) (m1 := m) rfl ?_
    exact an_ret rfl rfl rfl rfl rfl
def b_X2_queueLength_1 (m : PM) (g : Nat) (a1 : Int32)  (j1 : Nat) (s1 : Int32) : Int32 := (if ¬ (v_X1_at m 1 g (nI j1)) = a1 then s1 else (s1 + (1 : Int32)))
def v_X2_queueLength (m : PM) (g : Nat) (a1 : Int32) : Int32 := (lp (b_X2_queueLength_1 m g a1) 8 0 (0 : Int32))
set_option maxRecDepth 100000 in
theorem r_X2_queueLength (m : PM) (g : Nat) (a1 : Int32) : Rn MX2_queueLength [vR 0 0 g, vI a1] m (some (vI (v_X2_queueLength m g a1))) m := by
  refine rn_of [some (vR 0 0 g), some (vI a1), none, none] rfl ?_
  unfold v_X2_queueLength
  refine an_b 4 (pc2 := 4) (L2 := [some (vR 0 0 g), some (vI a1), some (vI (0 : Int32)), some (vI (0 : Int32))]) (st2 := []) (m1 := m) rfl ?_
  refine re_lp (σ := Int32) (b_X2_queueLength_1 m g a1) (fun j1 s1 => (4, [some (vR 0 0 g), some (vI a1), some (vI s1), some (vI (nI j1))], [], m)) 8 (fun s1 => (31, [some (vR 0 0 g), some (vI a1), some (vI s1), none], [], m)) (fun j1 s1 hj1 v9 m9 K1 => ?_) (fun s1 v9 m9 K1 => ?_) 8 0 (0 : Int32) (Nat.add_zero _) _ _ ?_
  · show An MX2_queueLength 4 [some (vR 0 0 g), some (vI a1), some (vI s1), some (vI (nI j1))] [] m v9 m9
    refine an_b 3 (pc2 := if (8 : Int32) ≤ (nI j1) then 31 else 10) (L2 := [some (vR 0 0 g), some (vI a1), some (vI s1), some (vI (nI j1))]) (st2 := []) (m1 := m) rfl ?_
    refine an_f (nI_ge (a := j1) (b := 8) (by omega) (by omega)) ?_
    refine an_b 3 (pc2 := 15) (L2 := [some (vR 0 0 g), some (vI a1), some (vI s1), some (vI (nI j1))]) (st2 := [vI (nI j1), vR 1 1 g]) (m1 := m) rfl ?_
    refine an_call (r_X1_at m 1 g (nI j1)) rfl rfl rfl rfl ?_
    refine an_b 2 (pc2 := if ¬ (v_X1_at m 1 g (nI j1)) = a1 then 25 else 22) (L2 := [some (vR 0 0 g), some (vI a1), some (vI s1), some (vI (nI j1))]) (st2 := []) (m1 := m) rfl ?_
    refine re_if1 (c := ¬ (v_X1_at m 1 g (nI j1)) = a1) (a := s1) (b := s1 + (1 : Int32)) (fun x => (25, [some (vR 0 0 g), some (vI a1), some (vI x), some (vI (nI j1))], [], m)) (fun h1 v9 m9 K2 => ?_) (fun h1 v9 m9 K2 => ?_) _ _ ?_
    · exact K2
    · refine an_b 1 (pc2 := 25) (L2 := [some (vR 0 0 g), some (vI a1), some (vI (s1 + (1 : Int32))), some (vI (nI j1))]) (st2 := []) (m1 := m) rfl ?_
      exact K2
    refine an_b 2 (pc2 := 4) (L2 := [some (vR 0 0 g), some (vI a1), some (vI (if ¬ (v_X1_at m 1 g (nI j1)) = a1 then s1 else (s1 + (1 : Int32)))), some (vI ((nI j1) + (1 : Int32)))]) (st2 := []) (m1 := m) rfl ?_
    refine an_cL (K := [some (vR 0 0 g), some (vI a1), some (vI (if ¬ (v_X1_at m 1 g (nI j1)) = a1 then s1 else (s1 + (1 : Int32)))), some (vI (nI (j1 + 1)))]) (by simp only [nI_1]) ?_
    exact K1
  · show An MX2_queueLength 4 [some (vR 0 0 g), some (vI a1), some (vI s1), some (vI (nI 8))] [] m v9 m9
    refine an_b 3 (pc2 := if (8 : Int32) ≤ (nI 8) then 31 else 10) (L2 := [some (vR 0 0 g), some (vI a1), some (vI s1), some (vI (nI 8))]) (st2 := []) (m1 := m) rfl ?_
    refine an_t (nI_le (a := 8) (b := 8) (by omega) (by omega)) ?_
    refine an_weak (L := [some (vR 0 0 g), some (vI a1), some (vI s1), none]) (⟨rfl, rfl, rfl, trivial⟩) ?_
    exact K1
  show An MX2_queueLength 31 [some (vR 0 0 g), some (vI a1), some (vI (lp (b_X2_queueLength_1 m g a1) 8 0 (0 : Int32))), none] [] m _ _
  refine an_b 1 (pc2 := 32) (L2 := [some (vR 0 0 g), some (vI a1), some (vI (lp (b_X2_queueLength_1 m g a1) 8 0 (0 : Int32))), none]) (st2 := [vI (lp (b_X2_queueLength_1 m g a1) 8 0 (0 : Int32))]) (m1 := m) rfl ?_
  exact an_ret rfl rfl rfl rfl rfl
def b_X2_handAt_1 (m : PM) (g : Nat) (a1 : Int32) (a2 : Int32)  (j1 : Nat) (s1 : Unit) : (Unit) ⊕ (Int32) := if ¬ (v_X1_at m 1 g (nI j1)) = a1 then .inl () else if ¬ (v_X1_at m 3 g (nI j1)) = a2 then .inl () else .inr (nI j1)
def v_X2_handAt (m : PM) (g : Nat) (a1 : Int32) (a2 : Int32) : Int32 := (lqr (fun s1 : Unit => (-1 : Int32)) (lq (b_X2_handAt_1 m g a1 a2) 8 0 ()))
set_option maxRecDepth 100000 in
theorem r_X2_handAt (m : PM) (g : Nat) (a1 : Int32) (a2 : Int32) : Rn MX2_handAt [vR 0 0 g, vI a1, vI a2] m (some (vI (v_X2_handAt m g a1 a2))) m := by
  refine rn_of [some (vR 0 0 g), some (vI a1), some (vI a2), none] rfl ?_
  unfold v_X2_handAt
  refine an_b 2 (pc2 := 2) (L2 := [some (vR 0 0 g), some (vI a1), some (vI a2), some (vI (0 : Int32))]) (st2 := []) (m1 := m) rfl ?_
  refine an_lq (σ := Unit) (ρ := Int32) (b_X2_handAt_1 m g a1 a2) (fun j1 s1 => (2, [some (vR 0 0 g), some (vI a1), some (vI a2), some (vI (nI j1))], [], m)) 8 (fun x9 => .inl (some (vI (lqr (fun s1 => (-1 : Int32)) x9)))) (fun _ => m) (fun j1 s1 hj1 v9 m9 hc1 hr1 => ?_) (fun s1 => ?_) 8 0 () (Nat.add_zero _)
  · show An MX2_handAt 2 [some (vR 0 0 g), some (vI a1), some (vI a2), some (vI (nI j1))] [] m v9 m9
    refine an_b 3 (pc2 := if (8 : Int32) ≤ (nI j1) then 40 else 8) (L2 := [some (vR 0 0 g), some (vI a1), some (vI a2), some (vI (nI j1))]) (st2 := []) (m1 := m) rfl ?_
    refine an_f (nI_ge (a := j1) (b := 8) (by omega) (by omega)) ?_
    refine an_b 3 (pc2 := 13) (L2 := [some (vR 0 0 g), some (vI a1), some (vI a2), some (vI (nI j1))]) (st2 := [vI (nI j1), vR 1 1 g]) (m1 := m) rfl ?_
    refine an_call (r_X1_at m 1 g (nI j1)) rfl rfl rfl rfl ?_
    refine an_b 2 (pc2 := if ¬ (v_X1_at m 1 g (nI j1)) = a1 then 34 else 20) (L2 := [some (vR 0 0 g), some (vI a1), some (vI a2), some (vI (nI j1))]) (st2 := []) (m1 := m) rfl ?_
    refine an_if (c := ¬ (v_X1_at m 1 g (nI j1)) = a1) (fun h1 => ?_) (fun h1 => ?_)
    · refine an_b 2 (pc2 := 2) (L2 := [some (vR 0 0 g), some (vI a1), some (vI a2), some (vI ((nI j1) + (1 : Int32)))]) (st2 := []) (m1 := m) rfl ?_
      refine an_cL (K := [some (vR 0 0 g), some (vI a1), some (vI a2), some (vI (nI (j1 + 1)))]) (by simp only [nI_1]) ?_
      exact hc1 _ (by unfold b_X2_handAt_1; rw [if_pos h1])
    · refine an_b 3 (pc2 := 25) (L2 := [some (vR 0 0 g), some (vI a1), some (vI a2), some (vI (nI j1))]) (st2 := [vI (nI j1), vR 1 3 g]) (m1 := m) rfl ?_
      refine an_call (r_X1_at m 3 g (nI j1)) rfl rfl rfl rfl ?_
      refine an_b 2 (pc2 := if ¬ (v_X1_at m 3 g (nI j1)) = a2 then 34 else 32) (L2 := [some (vR 0 0 g), some (vI a1), some (vI a2), some (vI (nI j1))]) (st2 := []) (m1 := m) rfl ?_
      refine an_if (c := ¬ (v_X1_at m 3 g (nI j1)) = a2) (fun h2 => ?_) (fun h2 => ?_)
      · refine an_b 2 (pc2 := 2) (L2 := [some (vR 0 0 g), some (vI a1), some (vI a2), some (vI ((nI j1) + (1 : Int32)))]) (st2 := []) (m1 := m) rfl ?_
        refine an_cL (K := [some (vR 0 0 g), some (vI a1), some (vI a2), some (vI (nI (j1 + 1)))]) (by simp only [nI_1]) ?_
        exact hc1 _ (by unfold b_X2_handAt_1; rw [if_neg h1, if_pos h2])
      · refine an_b 1 (pc2 := 33) (L2 := [some (vR 0 0 g), some (vI a1), some (vI a2), some (vI (nI j1))]) (st2 := [vI (nI j1)]) (m1 := m) rfl ?_
        obtain ⟨rfl, rfl⟩ := hr1 _ (by unfold b_X2_handAt_1; rw [if_neg h1, if_neg h2])
        exact an_ret rfl rfl rfl rfl rfl
  · show An MX2_handAt 2 [some (vR 0 0 g), some (vI a1), some (vI a2), some (vI (nI 8))] [] m _ _
    refine an_b 3 (pc2 := if (8 : Int32) ≤ (nI 8) then 40 else 8) (L2 := [some (vR 0 0 g), some (vI a1), some (vI a2), some (vI (nI 8))]) (st2 := []) (m1 := m) rfl ?_
    refine an_t (nI_le (a := 8) (b := 8) (by omega) (by omega)) ?_
    refine an_b 1 (pc2 := 41) (L2 := [some (vR 0 0 g), some (vI a1), some (vI a2), some (vI (nI 8))]) (st2 := [vI (-1 : Int32)]) (m1 := m) rfl ?_
    exact an_ret rfl rfl rfl rfl rfl
def v_X4_cell (m : PM) (a1 : Int32) (a2 : Int32) : Int32 := ((a1 * (12 : Int32)) + a2)
set_option maxRecDepth 100000 in
theorem r_X4_cell (m : PM) (a1 : Int32) (a2 : Int32) : Rn MX4_cell [vI a1, vI a2] m (some (vI (v_X4_cell m a1 a2))) m := by
  refine rn_of [some (vI a1), some (vI a2)] rfl ?_
  unfold v_X4_cell
  refine an_b 5 (pc2 := 6) (L2 := [some (vI a1), some (vI a2)]) (st2 := [vI ((a1 * (12 : Int32)) + a2)]) (m1 := m) rfl ?_
  exact an_ret rfl rfl rfl rfl rfl
def b_X2_placeForHolder_1 (m : PM) (g : Nat) (a1 : Int32)  (j1 : Nat) (s1 : Int32) : Int32 := (if ¬ (v_X1_at m 1 g (nI j1)) = a1 then s1 else (if (v_X1_at m 0 g (v_X4_cell m (nI j1) a1)) ≤ 0 then s1 else (if s1 < ((v_X1_at m 3 g (nI j1)) + (1 : Int32)) then ((v_X1_at m 3 g (nI j1)) + (1 : Int32)) else s1)))
def v_X2_placeForHolder (m : PM) (g : Nat) (a1 : Int32) : Int32 := (lp (b_X2_placeForHolder_1 m g a1) 8 0 (0 : Int32))
set_option maxRecDepth 100000 in
theorem r_X2_placeForHolder (m : PM) (g : Nat) (a1 : Int32) : Rn MX2_placeForHolder [vR 0 0 g, vI a1] m (some (vI (v_X2_placeForHolder m g a1))) m := by
  refine rn_of [some (vR 0 0 g), some (vI a1), none, none] rfl ?_
  unfold v_X2_placeForHolder
  refine an_b 4 (pc2 := 4) (L2 := [some (vR 0 0 g), some (vI a1), some (vI (0 : Int32)), some (vI (0 : Int32))]) (st2 := []) (m1 := m) rfl ?_
  refine re_lp (σ := Int32) (b_X2_placeForHolder_1 m g a1) (fun j1 s1 => (4, [some (vR 0 0 g), some (vI a1), some (vI s1), some (vI (nI j1))], [], m)) 8 (fun s1 => (58, [some (vR 0 0 g), some (vI a1), some (vI s1), none], [], m)) (fun j1 s1 hj1 v9 m9 K1 => ?_) (fun s1 v9 m9 K1 => ?_) 8 0 (0 : Int32) (Nat.add_zero _) _ _ ?_
  · show An MX2_placeForHolder 4 [some (vR 0 0 g), some (vI a1), some (vI s1), some (vI (nI j1))] [] m v9 m9
    refine an_b 3 (pc2 := if (8 : Int32) ≤ (nI j1) then 58 else 10) (L2 := [some (vR 0 0 g), some (vI a1), some (vI s1), some (vI (nI j1))]) (st2 := []) (m1 := m) rfl ?_
    refine an_f (nI_ge (a := j1) (b := 8) (by omega) (by omega)) ?_
    refine an_b 3 (pc2 := 15) (L2 := [some (vR 0 0 g), some (vI a1), some (vI s1), some (vI (nI j1))]) (st2 := [vI (nI j1), vR 1 1 g]) (m1 := m) rfl ?_
    refine an_call (r_X1_at m 1 g (nI j1)) rfl rfl rfl rfl ?_
    refine an_b 2 (pc2 := if ¬ (v_X1_at m 1 g (nI j1)) = a1 then 52 else 22) (L2 := [some (vR 0 0 g), some (vI a1), some (vI s1), some (vI (nI j1))]) (st2 := []) (m1 := m) rfl ?_
    refine re_if1 (c := ¬ (v_X1_at m 1 g (nI j1)) = a1) (a := s1) (b := (if (v_X1_at m 0 g (v_X4_cell m (nI j1) a1)) ≤ 0 then s1 else (if s1 < ((v_X1_at m 3 g (nI j1)) + (1 : Int32)) then ((v_X1_at m 3 g (nI j1)) + (1 : Int32)) else s1))) (fun x => (52, [some (vR 0 0 g), some (vI a1), some (vI x), some (vI (nI j1))], [], m)) (fun h1 v9 m9 K4 => ?_) (fun h1 v9 m9 K4 => ?_) _ _ ?_
    · exact K4
    · refine an_b 4 (pc2 := 28) (L2 := [some (vR 0 0 g), some (vI a1), some (vI s1), some (vI (nI j1))]) (st2 := [vI a1, vI (nI j1), vR 1 0 g]) (m1 := m) rfl ?_
      refine an_call (r_X4_cell m (nI j1) a1) rfl rfl rfl rfl ?_
      refine an_call (r_X1_at m 0 g (v_X4_cell m (nI j1) a1)) rfl rfl rfl rfl ?_
      refine an_b 1 (pc2 := if (v_X1_at m 0 g (v_X4_cell m (nI j1) a1)) ≤ 0 then 52 else 37) (L2 := [some (vR 0 0 g), some (vI a1), some (vI s1), some (vI (nI j1))]) (st2 := []) (m1 := m) rfl ?_
      refine re_if1 (c := (v_X1_at m 0 g (v_X4_cell m (nI j1) a1)) ≤ 0) (a := s1) (b := (if s1 < ((v_X1_at m 3 g (nI j1)) + (1 : Int32)) then ((v_X1_at m 3 g (nI j1)) + (1 : Int32)) else s1)) (fun x => (52, [some (vR 0 0 g), some (vI a1), some (vI x), some (vI (nI j1))], [], m)) (fun h2 v9 m9 K3 => ?_) (fun h2 v9 m9 K3 => ?_) _ _ ?_
      · exact K3
      · refine an_b 4 (pc2 := 43) (L2 := [some (vR 0 0 g), some (vI a1), some (vI s1), some (vI (nI j1))]) (st2 := [vI (nI j1), vR 1 3 g, vI s1]) (m1 := m) rfl ?_
        refine an_call (r_X1_at m 3 g (nI j1)) rfl rfl rfl rfl ?_
        refine an_b 4 (pc2 := 52) (L2 := [some (vR 0 0 g), some (vI a1), some (vI (if s1 < ((v_X1_at m 3 g (nI j1)) + (1 : Int32)) then ((v_X1_at m 3 g (nI j1)) + (1 : Int32)) else s1)), some (vI (nI j1))]) (st2 := []) (m1 := m) rfl ?_
        exact K3
      exact K4
    refine an_b 2 (pc2 := 4) (L2 := [some (vR 0 0 g), some (vI a1), some (vI (if ¬ (v_X1_at m 1 g (nI j1)) = a1 then s1 else (if (v_X1_at m 0 g (v_X4_cell m (nI j1) a1)) ≤ 0 then s1 else (if s1 < ((v_X1_at m 3 g (nI j1)) + (1 : Int32)) then ((v_X1_at m 3 g (nI j1)) + (1 : Int32)) else s1)))), some (vI ((nI j1) + (1 : Int32)))]) (st2 := []) (m1 := m) rfl ?_
    refine an_cL (K := [some (vR 0 0 g), some (vI a1), some (vI (if ¬ (v_X1_at m 1 g (nI j1)) = a1 then s1 else (if (v_X1_at m 0 g (v_X4_cell m (nI j1) a1)) ≤ 0 then s1 else (if s1 < ((v_X1_at m 3 g (nI j1)) + (1 : Int32)) then ((v_X1_at m 3 g (nI j1)) + (1 : Int32)) else s1)))), some (vI (nI (j1 + 1)))]) (by simp only [nI_1]) ?_
    exact K1
  · show An MX2_placeForHolder 4 [some (vR 0 0 g), some (vI a1), some (vI s1), some (vI (nI 8))] [] m v9 m9
    refine an_b 3 (pc2 := if (8 : Int32) ≤ (nI 8) then 58 else 10) (L2 := [some (vR 0 0 g), some (vI a1), some (vI s1), some (vI (nI 8))]) (st2 := []) (m1 := m) rfl ?_
    refine an_t (nI_le (a := 8) (b := 8) (by omega) (by omega)) ?_
    refine an_weak (L := [some (vR 0 0 g), some (vI a1), some (vI s1), none]) (⟨rfl, rfl, rfl, trivial⟩) ?_
    exact K1
  show An MX2_placeForHolder 58 [some (vR 0 0 g), some (vI a1), some (vI (lp (b_X2_placeForHolder_1 m g a1) 8 0 (0 : Int32))), none] [] m _ _
  refine an_b 1 (pc2 := 59) (L2 := [some (vR 0 0 g), some (vI a1), some (vI (lp (b_X2_placeForHolder_1 m g a1) 8 0 (0 : Int32))), none]) (st2 := [vI (lp (b_X2_placeForHolder_1 m g a1) 8 0 (0 : Int32))]) (m1 := m) rfl ?_
  exact an_ret rfl rfl rfl rfl rfl
def b_X2_enqueue_1 (m : PM) (g : Nat) (a1 : Int32) (a2 : Int32) (a3 : Int32)  (j1 : Nat) (s1 : PM) : PM := (if ¬ (v_X1_at s1 1 g (nI j1)) = a2 then s1 else (if (v_X1_at s1 3 g (nI j1)) < (if (v_X1_at m 0 g (v_X4_cell m a1 a2)) ≤ 0 then (v_X2_queueLength m g a2) else (v_X2_placeForHolder m g a2)) then s1 else (w_X1_raise s1 3 g (nI j1))))
def w_X2_enqueue (m : PM) (g : Nat) (a1 : Int32) (a2 : Int32) (a3 : Int32) : PM := (w_X1_put (w_X1_put (w_X1_put (lp (b_X2_enqueue_1 m g a1 a2 a3) 8 0 m) 1 g a1 a2) 2 g a1 a3) 3 g a1 (if (v_X1_at m 0 g (v_X4_cell m a1 a2)) ≤ 0 then (v_X2_queueLength m g a2) else (v_X2_placeForHolder m g a2)))
set_option maxRecDepth 100000 in
theorem r_X2_enqueue (m : PM) (g : Nat) (a1 : Int32) (a2 : Int32) (a3 : Int32) : Rn MX2_enqueue [vR 0 0 g, vI a1, vI a2, vI a3] m none (w_X2_enqueue m g a1 a2 a3) := by
  refine rn_of [some (vR 0 0 g), some (vI a1), some (vI a2), some (vI a3), none, none] rfl ?_
  unfold w_X2_enqueue
  refine an_b 4 (pc2 := 6) (L2 := [some (vR 0 0 g), some (vI a1), some (vI a2), some (vI a3), none, none]) (st2 := [vI a2, vI a1, vR 1 0 g]) (m1 := m) rfl ?_
  refine an_call (r_X4_cell m a1 a2) rfl rfl rfl rfl ?_
  refine an_call (r_X1_at m 0 g (v_X4_cell m a1 a2)) rfl rfl rfl rfl ?_
  refine an_b 1 (pc2 := if (v_X1_at m 0 g (v_X4_cell m a1 a2)) ≤ 0 then 23 else 15) (L2 := [some (vR 0 0 g), some (vI a1), some (vI a2), some (vI a3), none, none]) (st2 := []) (m1 := m) rfl ?_
  refine re_if1 (c := (v_X1_at m 0 g (v_X4_cell m a1 a2)) ≤ 0) (a := (v_X2_queueLength m g a2)) (b := (v_X2_placeForHolder m g a2)) (fun x => (28, [some (vR 0 0 g), some (vI a1), some (vI a2), some (vI a3), none, none], [vI x], m)) (fun h1 v9 m9 K2 => ?_) (fun h1 v9 m9 K2 => ?_) _ _ ?_
  · refine an_b 2 (pc2 := 25) (L2 := [some (vR 0 0 g), some (vI a1), some (vI a2), some (vI a3), none, none]) (st2 := [vI a2, vR 0 0 g]) (m1 := m) rfl ?_
    refine an_call (r_X2_queueLength m g a2) rfl rfl rfl rfl ?_
    exact K2
  · refine an_b 2 (pc2 := 17) (L2 := [some (vR 0 0 g), some (vI a1), some (vI a2), some (vI a3), none, none]) (st2 := [vI a2, vR 0 0 g]) (m1 := m) rfl ?_
    refine an_call (r_X2_placeForHolder m g a2) rfl rfl rfl rfl ?_
    refine an_b 1 (pc2 := 28) (L2 := [some (vR 0 0 g), some (vI a1), some (vI a2), some (vI a3), none, none]) (st2 := [vI (v_X2_placeForHolder m g a2)]) (m1 := m) rfl ?_
    exact K2
  refine an_b 3 (pc2 := 33) (L2 := [some (vR 0 0 g), some (vI a1), some (vI a2), some (vI a3), some (vI (if (v_X1_at m 0 g (v_X4_cell m a1 a2)) ≤ 0 then (v_X2_queueLength m g a2) else (v_X2_placeForHolder m g a2))), some (vI (0 : Int32))]) (st2 := []) (m1 := m) rfl ?_
  refine re_lp (σ := PM) (b_X2_enqueue_1 m g a1 a2 a3) (fun j1 s1 => (33, [some (vR 0 0 g), some (vI a1), some (vI a2), some (vI a3), some (vI (if (v_X1_at m 0 g (v_X4_cell m a1 a2)) ≤ 0 then (v_X2_queueLength m g a2) else (v_X2_placeForHolder m g a2))), some (vI (nI j1))], [], s1)) 8 (fun s1 => (82, [some (vR 0 0 g), some (vI a1), some (vI a2), some (vI a3), some (vI (if (v_X1_at m 0 g (v_X4_cell m a1 a2)) ≤ 0 then (v_X2_queueLength m g a2) else (v_X2_placeForHolder m g a2))), none], [], s1)) (fun j1 s1 hj1 v9 m9 K1 => ?_) (fun s1 v9 m9 K1 => ?_) 8 0 m (Nat.add_zero _) _ _ ?_
  · show An MX2_enqueue 33 [some (vR 0 0 g), some (vI a1), some (vI a2), some (vI a3), some (vI (if (v_X1_at m 0 g (v_X4_cell m a1 a2)) ≤ 0 then (v_X2_queueLength m g a2) else (v_X2_placeForHolder m g a2))), some (vI (nI j1))] [] s1 v9 m9
    refine an_b 3 (pc2 := if (8 : Int32) ≤ (nI j1) then 82 else 40) (L2 := [some (vR 0 0 g), some (vI a1), some (vI a2), some (vI a3), some (vI (if (v_X1_at m 0 g (v_X4_cell m a1 a2)) ≤ 0 then (v_X2_queueLength m g a2) else (v_X2_placeForHolder m g a2))), some (vI (nI j1))]) (st2 := []) (m1 := s1) rfl ?_
    refine an_f (nI_ge (a := j1) (b := 8) (by omega) (by omega)) ?_
    refine an_b 3 (pc2 := 46) (L2 := [some (vR 0 0 g), some (vI a1), some (vI a2), some (vI a3), some (vI (if (v_X1_at m 0 g (v_X4_cell m a1 a2)) ≤ 0 then (v_X2_queueLength m g a2) else (v_X2_placeForHolder m g a2))), some (vI (nI j1))]) (st2 := [vI (nI j1), vR 1 1 g]) (m1 := s1) rfl ?_
    refine an_call (r_X1_at s1 1 g (nI j1)) rfl rfl rfl rfl ?_
    refine an_b 2 (pc2 := if ¬ (v_X1_at s1 1 g (nI j1)) = a2 then 76 else 53) (L2 := [some (vR 0 0 g), some (vI a1), some (vI a2), some (vI a3), some (vI (if (v_X1_at m 0 g (v_X4_cell m a1 a2)) ≤ 0 then (v_X2_queueLength m g a2) else (v_X2_placeForHolder m g a2))), some (vI (nI j1))]) (st2 := []) (m1 := s1) rfl ?_
    refine re_if1 (c := ¬ (v_X1_at s1 1 g (nI j1)) = a2) (a := s1) (b := (if (v_X1_at s1 3 g (nI j1)) < (if (v_X1_at m 0 g (v_X4_cell m a1 a2)) ≤ 0 then (v_X2_queueLength m g a2) else (v_X2_placeForHolder m g a2)) then s1 else (w_X1_raise s1 3 g (nI j1)))) (fun x => (76, [some (vR 0 0 g), some (vI a1), some (vI a2), some (vI a3), some (vI (if (v_X1_at m 0 g (v_X4_cell m a1 a2)) ≤ 0 then (v_X2_queueLength m g a2) else (v_X2_placeForHolder m g a2))), some (vI (nI j1))], [], x)) (fun h3 v9 m9 K6 => ?_) (fun h3 v9 m9 K6 => ?_) _ _ ?_
    · exact K6
    · refine an_b 3 (pc2 := 59) (L2 := [some (vR 0 0 g), some (vI a1), some (vI a2), some (vI a3), some (vI (if (v_X1_at m 0 g (v_X4_cell m a1 a2)) ≤ 0 then (v_X2_queueLength m g a2) else (v_X2_placeForHolder m g a2))), some (vI (nI j1))]) (st2 := [vI (nI j1), vR 1 3 g]) (m1 := s1) rfl ?_
      refine an_call (r_X1_at s1 3 g (nI j1)) rfl rfl rfl rfl ?_
      refine an_b 2 (pc2 := if (v_X1_at s1 3 g (nI j1)) < (if (v_X1_at m 0 g (v_X4_cell m a1 a2)) ≤ 0 then (v_X2_queueLength m g a2) else (v_X2_placeForHolder m g a2)) then 76 else 67) (L2 := [some (vR 0 0 g), some (vI a1), some (vI a2), some (vI a3), some (vI (if (v_X1_at m 0 g (v_X4_cell m a1 a2)) ≤ 0 then (v_X2_queueLength m g a2) else (v_X2_placeForHolder m g a2))), some (vI (nI j1))]) (st2 := []) (m1 := s1) rfl ?_
      refine re_if1 (c := (v_X1_at s1 3 g (nI j1)) < (if (v_X1_at m 0 g (v_X4_cell m a1 a2)) ≤ 0 then (v_X2_queueLength m g a2) else (v_X2_placeForHolder m g a2))) (a := s1) (b := (w_X1_raise s1 3 g (nI j1))) (fun x => (76, [some (vR 0 0 g), some (vI a1), some (vI a2), some (vI a3), some (vI (if (v_X1_at m 0 g (v_X4_cell m a1 a2)) ≤ 0 then (v_X2_queueLength m g a2) else (v_X2_placeForHolder m g a2))), some (vI (nI j1))], [], x)) (fun h4 v9 m9 K5 => ?_) (fun h4 v9 m9 K5 => ?_) _ _ ?_
      · exact K5
      · refine an_b 3 (pc2 := 73) (L2 := [some (vR 0 0 g), some (vI a1), some (vI a2), some (vI a3), some (vI (if (v_X1_at m 0 g (v_X4_cell m a1 a2)) ≤ 0 then (v_X2_queueLength m g a2) else (v_X2_placeForHolder m g a2))), some (vI (nI j1))]) (st2 := [vI (nI j1), vR 1 3 g]) (m1 := s1) rfl ?_
        refine an_call (r_X1_raise s1 3 g (nI j1)) rfl rfl rfl rfl ?_
        exact K5
      exact K6
    refine an_b 2 (pc2 := 33) (L2 := [some (vR 0 0 g), some (vI a1), some (vI a2), some (vI a3), some (vI (if (v_X1_at m 0 g (v_X4_cell m a1 a2)) ≤ 0 then (v_X2_queueLength m g a2) else (v_X2_placeForHolder m g a2))), some (vI ((nI j1) + (1 : Int32)))]) (st2 := []) (m1 := (if ¬ (v_X1_at s1 1 g (nI j1)) = a2 then s1 else (if (v_X1_at s1 3 g (nI j1)) < (if (v_X1_at m 0 g (v_X4_cell m a1 a2)) ≤ 0 then (v_X2_queueLength m g a2) else (v_X2_placeForHolder m g a2)) then s1 else (w_X1_raise s1 3 g (nI j1))))) rfl ?_
    refine an_cL (K := [some (vR 0 0 g), some (vI a1), some (vI a2), some (vI a3), some (vI (if (v_X1_at m 0 g (v_X4_cell m a1 a2)) ≤ 0 then (v_X2_queueLength m g a2) else (v_X2_placeForHolder m g a2))), some (vI (nI (j1 + 1)))]) (by simp only [nI_1]) ?_
    exact K1
  · show An MX2_enqueue 33 [some (vR 0 0 g), some (vI a1), some (vI a2), some (vI a3), some (vI (if (v_X1_at m 0 g (v_X4_cell m a1 a2)) ≤ 0 then (v_X2_queueLength m g a2) else (v_X2_placeForHolder m g a2))), some (vI (nI 8))] [] s1 v9 m9
    refine an_b 3 (pc2 := if (8 : Int32) ≤ (nI 8) then 82 else 40) (L2 := [some (vR 0 0 g), some (vI a1), some (vI a2), some (vI a3), some (vI (if (v_X1_at m 0 g (v_X4_cell m a1 a2)) ≤ 0 then (v_X2_queueLength m g a2) else (v_X2_placeForHolder m g a2))), some (vI (nI 8))]) (st2 := []) (m1 := s1) rfl ?_
    refine an_t (nI_le (a := 8) (b := 8) (by omega) (by omega)) ?_
    refine an_weak (L := [some (vR 0 0 g), some (vI a1), some (vI a2), some (vI a3), some (vI (if (v_X1_at m 0 g (v_X4_cell m a1 a2)) ≤ 0 then (v_X2_queueLength m g a2) else (v_X2_placeForHolder m g a2))), none]) (⟨rfl, rfl, rfl, rfl, rfl, trivial⟩) ?_
    exact K1
  show An MX2_enqueue 82 [some (vR 0 0 g), some (vI a1), some (vI a2), some (vI a3), some (vI (if (v_X1_at m 0 g (v_X4_cell m a1 a2)) ≤ 0 then (v_X2_queueLength m g a2) else (v_X2_placeForHolder m g a2))), none] [] (lp (b_X2_enqueue_1 m g a1 a2 a3) 8 0 m) _ _
  refine an_b 4 (pc2 := 88) (L2 := [some (vR 0 0 g), some (vI a1), some (vI a2), some (vI a3), some (vI (if (v_X1_at m 0 g (v_X4_cell m a1 a2)) ≤ 0 then (v_X2_queueLength m g a2) else (v_X2_placeForHolder m g a2))), none]) (st2 := [vI a2, vI a1, vR 1 1 g]) (m1 := (lp (b_X2_enqueue_1 m g a1 a2 a3) 8 0 m)) rfl ?_
  refine an_call (r_X1_put (lp (b_X2_enqueue_1 m g a1 a2 a3) 8 0 m) 1 g a1 a2) rfl rfl rfl rfl ?_
  refine an_b 4 (pc2 := 97) (L2 := [some (vR 0 0 g), some (vI a1), some (vI a2), some (vI a3), some (vI (if (v_X1_at m 0 g (v_X4_cell m a1 a2)) ≤ 0 then (v_X2_queueLength m g a2) else (v_X2_placeForHolder m g a2))), none]) (st2 := [vI a3, vI a1, vR 1 2 g]) (m1 := (w_X1_put (lp (b_X2_enqueue_1 m g a1 a2 a3) 8 0 m) 1 g a1 a2)) rfl ?_
  refine an_call (r_X1_put (w_X1_put (lp (b_X2_enqueue_1 m g a1 a2 a3) 8 0 m) 1 g a1 a2) 2 g a1 a3) rfl rfl rfl rfl ?_
  refine an_b 4 (pc2 := 107) (L2 := [some (vR 0 0 g), some (vI a1), some (vI a2), some (vI a3), some (vI (if (v_X1_at m 0 g (v_X4_cell m a1 a2)) ≤ 0 then (v_X2_queueLength m g a2) else (v_X2_placeForHolder m g a2))), none]) (st2 := [vI (if (v_X1_at m 0 g (v_X4_cell m a1 a2)) ≤ 0 then (v_X2_queueLength m g a2) else (v_X2_placeForHolder m g a2)), vI a1, vR 1 3 g]) (m1 := (w_X1_put (w_X1_put (lp (b_X2_enqueue_1 m g a1 a2 a3) 8 0 m) 1 g a1 a2) 2 g a1 a3)) rfl ?_
  refine an_call (r_X1_put (w_X1_put (w_X1_put (lp (b_X2_enqueue_1 m g a1 a2 a3) 8 0 m) 1 g a1 a2) 2 g a1 a3) 3 g a1 (if (v_X1_at m 0 g (v_X4_cell m a1 a2)) ≤ 0 then (v_X2_queueLength m g a2) else (v_X2_placeForHolder m g a2))) rfl rfl rfl rfl ?_
  exact an_ret rfl rfl rfl rfl rfl
def b_X2_dequeue_1 (m : PM) (g : Nat) (a1 : Int32)  (j1 : Nat) (s1 : PM) : PM := (if ¬ (v_X1_at s1 1 g (nI j1)) = (v_X1_at m 1 g a1) then s1 else (if (v_X1_at s1 3 g (nI j1)) ≤ (v_X1_at m 3 g a1) then s1 else (w_X1_put s1 3 g (nI j1) ((v_X1_at s1 3 g (nI j1)) - (1 : Int32)))))
def w_X2_dequeue (m : PM) (g : Nat) (a1 : Int32) : PM := (lp (b_X2_dequeue_1 m g a1) 8 0 (w_X1_put (w_X1_put m 1 g a1 (-1 : Int32)) 2 g a1 (0 : Int32)))
set_option maxRecDepth 100000 in
theorem r_X2_dequeue (m : PM) (g : Nat) (a1 : Int32) : Rn MX2_dequeue [vR 0 0 g, vI a1] m none (w_X2_dequeue m g a1) := by
  refine rn_of [some (vR 0 0 g), some (vI a1), none, none, none] rfl ?_
  unfold w_X2_dequeue
  refine an_b 3 (pc2 := 5) (L2 := [some (vR 0 0 g), some (vI a1), none, none, none]) (st2 := [vI a1, vR 1 1 g]) (m1 := m) rfl ?_
  refine an_call (r_X1_at m 1 g a1) rfl rfl rfl rfl ?_
  refine an_b 4 (pc2 := 14) (L2 := [some (vR 0 0 g), some (vI a1), some (vI (v_X1_at m 1 g a1)), none, none]) (st2 := [vI a1, vR 1 3 g]) (m1 := m) rfl ?_
  refine an_call (r_X1_at m 3 g a1) rfl rfl rfl rfl ?_
  refine an_b 5 (pc2 := 24) (L2 := [some (vR 0 0 g), some (vI a1), some (vI (v_X1_at m 1 g a1)), some (vI (v_X1_at m 3 g a1)), none]) (st2 := [vI (-1 : Int32), vI a1, vR 1 1 g]) (m1 := m) rfl ?_
  refine an_call (r_X1_put m 1 g a1 (-1 : Int32)) rfl rfl rfl rfl ?_
  refine an_b 4 (pc2 := 33) (L2 := [some (vR 0 0 g), some (vI a1), some (vI (v_X1_at m 1 g a1)), some (vI (v_X1_at m 3 g a1)), none]) (st2 := [vI (0 : Int32), vI a1, vR 1 2 g]) (m1 := (w_X1_put m 1 g a1 (-1 : Int32))) rfl ?_
  refine an_call (r_X1_put (w_X1_put m 1 g a1 (-1 : Int32)) 2 g a1 (0 : Int32)) rfl rfl rfl rfl ?_
  refine an_b 2 (pc2 := 39) (L2 := [some (vR 0 0 g), some (vI a1), some (vI (v_X1_at m 1 g a1)), some (vI (v_X1_at m 3 g a1)), some (vI (0 : Int32))]) (st2 := []) (m1 := (w_X1_put (w_X1_put m 1 g a1 (-1 : Int32)) 2 g a1 (0 : Int32))) rfl ?_
  refine re_lp (σ := PM) (b_X2_dequeue_1 m g a1) (fun j1 s1 => (39, [some (vR 0 0 g), some (vI a1), some (vI (v_X1_at m 1 g a1)), some (vI (v_X1_at m 3 g a1)), some (vI (nI j1))], [], s1)) 8 (fun s1 => (98, [some (vR 0 0 g), some (vI a1), some (vI (v_X1_at m 1 g a1)), some (vI (v_X1_at m 3 g a1)), none], [], s1)) (fun j1 s1 hj1 v9 m9 K1 => ?_) (fun s1 v9 m9 K1 => ?_) 8 0 (w_X1_put (w_X1_put m 1 g a1 (-1 : Int32)) 2 g a1 (0 : Int32)) (Nat.add_zero _) _ _ ?_
  · show An MX2_dequeue 39 [some (vR 0 0 g), some (vI a1), some (vI (v_X1_at m 1 g a1)), some (vI (v_X1_at m 3 g a1)), some (vI (nI j1))] [] s1 v9 m9
    refine an_b 3 (pc2 := if (8 : Int32) ≤ (nI j1) then 98 else 46) (L2 := [some (vR 0 0 g), some (vI a1), some (vI (v_X1_at m 1 g a1)), some (vI (v_X1_at m 3 g a1)), some (vI (nI j1))]) (st2 := []) (m1 := s1) rfl ?_
    refine an_f (nI_ge (a := j1) (b := 8) (by omega) (by omega)) ?_
    refine an_b 3 (pc2 := 52) (L2 := [some (vR 0 0 g), some (vI a1), some (vI (v_X1_at m 1 g a1)), some (vI (v_X1_at m 3 g a1)), some (vI (nI j1))]) (st2 := [vI (nI j1), vR 1 1 g]) (m1 := s1) rfl ?_
    refine an_call (r_X1_at s1 1 g (nI j1)) rfl rfl rfl rfl ?_
    refine an_b 2 (pc2 := if ¬ (v_X1_at s1 1 g (nI j1)) = (v_X1_at m 1 g a1) then 92 else 59) (L2 := [some (vR 0 0 g), some (vI a1), some (vI (v_X1_at m 1 g a1)), some (vI (v_X1_at m 3 g a1)), some (vI (nI j1))]) (st2 := []) (m1 := s1) rfl ?_
    refine re_if1 (c := ¬ (v_X1_at s1 1 g (nI j1)) = (v_X1_at m 1 g a1)) (a := s1) (b := (if (v_X1_at s1 3 g (nI j1)) ≤ (v_X1_at m 3 g a1) then s1 else (w_X1_put s1 3 g (nI j1) ((v_X1_at s1 3 g (nI j1)) - (1 : Int32))))) (fun x => (92, [some (vR 0 0 g), some (vI a1), some (vI (v_X1_at m 1 g a1)), some (vI (v_X1_at m 3 g a1)), some (vI (nI j1))], [], x)) (fun h1 v9 m9 K4 => ?_) (fun h1 v9 m9 K4 => ?_) _ _ ?_
    · exact K4
    · refine an_b 3 (pc2 := 65) (L2 := [some (vR 0 0 g), some (vI a1), some (vI (v_X1_at m 1 g a1)), some (vI (v_X1_at m 3 g a1)), some (vI (nI j1))]) (st2 := [vI (nI j1), vR 1 3 g]) (m1 := s1) rfl ?_
      refine an_call (r_X1_at s1 3 g (nI j1)) rfl rfl rfl rfl ?_
      refine an_b 2 (pc2 := if (v_X1_at s1 3 g (nI j1)) ≤ (v_X1_at m 3 g a1) then 92 else 72) (L2 := [some (vR 0 0 g), some (vI a1), some (vI (v_X1_at m 1 g a1)), some (vI (v_X1_at m 3 g a1)), some (vI (nI j1))]) (st2 := []) (m1 := s1) rfl ?_
      refine re_if1 (c := (v_X1_at s1 3 g (nI j1)) ≤ (v_X1_at m 3 g a1)) (a := s1) (b := (w_X1_put s1 3 g (nI j1) ((v_X1_at s1 3 g (nI j1)) - (1 : Int32)))) (fun x => (92, [some (vR 0 0 g), some (vI a1), some (vI (v_X1_at m 1 g a1)), some (vI (v_X1_at m 3 g a1)), some (vI (nI j1))], [], x)) (fun h2 v9 m9 K3 => ?_) (fun h2 v9 m9 K3 => ?_) _ _ ?_
      · exact K3
      · refine an_b 6 (pc2 := 84) (L2 := [some (vR 0 0 g), some (vI a1), some (vI (v_X1_at m 1 g a1)), some (vI (v_X1_at m 3 g a1)), some (vI (nI j1))]) (st2 := [vI (nI j1), vR 1 3 g, vI (nI j1), vR 1 3 g]) (m1 := s1) rfl ?_
        refine an_call (r_X1_at s1 3 g (nI j1)) rfl rfl rfl rfl ?_
        refine an_b 2 (pc2 := 89) (L2 := [some (vR 0 0 g), some (vI a1), some (vI (v_X1_at m 1 g a1)), some (vI (v_X1_at m 3 g a1)), some (vI (nI j1))]) (st2 := [vI ((v_X1_at s1 3 g (nI j1)) - (1 : Int32)), vI (nI j1), vR 1 3 g]) (m1 := s1) rfl ?_
        refine an_call (r_X1_put s1 3 g (nI j1) ((v_X1_at s1 3 g (nI j1)) - (1 : Int32))) rfl rfl rfl rfl ?_
        exact K3
      exact K4
    refine an_b 2 (pc2 := 39) (L2 := [some (vR 0 0 g), some (vI a1), some (vI (v_X1_at m 1 g a1)), some (vI (v_X1_at m 3 g a1)), some (vI ((nI j1) + (1 : Int32)))]) (st2 := []) (m1 := (if ¬ (v_X1_at s1 1 g (nI j1)) = (v_X1_at m 1 g a1) then s1 else (if (v_X1_at s1 3 g (nI j1)) ≤ (v_X1_at m 3 g a1) then s1 else (w_X1_put s1 3 g (nI j1) ((v_X1_at s1 3 g (nI j1)) - (1 : Int32)))))) rfl ?_
    refine an_cL (K := [some (vR 0 0 g), some (vI a1), some (vI (v_X1_at m 1 g a1)), some (vI (v_X1_at m 3 g a1)), some (vI (nI (j1 + 1)))]) (by simp only [nI_1]) ?_
    exact K1
  · show An MX2_dequeue 39 [some (vR 0 0 g), some (vI a1), some (vI (v_X1_at m 1 g a1)), some (vI (v_X1_at m 3 g a1)), some (vI (nI 8))] [] s1 v9 m9
    refine an_b 3 (pc2 := if (8 : Int32) ≤ (nI 8) then 98 else 46) (L2 := [some (vR 0 0 g), some (vI a1), some (vI (v_X1_at m 1 g a1)), some (vI (v_X1_at m 3 g a1)), some (vI (nI 8))]) (st2 := []) (m1 := s1) rfl ?_
    refine an_t (nI_le (a := 8) (b := 8) (by omega) (by omega)) ?_
    refine an_weak (L := [some (vR 0 0 g), some (vI a1), some (vI (v_X1_at m 1 g a1)), some (vI (v_X1_at m 3 g a1)), none]) (⟨rfl, rfl, rfl, rfl, trivial⟩) ?_
    exact K1
  show An MX2_dequeue 98 [some (vR 0 0 g), some (vI a1), some (vI (v_X1_at m 1 g a1)), some (vI (v_X1_at m 3 g a1)), none] [] (lp (b_X2_dequeue_1 m g a1) 8 0 (w_X1_put (w_X1_put m 1 g a1 (-1 : Int32)) 2 g a1 (0 : Int32))) _ _
  exact an_ret rfl rfl rfl rfl rfl
def b_X2_clashes_1 (m : PM) (g : Nat) (a1 : Int32) (a2 : Int32) (a3 : Int32) (a4 : Int32)  (j1 : Nat) (s1 : Unit) : (Unit) ⊕ (Int32) := if (nI j1) = a3 then .inl () else if (nI j1) = a4 then .inl () else if ((v_X1_at m 0 g (v_X4_cell m (nI j1) a1)) + a2) ≤ (3 : Int32) then .inl () else .inr (1 : Int32)
def v_X2_clashes (m : PM) (g : Nat) (a1 : Int32) (a2 : Int32) (a3 : Int32) (a4 : Int32) : Int32 := (lqr (fun s1 : Unit => (0 : Int32)) (lq (b_X2_clashes_1 m g a1 a2 a3 a4) 8 0 ()))
set_option maxRecDepth 100000 in
theorem r_X2_clashes (m : PM) (g : Nat) (a1 : Int32) (a2 : Int32) (a3 : Int32) (a4 : Int32) : Rn MX2_clashes [vR 0 0 g, vI a1, vI a2, vI a3, vI a4] m (some (vI (v_X2_clashes m g a1 a2 a3 a4))) m := by
  refine rn_of [some (vR 0 0 g), some (vI a1), some (vI a2), some (vI a3), some (vI a4), none] rfl ?_
  unfold v_X2_clashes
  refine an_b 2 (pc2 := 3) (L2 := [some (vR 0 0 g), some (vI a1), some (vI a2), some (vI a3), some (vI a4), some (vI (0 : Int32))]) (st2 := []) (m1 := m) rfl ?_
  refine an_lq (σ := Unit) (ρ := Int32) (b_X2_clashes_1 m g a1 a2 a3 a4) (fun j1 s1 => (3, [some (vR 0 0 g), some (vI a1), some (vI a2), some (vI a3), some (vI a4), some (vI (nI j1))], [], m)) 8 (fun x9 => .inl (some (vI (lqr (fun s1 => (0 : Int32)) x9)))) (fun _ => m) (fun j1 s1 hj1 v9 m9 hc1 hr1 => ?_) (fun s1 => ?_) 8 0 () (Nat.add_zero _)
  · show An MX2_clashes 3 [some (vR 0 0 g), some (vI a1), some (vI a2), some (vI a3), some (vI a4), some (vI (nI j1))] [] m v9 m9
    refine an_b 3 (pc2 := if (8 : Int32) ≤ (nI j1) then 50 else 10) (L2 := [some (vR 0 0 g), some (vI a1), some (vI a2), some (vI a3), some (vI a4), some (vI (nI j1))]) (st2 := []) (m1 := m) rfl ?_
    refine an_f (nI_ge (a := j1) (b := 8) (by omega) (by omega)) ?_
    refine an_b 3 (pc2 := if (nI j1) = a3 then 44 else 16) (L2 := [some (vR 0 0 g), some (vI a1), some (vI a2), some (vI a3), some (vI a4), some (vI (nI j1))]) (st2 := []) (m1 := m) rfl ?_
    refine an_if (c := (nI j1) = a3) (fun h1 => ?_) (fun h1 => ?_)
    · refine an_b 2 (pc2 := 3) (L2 := [some (vR 0 0 g), some (vI a1), some (vI a2), some (vI a3), some (vI a4), some (vI ((nI j1) + (1 : Int32)))]) (st2 := []) (m1 := m) rfl ?_
      refine an_cL (K := [some (vR 0 0 g), some (vI a1), some (vI a2), some (vI a3), some (vI a4), some (vI (nI (j1 + 1)))]) (by simp only [nI_1]) ?_
      exact hc1 _ (by unfold b_X2_clashes_1; rw [if_pos h1])
    · refine an_b 3 (pc2 := if (nI j1) = a4 then 44 else 23) (L2 := [some (vR 0 0 g), some (vI a1), some (vI a2), some (vI a3), some (vI a4), some (vI (nI j1))]) (st2 := []) (m1 := m) rfl ?_
      refine an_if (c := (nI j1) = a4) (fun h2 => ?_) (fun h2 => ?_)
      · refine an_b 2 (pc2 := 3) (L2 := [some (vR 0 0 g), some (vI a1), some (vI a2), some (vI a3), some (vI a4), some (vI ((nI j1) + (1 : Int32)))]) (st2 := []) (m1 := m) rfl ?_
        refine an_cL (K := [some (vR 0 0 g), some (vI a1), some (vI a2), some (vI a3), some (vI a4), some (vI (nI (j1 + 1)))]) (by simp only [nI_1]) ?_
        exact hc1 _ (by unfold b_X2_clashes_1; rw [if_neg h1, if_pos h2])
      · refine an_b 4 (pc2 := 30) (L2 := [some (vR 0 0 g), some (vI a1), some (vI a2), some (vI a3), some (vI a4), some (vI (nI j1))]) (st2 := [vI a1, vI (nI j1), vR 1 0 g]) (m1 := m) rfl ?_
        refine an_call (r_X4_cell m (nI j1) a1) rfl rfl rfl rfl ?_
        refine an_call (r_X1_at m 0 g (v_X4_cell m (nI j1) a1)) rfl rfl rfl rfl ?_
        refine an_b 4 (pc2 := if ((v_X1_at m 0 g (v_X4_cell m (nI j1) a1)) + a2) ≤ (3 : Int32) then 44 else 42) (L2 := [some (vR 0 0 g), some (vI a1), some (vI a2), some (vI a3), some (vI a4), some (vI (nI j1))]) (st2 := []) (m1 := m) rfl ?_
        refine an_if (c := ((v_X1_at m 0 g (v_X4_cell m (nI j1) a1)) + a2) ≤ (3 : Int32)) (fun h3 => ?_) (fun h3 => ?_)
        · refine an_b 2 (pc2 := 3) (L2 := [some (vR 0 0 g), some (vI a1), some (vI a2), some (vI a3), some (vI a4), some (vI ((nI j1) + (1 : Int32)))]) (st2 := []) (m1 := m) rfl ?_
          refine an_cL (K := [some (vR 0 0 g), some (vI a1), some (vI a2), some (vI a3), some (vI a4), some (vI (nI (j1 + 1)))]) (by simp only [nI_1]) ?_
          exact hc1 _ (by unfold b_X2_clashes_1; rw [if_neg h1, if_neg h2, if_pos h3])
        · refine an_b 1 (pc2 := 43) (L2 := [some (vR 0 0 g), some (vI a1), some (vI a2), some (vI a3), some (vI a4), some (vI (nI j1))]) (st2 := [vI (1 : Int32)]) (m1 := m) rfl ?_
          obtain ⟨rfl, rfl⟩ := hr1 _ (by unfold b_X2_clashes_1; rw [if_neg h1, if_neg h2, if_neg h3])
          exact an_ret rfl rfl rfl rfl rfl
  · show An MX2_clashes 3 [some (vR 0 0 g), some (vI a1), some (vI a2), some (vI a3), some (vI a4), some (vI (nI 8))] [] m _ _
    refine an_b 3 (pc2 := if (8 : Int32) ≤ (nI 8) then 50 else 10) (L2 := [some (vR 0 0 g), some (vI a1), some (vI a2), some (vI a3), some (vI a4), some (vI (nI 8))]) (st2 := []) (m1 := m) rfl ?_
    refine an_t (nI_le (a := 8) (b := 8) (by omega) (by omega)) ?_
    refine an_b 1 (pc2 := 51) (L2 := [some (vR 0 0 g), some (vI a1), some (vI a2), some (vI a3), some (vI a4), some (vI (nI 8))]) (st2 := [vI (0 : Int32)]) (m1 := m) rfl ?_
    exact an_ret rfl rfl rfl rfl rfl
def w_X2_grant (m : PM) (g : Nat) (a1 : Int32) : PM := (w_X2_dequeue (w_X1_raise (w_X1_put m 0 g (v_X4_cell m a1 (v_X1_at m 1 g a1)) (v_X1_at m 2 g a1)) 8 g a1) g a1)
set_option maxRecDepth 100000 in
theorem r_X2_grant (m : PM) (g : Nat) (a1 : Int32) : Rn MX2_grant [vR 0 0 g, vI a1] m none (w_X2_grant m g a1) := by
  refine rn_of [some (vR 0 0 g), some (vI a1)] rfl ?_
  unfold w_X2_grant
  refine an_b 6 (pc2 := 10) (L2 := [some (vR 0 0 g), some (vI a1)]) (st2 := [vI a1, vR 1 1 g, vI a1, vR 1 0 g]) (m1 := m) rfl ?_
  refine an_call (r_X1_at m 1 g a1) rfl rfl rfl rfl ?_
  refine an_call (r_X4_cell m a1 (v_X1_at m 1 g a1)) rfl rfl rfl rfl ?_
  refine an_b 3 (pc2 := 21) (L2 := [some (vR 0 0 g), some (vI a1)]) (st2 := [vI a1, vR 1 2 g, vI (v_X4_cell m a1 (v_X1_at m 1 g a1)), vR 1 0 g]) (m1 := m) rfl ?_
  refine an_call (r_X1_at m 2 g a1) rfl rfl rfl rfl ?_
  refine an_call (r_X1_put m 0 g (v_X4_cell m a1 (v_X1_at m 1 g a1)) (v_X1_at m 2 g a1)) rfl rfl rfl rfl ?_
  refine an_b 3 (pc2 := 32) (L2 := [some (vR 0 0 g), some (vI a1)]) (st2 := [vI a1, vR 1 8 g]) (m1 := (w_X1_put m 0 g (v_X4_cell m a1 (v_X1_at m 1 g a1)) (v_X1_at m 2 g a1))) rfl ?_
  refine an_call (r_X1_raise (w_X1_put m 0 g (v_X4_cell m a1 (v_X1_at m 1 g a1)) (v_X1_at m 2 g a1)) 8 g a1) rfl rfl rfl rfl ?_
  refine an_b 2 (pc2 := 37) (L2 := [some (vR 0 0 g), some (vI a1)]) (st2 := [vI a1, vR 0 0 g]) (m1 := (w_X1_raise (w_X1_put m 0 g (v_X4_cell m a1 (v_X1_at m 1 g a1)) (v_X1_at m 2 g a1)) 8 g a1)) rfl ?_
  refine an_call (r_X2_dequeue (w_X1_raise (w_X1_put m 0 g (v_X4_cell m a1 (v_X1_at m 1 g a1)) (v_X1_at m 2 g a1)) 8 g a1) g a1) rfl rfl rfl rfl ?_
  exact an_ret rfl rfl rfl rfl rfl
def b_X2_settle_1 (m : PM) (g : Nat) (a1 : Int32)  (j1 : Nat) (s1 : Int32 × PM) : (Int32 × PM) ⊕ (Int32 × PM) := if (v_X2_handAt s1.2 g a1 (0 : Int32)) = (-1 : Int32) then .inr (s1.1, s1.2) else if (v_X2_clashes s1.2 g a1 (v_X1_at s1.2 2 g (v_X2_handAt s1.2 g a1 (0 : Int32))) (v_X2_handAt s1.2 g a1 (0 : Int32)) (v_X2_handAt s1.2 g a1 (0 : Int32))) = 0 then .inl (s1.1 + (1 : Int32), (w_X2_grant s1.2 g (v_X2_handAt s1.2 g a1 (0 : Int32)))) else .inr (s1.1, s1.2)
def v_X2_settle (m : PM) (g : Nat) (a1 : Int32) : Int32 := (lqv (lq (b_X2_settle_1 m g a1) 8 0 ((0 : Int32), m))).1
def w_X2_settle (m : PM) (g : Nat) (a1 : Int32) : PM := (lqv (lq (b_X2_settle_1 m g a1) 8 0 ((0 : Int32), m))).2
set_option maxRecDepth 100000 in
theorem r_X2_settle (m : PM) (g : Nat) (a1 : Int32) : Rn MX2_settle [vR 0 0 g, vI a1] m (some (vI (v_X2_settle m g a1))) (w_X2_settle m g a1) := by
  refine rn_of [some (vR 0 0 g), some (vI a1), none, none, none] rfl ?_
  unfold v_X2_settle w_X2_settle
  refine an_b 4 (pc2 := 4) (L2 := [some (vR 0 0 g), some (vI a1), some (vI (0 : Int32)), some (vI (0 : Int32)), none]) (st2 := []) (m1 := m) rfl ?_
  refine re_lq (σ := Int32 × PM) (ρ := Int32 × PM) (b_X2_settle_1 m g a1) (fun j1 s1 => (4, [some (vR 0 0 g), some (vI a1), some (vI s1.1), some (vI (nI j1)), none], [], s1.2)) 8 (fun x9 => (63, [some (vR 0 0 g), some (vI a1), some (vI ((lqv x9).1)), none, none], [], (lqv x9).2)) (fun j1 s1 hj1 v9 m9 hc1 hr1 => ?_) (fun s1 v9 m9 K1 => ?_) 8 0 ((0 : Int32), m) (Nat.add_zero _) _ _ ?_
  · show An MX2_settle 4 [some (vR 0 0 g), some (vI a1), some (vI s1.1), some (vI (nI j1)), none] [] s1.2 v9 m9
    refine an_b 3 (pc2 := if (8 : Int32) ≤ (nI j1) then 63 else 10) (L2 := [some (vR 0 0 g), some (vI a1), some (vI s1.1), some (vI (nI j1)), none]) (st2 := []) (m1 := s1.2) rfl ?_
    refine an_f (nI_ge (a := j1) (b := 8) (by omega) (by omega)) ?_
    refine an_b 3 (pc2 := 13) (L2 := [some (vR 0 0 g), some (vI a1), some (vI s1.1), some (vI (nI j1)), none]) (st2 := [vI (0 : Int32), vI a1, vR 0 0 g]) (m1 := s1.2) rfl ?_
    refine an_call (r_X2_handAt s1.2 g a1 (0 : Int32)) rfl rfl rfl rfl ?_
    refine an_b 4 (pc2 := if (v_X2_handAt s1.2 g a1 (0 : Int32)) = (-1 : Int32) then 63 else 24) (L2 := [some (vR 0 0 g), some (vI a1), some (vI s1.1), some (vI (nI j1)), some (vI (v_X2_handAt s1.2 g a1 (0 : Int32)))]) (st2 := []) (m1 := s1.2) rfl ?_
    refine an_if (c := (v_X2_handAt s1.2 g a1 (0 : Int32)) = (-1 : Int32)) (fun h1 => ?_) (fun h1 => ?_)
    · refine an_weak (L := [some (vR 0 0 g), some (vI a1), some (vI s1.1), none, none]) (⟨rfl, rfl, rfl, trivial⟩) ?_
      exact hr1 _ (by unfold b_X2_settle_1; rw [if_pos h1])
    · refine an_b 5 (pc2 := 32) (L2 := [some (vR 0 0 g), some (vI a1), some (vI s1.1), some (vI (nI j1)), some (vI (v_X2_handAt s1.2 g a1 (0 : Int32)))]) (st2 := [vI (v_X2_handAt s1.2 g a1 (0 : Int32)), vR 1 2 g, vI a1, vR 0 0 g]) (m1 := s1.2) rfl ?_
      refine an_call (r_X1_at s1.2 2 g (v_X2_handAt s1.2 g a1 (0 : Int32))) rfl rfl rfl rfl ?_
      refine an_b 2 (pc2 := 39) (L2 := [some (vR 0 0 g), some (vI a1), some (vI s1.1), some (vI (nI j1)), some (vI (v_X2_handAt s1.2 g a1 (0 : Int32)))]) (st2 := [vI (v_X2_handAt s1.2 g a1 (0 : Int32)), vI (v_X2_handAt s1.2 g a1 (0 : Int32)), vI (v_X1_at s1.2 2 g (v_X2_handAt s1.2 g a1 (0 : Int32))), vI a1, vR 0 0 g]) (m1 := s1.2) rfl ?_
      refine an_call (r_X2_clashes s1.2 g a1 (v_X1_at s1.2 2 g (v_X2_handAt s1.2 g a1 (0 : Int32))) (v_X2_handAt s1.2 g a1 (0 : Int32)) (v_X2_handAt s1.2 g a1 (0 : Int32))) rfl rfl rfl rfl ?_
      refine an_b 1 (pc2 := if (v_X2_clashes s1.2 g a1 (v_X1_at s1.2 2 g (v_X2_handAt s1.2 g a1 (0 : Int32))) (v_X2_handAt s1.2 g a1 (0 : Int32)) (v_X2_handAt s1.2 g a1 (0 : Int32))) = 0 then 48 else 45) (L2 := [some (vR 0 0 g), some (vI a1), some (vI s1.1), some (vI (nI j1)), some (vI (v_X2_handAt s1.2 g a1 (0 : Int32)))]) (st2 := []) (m1 := s1.2) rfl ?_
      refine an_if (c := (v_X2_clashes s1.2 g a1 (v_X1_at s1.2 2 g (v_X2_handAt s1.2 g a1 (0 : Int32))) (v_X2_handAt s1.2 g a1 (0 : Int32)) (v_X2_handAt s1.2 g a1 (0 : Int32))) = 0) (fun h2 => ?_) (fun h2 => ?_)
      · refine an_b 2 (pc2 := 51) (L2 := [some (vR 0 0 g), some (vI a1), some (vI s1.1), some (vI (nI j1)), some (vI (v_X2_handAt s1.2 g a1 (0 : Int32)))]) (st2 := [vI (v_X2_handAt s1.2 g a1 (0 : Int32)), vR 0 0 g]) (m1 := s1.2) rfl ?_
        refine an_call (r_X2_grant s1.2 g (v_X2_handAt s1.2 g a1 (0 : Int32))) rfl rfl rfl rfl ?_
        refine an_b 3 (pc2 := 4) (L2 := [some (vR 0 0 g), some (vI a1), some (vI (s1.1 + (1 : Int32))), some (vI ((nI j1) + (1 : Int32))), some (vI (v_X2_handAt s1.2 g a1 (0 : Int32)))]) (st2 := []) (m1 := (w_X2_grant s1.2 g (v_X2_handAt s1.2 g a1 (0 : Int32)))) rfl ?_
        refine an_weak (L := [some (vR 0 0 g), some (vI a1), some (vI (s1.1 + (1 : Int32))), some (vI ((nI j1) + (1 : Int32))), none]) (⟨rfl, rfl, rfl, rfl, trivial⟩) ?_
        refine an_cL (K := [some (vR 0 0 g), some (vI a1), some (vI (s1.1 + (1 : Int32))), some (vI (nI (j1 + 1))), none]) (by simp only [nI_1]) ?_
        exact hc1 _ (by unfold b_X2_settle_1; rw [if_neg h1, if_pos h2])
      · refine an_b 1 (pc2 := 63) (L2 := [some (vR 0 0 g), some (vI a1), some (vI s1.1), some (vI (nI j1)), some (vI (v_X2_handAt s1.2 g a1 (0 : Int32)))]) (st2 := []) (m1 := s1.2) rfl ?_
        refine an_weak (L := [some (vR 0 0 g), some (vI a1), some (vI s1.1), none, none]) (⟨rfl, rfl, rfl, trivial⟩) ?_
        exact hr1 _ (by unfold b_X2_settle_1; rw [if_neg h1, if_neg h2])
  · show An MX2_settle 4 [some (vR 0 0 g), some (vI a1), some (vI s1.1), some (vI (nI 8)), none] [] s1.2 v9 m9
    refine an_b 3 (pc2 := if (8 : Int32) ≤ (nI 8) then 63 else 10) (L2 := [some (vR 0 0 g), some (vI a1), some (vI s1.1), some (vI (nI 8)), none]) (st2 := []) (m1 := s1.2) rfl ?_
    refine an_t (nI_le (a := 8) (b := 8) (by omega) (by omega)) ?_
    refine an_weak (L := [some (vR 0 0 g), some (vI a1), some (vI s1.1), none, none]) (⟨rfl, rfl, rfl, trivial⟩) ?_
    exact K1
  show An MX2_settle 63 [some (vR 0 0 g), some (vI a1), some (vI ((lqv (lq (b_X2_settle_1 m g a1) 8 0 ((0 : Int32), m))).1)), none, none] [] (lqv (lq (b_X2_settle_1 m g a1) 8 0 ((0 : Int32), m))).2 _ _
  refine an_b 1 (pc2 := 64) (L2 := [some (vR 0 0 g), some (vI a1), some (vI ((lqv (lq (b_X2_settle_1 m g a1) 8 0 ((0 : Int32), m))).1)), none, none]) (st2 := [vI ((lqv (lq (b_X2_settle_1 m g a1) 8 0 ((0 : Int32), m))).1)]) (m1 := (lqv (lq (b_X2_settle_1 m g a1) 8 0 ((0 : Int32), m))).2) rfl ?_
  exact an_ret rfl rfl rfl rfl rfl
