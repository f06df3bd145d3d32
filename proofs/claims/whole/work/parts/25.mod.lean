def v_X5_thrown (m : PM)  : Int32 := (m.1 7 0 0 5)
set_option maxRecDepth 100000 in
theorem r_X5_thrown (m : PM)  : Rn MX5_thrown [vR 7 0 0] m (some (vI (v_X5_thrown m))) m := by
  refine rn_of [some (vR 7 0 0)] rfl ?_
  unfold v_X5_thrown
  refine an_b 2 (pc2 := 4) (L2 := [some (vR 7 0 0)]) (st2 := [vI (m.1 7 0 0 5)]) (m1 := m) rfl ?_
  exact an_ret rfl rfl rfl rfl rfl
def v_X5_within (m : PM) (a1 : Int32) (a2 : Int32) (a3 : Int32) : Int32 := (if a1 < a2 then (0 : Int32) else (if a3 < a1 then (0 : Int32) else (1 : Int32)))
theorem z_X5_within (m : PM) (a1 : Int32) (a2 : Int32) (a3 : Int32) : (v_X5_within m a1 a2 a3) = 0 ∨ (v_X5_within m a1 a2 a3) = 1 := by
  unfold v_X5_within
  (repeat' split) <;> first | exact Or.inl rfl | exact Or.inr rfl
set_option maxRecDepth 100000 in
theorem r_X5_within (m : PM) (a1 : Int32) (a2 : Int32) (a3 : Int32) : Rn MX5_within [vI a1, vI a2, vI a3] m (some (vI (v_X5_within m a1 a2 a3))) m := by
  refine rn_of [some (vI a1), some (vI a2), some (vI a3)] rfl ?_
  unfold v_X5_within
  refine an_b 3 (pc2 := if a1 < a2 then 14 else 5) (L2 := [some (vI a1), some (vI a2), some (vI a3)]) (st2 := []) (m1 := m) rfl ?_
  refine an_ifi (c := a1 < a2) (fun h1 => ?_) (fun h1 => ?_)
  · refine an_b 1 (pc2 := 15) (L2 := [some (vI a1), some (vI a2), some (vI a3)]) (st2 := [vI (0 : Int32)]) (m1 := m) rfl ?_
    exact an_ret rfl rfl rfl rfl rfl
  · refine an_b 3 (pc2 := if a3 < a1 then 14 else 10) (L2 := [some (vI a1), some (vI a2), some (vI a3)]) (st2 := []) (m1 := m) rfl ?_
    refine an_ifi (c := a3 < a1) (fun h2 => ?_) (fun h2 => ?_)
    · refine an_b 1 (pc2 := 15) (L2 := [some (vI a1), some (vI a2), some (vI a3)]) (st2 := [vI (0 : Int32)]) (m1 := m) rfl ?_
      exact an_ret rfl rfl rfl rfl rfl
    · refine an_b 2 (pc2 := 15) (L2 := [some (vI a1), some (vI a2), some (vI a3)]) (st2 := [vI (1 : Int32)]) (m1 := m) rfl ?_
      exact an_ret rfl rfl rfl rfl rfl
def v_X5_isHand (m : PM) (a1 : Int32) : Int32 := (v_X5_within m a1 (0 : Int32) (7 : Int32))
theorem z_X5_isHand (m : PM) (a1 : Int32) : (v_X5_isHand m a1) = 0 ∨ (v_X5_isHand m a1) = 1 := by
  unfold v_X5_isHand
  (repeat' split) <;> first | exact Or.inl rfl | exact Or.inr rfl | exact z_X5_within _ _ _ _
set_option maxRecDepth 100000 in
theorem r_X5_isHand (m : PM) (a1 : Int32) : Rn MX5_isHand [vI a1] m (some (vI (v_X5_isHand m a1))) m := by
  refine rn_of [some (vI a1)] rfl ?_
  unfold v_X5_isHand
  refine an_b 3 (pc2 := 4) (L2 := [some (vI a1)]) (st2 := [vI (7 : Int32), vI (0 : Int32), vI a1]) (m1 := m) rfl ?_
  refine an_call (r_X5_within m a1 (0 : Int32) (7 : Int32)) rfl rfl rfl rfl ?_
  exact an_retz (z_X5_within m a1 (0 : Int32) (7 : Int32)) rfl rfl
def v_X5_isRow (m : PM) (a1 : Int32) : Int32 := (v_X5_within m a1 (0 : Int32) (11 : Int32))
theorem z_X5_isRow (m : PM) (a1 : Int32) : (v_X5_isRow m a1) = 0 ∨ (v_X5_isRow m a1) = 1 := by
  unfold v_X5_isRow
  (repeat' split) <;> first | exact Or.inl rfl | exact Or.inr rfl | exact z_X5_within _ _ _ _
set_option maxRecDepth 100000 in
theorem r_X5_isRow (m : PM) (a1 : Int32) : Rn MX5_isRow [vI a1] m (some (vI (v_X5_isRow m a1))) m := by
  refine rn_of [some (vI a1)] rfl ?_
  unfold v_X5_isRow
  refine an_b 3 (pc2 := 4) (L2 := [some (vI a1)]) (st2 := [vI (11 : Int32), vI (0 : Int32), vI a1]) (m1 := m) rfl ?_
  refine an_call (r_X5_within m a1 (0 : Int32) (11 : Int32)) rfl rfl rfl rfl ?_
  exact an_retz (z_X5_within m a1 (0 : Int32) (11 : Int32)) rfl rfl
def v_X5_areThere (m : PM) (a1 : Int32) (a2 : Int32) : Int32 := (if (v_X5_isHand m a1) = 0 then (0 : Int32) else (if (v_X5_isRow m a2) = 0 then (0 : Int32) else (1 : Int32)))
theorem z_X5_areThere (m : PM) (a1 : Int32) (a2 : Int32) : (v_X5_areThere m a1 a2) = 0 ∨ (v_X5_areThere m a1 a2) = 1 := by
  unfold v_X5_areThere
  (repeat' split) <;> first | exact Or.inl rfl | exact Or.inr rfl | exact z_X5_isHand _ _ | exact z_X5_isRow _ _
set_option maxRecDepth 100000 in
theorem r_X5_areThere (m : PM) (a1 : Int32) (a2 : Int32) : Rn MX5_areThere [vI a1, vI a2] m (some (vI (v_X5_areThere m a1 a2))) m := by
  refine rn_of [some (vI a1), some (vI a2)] rfl ?_
  unfold v_X5_areThere
  refine an_b 1 (pc2 := 1) (L2 := [some (vI a1), some (vI a2)]) (st2 := [vI a1]) (m1 := m) rfl ?_
  refine an_call (r_X5_isHand m a1) rfl rfl rfl rfl ?_
  refine an_b 1 (pc2 := if (v_X5_isHand m a1) = 0 then 18 else 7) (L2 := [some (vI a1), some (vI a2)]) (st2 := []) (m1 := m) rfl ?_
  refine an_ifi (c := (v_X5_isHand m a1) = 0) (fun h1 => ?_) (fun h1 => ?_)
  · refine an_b 1 (pc2 := 19) (L2 := [some (vI a1), some (vI a2)]) (st2 := [vI (0 : Int32)]) (m1 := m) rfl ?_
    exact an_ret rfl rfl rfl rfl rfl
  · refine an_b 1 (pc2 := 8) (L2 := [some (vI a1), some (vI a2)]) (st2 := [vI a2]) (m1 := m) rfl ?_
    refine an_call (r_X5_isRow m a2) rfl rfl rfl rfl ?_
    refine an_b 1 (pc2 := if (v_X5_isRow m a2) = 0 then 18 else 14) (L2 := [some (vI a1), some (vI a2)]) (st2 := []) (m1 := m) rfl ?_
    refine an_ifi (c := (v_X5_isRow m a2) = 0) (fun h2 => ?_) (fun h2 => ?_)
    · refine an_b 1 (pc2 := 19) (L2 := [some (vI a1), some (vI a2)]) (st2 := [vI (0 : Int32)]) (m1 := m) rfl ?_
      exact an_ret rfl rfl rfl rfl rfl
    · refine an_b 2 (pc2 := 19) (L2 := [some (vI a1), some (vI a2)]) (st2 := [vI (1 : Int32)]) (m1 := m) rfl ?_
      exact an_ret rfl rfl rfl rfl rfl
def v_X5_lockOf (m : PM) (a1 : Nat) (a2 : Nat) : Int32 := (m.1 8 0 0 ((5 + (12 * a1)) + a2))
set_option maxRecDepth 100000 in
theorem r_X5_lockOf (m : PM) (a1 : Nat) (a2 : Nat) (ha1 : a1 < 8) (ha2 : a2 < 12) : Rn MX5_lockOf [vR 7 0 0, vI (nI a1), vI (nI a2)] m (some (vI (v_X5_lockOf m a1 a2))) m := by
  refine rn_of [some (vR 7 0 0), some (vI (nI a1)), some (vI (nI a2))] rfl ?_
  unfold v_X5_lockOf
  refine an_b 9 (pc2 := 12) (L2 := [some (vR 7 0 0), some (vI (nI a1)), some (vI (nI a2))]) (st2 := [vI (((5 : Int32) + ((12 : Int32) * (nI a1))) + (nI a2)), vR 8 0 0]) (m1 := m) rfl ?_
  refine an_ald ((5 + (12 * a1)) + a2) 361 rfl rfl (by simp only [ix_lit, pk_mul, nI_add]) (by omega) (by omega) ?_
  exact an_ret rfl rfl rfl rfl rfl
def w_X5_setLock (m : PM) (a1 : Nat) (a2 : Nat) (a3 : Int32) : PM := (wI m 8 0 0 ((5 + (12 * a1)) + a2) a3)
set_option maxRecDepth 100000 in
theorem r_X5_setLock (m : PM) (a1 : Nat) (a2 : Nat) (a3 : Int32) (ha1 : a1 < 8) (ha2 : a2 < 12) : Rn MX5_setLock [vR 7 0 0, vI (nI a1), vI (nI a2), vI a3] m none (w_X5_setLock m a1 a2 a3) := by
  refine rn_of [some (vR 7 0 0), some (vI (nI a1)), some (vI (nI a2)), some (vI a3)] rfl ?_
  unfold w_X5_setLock
  refine an_b 10 (pc2 := 13) (L2 := [some (vR 7 0 0), some (vI (nI a1)), some (vI (nI a2)), some (vI a3)]) (st2 := [vI a3, vI (((5 : Int32) + ((12 : Int32) * (nI a1))) + (nI a2)), vR 8 0 0]) (m1 := m) rfl ?_
  refine an_ast ((5 + (12 * a1)) + a2) 361 rfl rfl (by decide) (by simp only [ix_lit, pk_mul, nI_add]) (by omega) (by omega) ?_
  exact an_ret rfl rfl rfl rfl rfl
def v_X5_whoAt (m : PM) (a1 : Nat) (a2 : Nat) : Int32 := (m.1 8 0 0 ((137 + (8 * a1)) + a2))
set_option maxRecDepth 100000 in
theorem r_X5_whoAt (m : PM) (a1 : Nat) (a2 : Nat) (ha1 : a1 < 12) (ha2 : a2 < 8) : Rn MX5_whoAt [vR 7 0 0, vI (nI a1), vI (nI a2)] m (some (vI (v_X5_whoAt m a1 a2))) m := by
  refine rn_of [some (vR 7 0 0), some (vI (nI a1)), some (vI (nI a2))] rfl ?_
  unfold v_X5_whoAt
  refine an_b 9 (pc2 := 14) (L2 := [some (vR 7 0 0), some (vI (nI a1)), some (vI (nI a2))]) (st2 := [vI (((137 : Int32) + ((8 : Int32) * (nI a1))) + (nI a2)), vR 8 0 0]) (m1 := m) rfl ?_
  refine an_ald ((137 + (8 * a1)) + a2) 361 rfl rfl (by simp only [ix_lit, pk_mul, nI_add]) (by omega) (by omega) ?_
  exact an_ret rfl rfl rfl rfl rfl
def v_X5_modeAt (m : PM) (a1 : Nat) (a2 : Nat) : Int32 := (m.1 8 0 0 ((233 + (8 * a1)) + a2))
set_option maxRecDepth 100000 in
theorem r_X5_modeAt (m : PM) (a1 : Nat) (a2 : Nat) (ha1 : a1 < 12) (ha2 : a2 < 8) : Rn MX5_modeAt [vR 7 0 0, vI (nI a1), vI (nI a2)] m (some (vI (v_X5_modeAt m a1 a2))) m := by
  refine rn_of [some (vR 7 0 0), some (vI (nI a1)), some (vI (nI a2))] rfl ?_
  unfold v_X5_modeAt
  refine an_b 9 (pc2 := 14) (L2 := [some (vR 7 0 0), some (vI (nI a1)), some (vI (nI a2))]) (st2 := [vI (((233 : Int32) + ((8 : Int32) * (nI a1))) + (nI a2)), vR 8 0 0]) (m1 := m) rfl ?_
  refine an_ald ((233 + (8 * a1)) + a2) 361 rfl rfl (by simp only [ix_lit, pk_mul, nI_add]) (by omega) (by omega) ?_
  exact an_ret rfl rfl rfl rfl rfl
def b_X5_placeIn_1 (m : PM) (a1 : Int32) (a2 : Nat)  (j1 : Nat) (s1 : Int32) : Int32 := (if ¬ (v_X5_whoAt m a2 j1) = a1 then s1 else (nI j1))
def v_X5_placeIn (m : PM) (a1 : Int32) (a2 : Nat) : Int32 := (lp (b_X5_placeIn_1 m a1 a2) ((m.1 8 0 0 (125 + a2))).toNatClampNeg 0 (-1 : Int32))
set_option maxRecDepth 100000 in
theorem r_X5_placeIn (m : PM) (a1 : Int32) (a2 : Nat) (ha2 : a2 < 12) (hQ : QL m) : Rn MX5_placeIn [vR 7 0 0, vI a1, vI (nI a2)] m (some (vI (v_X5_placeIn m a1 a2))) m := by
  refine rn_of [some (vR 7 0 0), some (vI a1), some (vI (nI a2)), none, none] rfl ?_
  unfold v_X5_placeIn
  refine an_b 4 (pc2 := 5) (L2 := [some (vR 7 0 0), some (vI a1), some (vI (nI a2)), some (vI (-1 : Int32)), some (vI (0 : Int32))]) (st2 := []) (m1 := m) rfl ?_
  refine re_lp (σ := Int32) (b_X5_placeIn_1 m a1 a2) (fun j1 s1 => (5, [some (vR 7 0 0), some (vI a1), some (vI (nI a2)), some (vI s1), some (vI (nI j1))], [], m)) ((m.1 8 0 0 (125 + a2))).toNatClampNeg (fun s1 => (43, [some (vR 7 0 0), some (vI a1), some (vI (nI a2)), some (vI s1), none], [], m)) (fun j1 s1 hj1 v9 m9 K1 => ?_) (fun s1 v9 m9 K1 => ?_) ((m.1 8 0 0 (125 + a2))).toNatClampNeg 0 (-1 : Int32) (Nat.add_zero _) _ _ ?_
  · show An MX5_placeIn 5 [some (vR 7 0 0), some (vI a1), some (vI (nI a2)), some (vI s1), some (vI (nI j1))] [] m v9 m9
    have hq1 := hQ a2 (by omega)
    refine an_b 6 (pc2 := 15) (L2 := [some (vR 7 0 0), some (vI a1), some (vI (nI a2)), some (vI s1), some (vI (nI j1))]) (st2 := [vI ((125 : Int32) + (nI a2)), vR 8 0 0, vI (nI j1)]) (m1 := m) rfl ?_
    refine an_ald (125 + a2) 361 rfl rfl (by simp only [ix_lit, pk_mul, nI_add]) (by omega) (by omega) ?_
    refine an_b 1 (pc2 := if (m.1 8 0 0 (125 + a2)) ≤ (nI j1) then 43 else 19) (L2 := [some (vR 7 0 0), some (vI a1), some (vI (nI a2)), some (vI s1), some (vI (nI j1))]) (st2 := []) (m1 := m) rfl ?_
    refine an_f (bnd_lt hj1) ?_
    refine an_b 3 (pc2 := 23) (L2 := [some (vR 7 0 0), some (vI a1), some (vI (nI a2)), some (vI s1), some (vI (nI j1))]) (st2 := [vI (nI j1), vI (nI a2), vR 7 0 0]) (m1 := m) rfl ?_
    refine an_call (r_X5_whoAt m a2 j1 (by omega) (by omega)) rfl rfl rfl rfl ?_
    refine an_b 2 (pc2 := if ¬ (v_X5_whoAt m a2 j1) = a1 then 35 else 30) (L2 := [some (vR 7 0 0), some (vI a1), some (vI (nI a2)), some (vI s1), some (vI (nI j1))]) (st2 := []) (m1 := m) rfl ?_
    refine re_if1 (c := ¬ (v_X5_whoAt m a2 j1) = a1) (a := s1) (b := (nI j1)) (fun x => (36, [some (vR 7 0 0), some (vI a1), some (vI (nI a2)), some (vI s1), some (vI (nI j1))], [vI x], m)) (fun h1 v9 m9 K2 => ?_) (fun h1 v9 m9 K2 => ?_) _ _ ?_
    · refine an_b 1 (pc2 := 36) (L2 := [some (vR 7 0 0), some (vI a1), some (vI (nI a2)), some (vI s1), some (vI (nI j1))]) (st2 := [vI s1]) (m1 := m) rfl ?_
      exact K2
    · refine an_b 2 (pc2 := 36) (L2 := [some (vR 7 0 0), some (vI a1), some (vI (nI a2)), some (vI s1), some (vI (nI j1))]) (st2 := [vI (nI j1)]) (m1 := m) rfl ?_
      exact K2
    refine an_b 3 (pc2 := 5) (L2 := [some (vR 7 0 0), some (vI a1), some (vI (nI a2)), some (vI (if ¬ (v_X5_whoAt m a2 j1) = a1 then s1 else (nI j1))), some (vI ((nI j1) + (1 : Int32)))]) (st2 := []) (m1 := m) rfl ?_
    refine an_cL (K := [some (vR 7 0 0), some (vI a1), some (vI (nI a2)), some (vI (if ¬ (v_X5_whoAt m a2 j1) = a1 then s1 else (nI j1))), some (vI (nI (j1 + 1)))]) (by simp only [nI_1]) ?_
    exact K1
  · show An MX5_placeIn 5 [some (vR 7 0 0), some (vI a1), some (vI (nI a2)), some (vI s1), some (vI (nI (((m.1 8 0 0 (125 + a2))).toNatClampNeg)))] [] m v9 m9
    refine an_b 6 (pc2 := 15) (L2 := [some (vR 7 0 0), some (vI a1), some (vI (nI a2)), some (vI s1), some (vI (nI (((m.1 8 0 0 (125 + a2))).toNatClampNeg)))]) (st2 := [vI ((125 : Int32) + (nI a2)), vR 8 0 0, vI (nI (((m.1 8 0 0 (125 + a2))).toNatClampNeg))]) (m1 := m) rfl ?_
    refine an_ald (125 + a2) 361 rfl rfl (by simp only [ix_lit, pk_mul, nI_add]) (by omega) (by omega) ?_
    refine an_b 1 (pc2 := if (m.1 8 0 0 (125 + a2)) ≤ (nI (((m.1 8 0 0 (125 + a2))).toNatClampNeg)) then 43 else 19) (L2 := [some (vR 7 0 0), some (vI a1), some (vI (nI a2)), some (vI s1), some (vI (nI (((m.1 8 0 0 (125 + a2))).toNatClampNeg)))]) (st2 := []) (m1 := m) rfl ?_
    refine an_t (bnd_ge rfl) ?_
    refine an_weak (L := [some (vR 7 0 0), some (vI a1), some (vI (nI a2)), some (vI s1), none]) (⟨rfl, rfl, rfl, rfl, trivial⟩) ?_
    exact K1
  show An MX5_placeIn 43 [some (vR 7 0 0), some (vI a1), some (vI (nI a2)), some (vI (lp (b_X5_placeIn_1 m a1 a2) ((m.1 8 0 0 (125 + a2))).toNatClampNeg 0 (-1 : Int32))), none] [] m _ _
  refine an_b 1 (pc2 := 44) (L2 := [some (vR 7 0 0), some (vI a1), some (vI (nI a2)), some (vI (lp (b_X5_placeIn_1 m a1 a2) ((m.1 8 0 0 (125 + a2))).toNatClampNeg 0 (-1 : Int32))), none]) (st2 := [vI (lp (b_X5_placeIn_1 m a1 a2) ((m.1 8 0 0 (125 + a2))).toNatClampNeg 0 (-1 : Int32))]) (m1 := m) rfl ?_
  exact an_ret rfl rfl rfl rfl rfl
def b_X5_rowOf_1 (m : PM) (a1 : Int32)  (j1 : Nat) (s1 : Int32) : Int32 := (if ¬ (v_X5_placeIn m a1 j1) = (-1 : Int32) then (nI j1) else s1)
def v_X5_rowOf (m : PM) (a1 : Int32) : Int32 := (lp (b_X5_rowOf_1 m a1) 12 0 (-1 : Int32))
set_option maxRecDepth 100000 in
theorem r_X5_rowOf (m : PM) (a1 : Int32) (hQ : QL m) : Rn MX5_rowOf [vR 7 0 0, vI a1] m (some (vI (v_X5_rowOf m a1))) m := by
  refine rn_of [some (vR 7 0 0), some (vI a1), none, none] rfl ?_
  unfold v_X5_rowOf
  refine an_b 4 (pc2 := 4) (L2 := [some (vR 7 0 0), some (vI a1), some (vI (-1 : Int32)), some (vI (0 : Int32))]) (st2 := []) (m1 := m) rfl ?_
  refine re_lp (σ := Int32) (b_X5_rowOf_1 m a1) (fun j1 s1 => (4, [some (vR 7 0 0), some (vI a1), some (vI s1), some (vI (nI j1))], [], m)) 12 (fun s1 => (32, [some (vR 7 0 0), some (vI a1), some (vI s1), none], [], m)) (fun j1 s1 hj1 v9 m9 K1 => ?_) (fun s1 v9 m9 K1 => ?_) 12 0 (-1 : Int32) (Nat.add_zero _) _ _ ?_
  · show An MX5_rowOf 4 [some (vR 7 0 0), some (vI a1), some (vI s1), some (vI (nI j1))] [] m v9 m9
    refine an_b 3 (pc2 := if (12 : Int32) ≤ (nI j1) then 32 else 10) (L2 := [some (vR 7 0 0), some (vI a1), some (vI s1), some (vI (nI j1))]) (st2 := []) (m1 := m) rfl ?_
    refine an_f (nI_ge (a := j1) (b := 12) (by omega) (by omega)) ?_
    refine an_b 3 (pc2 := 13) (L2 := [some (vR 7 0 0), some (vI a1), some (vI s1), some (vI (nI j1))]) (st2 := [vI (nI j1), vI a1, vR 7 0 0]) (m1 := m) rfl ?_
    refine an_call (r_X5_placeIn m a1 j1 (by omega) hQ) rfl rfl rfl rfl ?_
    refine an_b 2 (pc2 := if ¬ (v_X5_placeIn m a1 j1) = (-1 : Int32) then 24 else 20) (L2 := [some (vR 7 0 0), some (vI a1), some (vI s1), some (vI (nI j1))]) (st2 := []) (m1 := m) rfl ?_
    refine re_if1 (c := ¬ (v_X5_placeIn m a1 j1) = (-1 : Int32)) (a := (nI j1)) (b := s1) (fun x => (25, [some (vR 7 0 0), some (vI a1), some (vI s1), some (vI (nI j1))], [vI x], m)) (fun h1 v9 m9 K2 => ?_) (fun h1 v9 m9 K2 => ?_) _ _ ?_
    · refine an_b 1 (pc2 := 25) (L2 := [some (vR 7 0 0), some (vI a1), some (vI s1), some (vI (nI j1))]) (st2 := [vI (nI j1)]) (m1 := m) rfl ?_
      exact K2
    · refine an_b 2 (pc2 := 25) (L2 := [some (vR 7 0 0), some (vI a1), some (vI s1), some (vI (nI j1))]) (st2 := [vI s1]) (m1 := m) rfl ?_
      exact K2
    refine an_b 3 (pc2 := 4) (L2 := [some (vR 7 0 0), some (vI a1), some (vI (if ¬ (v_X5_placeIn m a1 j1) = (-1 : Int32) then (nI j1) else s1)), some (vI ((nI j1) + (1 : Int32)))]) (st2 := []) (m1 := m) rfl ?_
    refine an_cL (K := [some (vR 7 0 0), some (vI a1), some (vI (if ¬ (v_X5_placeIn m a1 j1) = (-1 : Int32) then (nI j1) else s1)), some (vI (nI (j1 + 1)))]) (by simp only [nI_1]) ?_
    exact K1
  · show An MX5_rowOf 4 [some (vR 7 0 0), some (vI a1), some (vI s1), some (vI (nI 12))] [] m v9 m9
    refine an_b 3 (pc2 := if (12 : Int32) ≤ (nI 12) then 32 else 10) (L2 := [some (vR 7 0 0), some (vI a1), some (vI s1), some (vI (nI 12))]) (st2 := []) (m1 := m) rfl ?_
    refine an_t (nI_le (a := 12) (b := 12) (by omega) (by omega)) ?_
    refine an_weak (L := [some (vR 7 0 0), some (vI a1), some (vI s1), none]) (⟨rfl, rfl, rfl, trivial⟩) ?_
    exact K1
  show An MX5_rowOf 32 [some (vR 7 0 0), some (vI a1), some (vI (lp (b_X5_rowOf_1 m a1) 12 0 (-1 : Int32))), none] [] m _ _
  refine an_b 1 (pc2 := 33) (L2 := [some (vR 7 0 0), some (vI a1), some (vI (lp (b_X5_rowOf_1 m a1) 12 0 (-1 : Int32))), none]) (st2 := [vI (lp (b_X5_rowOf_1 m a1) 12 0 (-1 : Int32))]) (m1 := m) rfl ?_
  exact an_ret rfl rfl rfl rfl rfl
def v_X5_waits (m : PM) (a1 : Int32) : Int32 := (if (v_X5_rowOf m a1) = (-1 : Int32) then (0 : Int32) else (1 : Int32))
theorem z_X5_waits (m : PM) (a1 : Int32) : (v_X5_waits m a1) = 0 ∨ (v_X5_waits m a1) = 1 := by
  unfold v_X5_waits
  (repeat' split) <;> first | exact Or.inl rfl | exact Or.inr rfl
set_option maxRecDepth 100000 in
theorem r_X5_waits (m : PM) (a1 : Int32) (hQ : QL m) : Rn MX5_waits [vR 7 0 0, vI a1] m (some (vI (v_X5_waits m a1))) m := by
  refine rn_of [some (vR 7 0 0), some (vI a1)] rfl ?_
  unfold v_X5_waits
  refine an_b 2 (pc2 := 2) (L2 := [some (vR 7 0 0), some (vI a1)]) (st2 := [vI a1, vR 7 0 0]) (m1 := m) rfl ?_
  refine an_call (r_X5_rowOf m a1 hQ) rfl rfl rfl rfl ?_
  refine an_b 2 (pc2 := if (v_X5_rowOf m a1) = (-1 : Int32) then 13 else 9) (L2 := [some (vR 7 0 0), some (vI a1)]) (st2 := []) (m1 := m) rfl ?_
  refine an_ifi (c := (v_X5_rowOf m a1) = (-1 : Int32)) (fun h1 => ?_) (fun h1 => ?_)
  · refine an_b 1 (pc2 := 14) (L2 := [some (vR 7 0 0), some (vI a1)]) (st2 := [vI (0 : Int32)]) (m1 := m) rfl ?_
    exact an_ret rfl rfl rfl rfl rfl
  · refine an_b 2 (pc2 := 14) (L2 := [some (vR 7 0 0), some (vI a1)]) (st2 := [vI (1 : Int32)]) (m1 := m) rfl ?_
    exact an_ret rfl rfl rfl rfl rfl
def b_X5_workOf_1 (m : PM) (a1 : Nat)  (j1 : Nat) (s1 : Int32) : Int32 := (s1 + (v_X5_lockOf m a1 j1))
def v_X5_workOf (m : PM) (a1 : Nat) : Int32 := (lp (b_X5_workOf_1 m a1) 12 0 (0 : Int32))
set_option maxRecDepth 100000 in
theorem r_X5_workOf (m : PM) (a1 : Nat) (ha1 : a1 < 8) : Rn MX5_workOf [vR 7 0 0, vI (nI a1)] m (some (vI (v_X5_workOf m a1))) m := by
  refine rn_of [some (vR 7 0 0), some (vI (nI a1)), none, none] rfl ?_
  unfold v_X5_workOf
  refine an_b 4 (pc2 := 4) (L2 := [some (vR 7 0 0), some (vI (nI a1)), some (vI (0 : Int32)), some (vI (0 : Int32))]) (st2 := []) (m1 := m) rfl ?_
  refine re_lp (σ := Int32) (b_X5_workOf_1 m a1) (fun j1 s1 => (4, [some (vR 7 0 0), some (vI (nI a1)), some (vI s1), some (vI (nI j1))], [], m)) 12 (fun s1 => (25, [some (vR 7 0 0), some (vI (nI a1)), some (vI s1), none], [], m)) (fun j1 s1 hj1 v9 m9 K1 => ?_) (fun s1 v9 m9 K1 => ?_) 12 0 (0 : Int32) (Nat.add_zero _) _ _ ?_
  · show An MX5_workOf 4 [some (vR 7 0 0), some (vI (nI a1)), some (vI s1), some (vI (nI j1))] [] m v9 m9
    refine an_b 3 (pc2 := if (12 : Int32) ≤ (nI j1) then 25 else 10) (L2 := [some (vR 7 0 0), some (vI (nI a1)), some (vI s1), some (vI (nI j1))]) (st2 := []) (m1 := m) rfl ?_
    refine an_f (nI_ge (a := j1) (b := 12) (by omega) (by omega)) ?_
    refine an_b 4 (pc2 := 14) (L2 := [some (vR 7 0 0), some (vI (nI a1)), some (vI s1), some (vI (nI j1))]) (st2 := [vI (nI j1), vI (nI a1), vR 7 0 0, vI s1]) (m1 := m) rfl ?_
    refine an_call (r_X5_lockOf m a1 j1 (by omega) (by omega)) rfl rfl rfl rfl ?_
    refine an_b 4 (pc2 := 4) (L2 := [some (vR 7 0 0), some (vI (nI a1)), some (vI (s1 + (v_X5_lockOf m a1 j1))), some (vI ((nI j1) + (1 : Int32)))]) (st2 := []) (m1 := m) rfl ?_
    refine an_cL (K := [some (vR 7 0 0), some (vI (nI a1)), some (vI (s1 + (v_X5_lockOf m a1 j1))), some (vI (nI (j1 + 1)))]) (by simp only [nI_1]) ?_
    exact K1
  · show An MX5_workOf 4 [some (vR 7 0 0), some (vI (nI a1)), some (vI s1), some (vI (nI 12))] [] m v9 m9
    refine an_b 3 (pc2 := if (12 : Int32) ≤ (nI 12) then 25 else 10) (L2 := [some (vR 7 0 0), some (vI (nI a1)), some (vI s1), some (vI (nI 12))]) (st2 := []) (m1 := m) rfl ?_
    refine an_t (nI_le (a := 12) (b := 12) (by omega) (by omega)) ?_
    refine an_weak (L := [some (vR 7 0 0), some (vI (nI a1)), some (vI s1), none]) (⟨rfl, rfl, rfl, trivial⟩) ?_
    exact K1
  show An MX5_workOf 25 [some (vR 7 0 0), some (vI (nI a1)), some (vI (lp (b_X5_workOf_1 m a1) 12 0 (0 : Int32))), none] [] m _ _
  refine an_b 1 (pc2 := 26) (L2 := [some (vR 7 0 0), some (vI (nI a1)), some (vI (lp (b_X5_workOf_1 m a1) 12 0 (0 : Int32))), none]) (st2 := [vI (lp (b_X5_workOf_1 m a1) 12 0 (0 : Int32))]) (m1 := m) rfl ?_
  exact an_ret rfl rfl rfl rfl rfl
def b_X5_holders_1 (m : PM) (a1 : Nat)  (j1 : Nat) (s1 : Int32) : Int32 := (s1 ||| (if (v_X5_lockOf m j1 a1) ≤ 0 then (0 : Int32) else ((1 : Int32) <<< ((nI j1) &&& (31 : Int32)))))
def v_X5_holders (m : PM) (a1 : Nat) : Int32 := (lp (b_X5_holders_1 m a1) 8 0 (0 : Int32))
set_option maxRecDepth 100000 in
theorem r_X5_holders (m : PM) (a1 : Nat) (ha1 : a1 < 12) : Rn MX5_holders [vR 7 0 0, vI (nI a1)] m (some (vI (v_X5_holders m a1))) m := by
  refine rn_of [some (vR 7 0 0), some (vI (nI a1)), none, none] rfl ?_
  unfold v_X5_holders
  refine an_b 4 (pc2 := 4) (L2 := [some (vR 7 0 0), some (vI (nI a1)), some (vI (0 : Int32)), some (vI (0 : Int32))]) (st2 := []) (m1 := m) rfl ?_
  refine re_lp (σ := Int32) (b_X5_holders_1 m a1) (fun j1 s1 => (4, [some (vR 7 0 0), some (vI (nI a1)), some (vI s1), some (vI (nI j1))], [], m)) 8 (fun s1 => (35, [some (vR 7 0 0), some (vI (nI a1)), some (vI s1), none], [], m)) (fun j1 s1 hj1 v9 m9 K1 => ?_) (fun s1 v9 m9 K1 => ?_) 8 0 (0 : Int32) (Nat.add_zero _) _ _ ?_
  · show An MX5_holders 4 [some (vR 7 0 0), some (vI (nI a1)), some (vI s1), some (vI (nI j1))] [] m v9 m9
    refine an_b 3 (pc2 := if (8 : Int32) ≤ (nI j1) then 35 else 10) (L2 := [some (vR 7 0 0), some (vI (nI a1)), some (vI s1), some (vI (nI j1))]) (st2 := []) (m1 := m) rfl ?_
    refine an_f (nI_ge (a := j1) (b := 8) (by omega) (by omega)) ?_
    refine an_b 4 (pc2 := 14) (L2 := [some (vR 7 0 0), some (vI (nI a1)), some (vI s1), some (vI (nI j1))]) (st2 := [vI (nI a1), vI (nI j1), vR 7 0 0, vI s1]) (m1 := m) rfl ?_
    refine an_call (r_X5_lockOf m j1 a1 (by omega) (by omega)) rfl rfl rfl rfl ?_
    refine an_b 1 (pc2 := if (v_X5_lockOf m j1 a1) ≤ 0 then 26 else 20) (L2 := [some (vR 7 0 0), some (vI (nI a1)), some (vI s1), some (vI (nI j1))]) (st2 := [vI s1]) (m1 := m) rfl ?_
    refine re_if1 (c := (v_X5_lockOf m j1 a1) ≤ 0) (a := (0 : Int32)) (b := ((1 : Int32) <<< ((nI j1) &&& (31 : Int32)))) (fun x => (27, [some (vR 7 0 0), some (vI (nI a1)), some (vI s1), some (vI (nI j1))], [vI x, vI s1], m)) (fun h1 v9 m9 K2 => ?_) (fun h1 v9 m9 K2 => ?_) _ _ ?_
    · refine an_b 1 (pc2 := 27) (L2 := [some (vR 7 0 0), some (vI (nI a1)), some (vI s1), some (vI (nI j1))]) (st2 := [vI (0 : Int32), vI s1]) (m1 := m) rfl ?_
      exact K2
    · refine an_b 4 (pc2 := 27) (L2 := [some (vR 7 0 0), some (vI (nI a1)), some (vI s1), some (vI (nI j1))]) (st2 := [vI ((1 : Int32) <<< ((nI j1) &&& (31 : Int32))), vI s1]) (m1 := m) rfl ?_
      exact K2
    refine an_b 4 (pc2 := 4) (L2 := [some (vR 7 0 0), some (vI (nI a1)), some (vI (s1 ||| (if (v_X5_lockOf m j1 a1) ≤ 0 then (0 : Int32) else ((1 : Int32) <<< ((nI j1) &&& (31 : Int32)))))), some (vI ((nI j1) + (1 : Int32)))]) (st2 := []) (m1 := m) rfl ?_
    refine an_cL (K := [some (vR 7 0 0), some (vI (nI a1)), some (vI (s1 ||| (if (v_X5_lockOf m j1 a1) ≤ 0 then (0 : Int32) else ((1 : Int32) <<< ((nI j1) &&& (31 : Int32)))))), some (vI (nI (j1 + 1)))]) (by simp only [nI_1]) ?_
    exact K1
  · show An MX5_holders 4 [some (vR 7 0 0), some (vI (nI a1)), some (vI s1), some (vI (nI 8))] [] m v9 m9
    refine an_b 3 (pc2 := if (8 : Int32) ≤ (nI 8) then 35 else 10) (L2 := [some (vR 7 0 0), some (vI (nI a1)), some (vI s1), some (vI (nI 8))]) (st2 := []) (m1 := m) rfl ?_
    refine an_t (nI_le (a := 8) (b := 8) (by omega) (by omega)) ?_
    refine an_weak (L := [some (vR 7 0 0), some (vI (nI a1)), some (vI s1), none]) (⟨rfl, rfl, rfl, trivial⟩) ?_
    exact K1
  show An MX5_holders 35 [some (vR 7 0 0), some (vI (nI a1)), some (vI (lp (b_X5_holders_1 m a1) 8 0 (0 : Int32))), none] [] m _ _
  refine an_b 1 (pc2 := 36) (L2 := [some (vR 7 0 0), some (vI (nI a1)), some (vI (lp (b_X5_holders_1 m a1) 8 0 (0 : Int32))), none]) (st2 := [vI (lp (b_X5_holders_1 m a1) 8 0 (0 : Int32))]) (m1 := m) rfl ?_
  exact an_ret rfl rfl rfl rfl rfl
def b_X5_greatestOf_1 (m : PM) (a1 : Nat)  (j1 : Nat) (s1 : Int32) : Int32 := (if (v_X5_lockOf m j1 a1) ≤ s1 then s1 else (v_X5_lockOf m j1 a1))
def v_X5_greatestOf (m : PM) (a1 : Nat) : Int32 := (lp (b_X5_greatestOf_1 m a1) 8 0 (0 : Int32))
set_option maxRecDepth 100000 in
theorem r_X5_greatestOf (m : PM) (a1 : Nat) (ha1 : a1 < 12) : Rn MX5_greatestOf [vR 7 0 0, vI (nI a1)] m (some (vI (v_X5_greatestOf m a1))) m := by
  refine rn_of [some (vR 7 0 0), some (vI (nI a1)), none, none] rfl ?_
  unfold v_X5_greatestOf
  refine an_b 4 (pc2 := 4) (L2 := [some (vR 7 0 0), some (vI (nI a1)), some (vI (0 : Int32)), some (vI (0 : Int32))]) (st2 := []) (m1 := m) rfl ?_
  refine re_lp (σ := Int32) (b_X5_greatestOf_1 m a1) (fun j1 s1 => (4, [some (vR 7 0 0), some (vI (nI a1)), some (vI s1), some (vI (nI j1))], [], m)) 8 (fun s1 => (37, [some (vR 7 0 0), some (vI (nI a1)), some (vI s1), none], [], m)) (fun j1 s1 hj1 v9 m9 K1 => ?_) (fun s1 v9 m9 K1 => ?_) 8 0 (0 : Int32) (Nat.add_zero _) _ _ ?_
  · show An MX5_greatestOf 4 [some (vR 7 0 0), some (vI (nI a1)), some (vI s1), some (vI (nI j1))] [] m v9 m9
    refine an_b 3 (pc2 := if (8 : Int32) ≤ (nI j1) then 37 else 10) (L2 := [some (vR 7 0 0), some (vI (nI a1)), some (vI s1), some (vI (nI j1))]) (st2 := []) (m1 := m) rfl ?_
    refine an_f (nI_ge (a := j1) (b := 8) (by omega) (by omega)) ?_
    refine an_b 3 (pc2 := 13) (L2 := [some (vR 7 0 0), some (vI (nI a1)), some (vI s1), some (vI (nI j1))]) (st2 := [vI (nI a1), vI (nI j1), vR 7 0 0]) (m1 := m) rfl ?_
    refine an_call (r_X5_lockOf m j1 a1 (by omega) (by omega)) rfl rfl rfl rfl ?_
    refine an_b 2 (pc2 := if (v_X5_lockOf m j1 a1) ≤ s1 then 29 else 20) (L2 := [some (vR 7 0 0), some (vI (nI a1)), some (vI s1), some (vI (nI j1))]) (st2 := []) (m1 := m) rfl ?_
    refine re_if1 (c := (v_X5_lockOf m j1 a1) ≤ s1) (a := s1) (b := (v_X5_lockOf m j1 a1)) (fun x => (30, [some (vR 7 0 0), some (vI (nI a1)), some (vI s1), some (vI (nI j1))], [vI x], m)) (fun h1 v9 m9 K2 => ?_) (fun h1 v9 m9 K2 => ?_) _ _ ?_
    · refine an_b 1 (pc2 := 30) (L2 := [some (vR 7 0 0), some (vI (nI a1)), some (vI s1), some (vI (nI j1))]) (st2 := [vI s1]) (m1 := m) rfl ?_
      exact K2
    · refine an_b 3 (pc2 := 23) (L2 := [some (vR 7 0 0), some (vI (nI a1)), some (vI s1), some (vI (nI j1))]) (st2 := [vI (nI a1), vI (nI j1), vR 7 0 0]) (m1 := m) rfl ?_
      refine an_call (r_X5_lockOf m j1 a1 (by omega) (by omega)) rfl rfl rfl rfl ?_
      refine an_b 1 (pc2 := 30) (L2 := [some (vR 7 0 0), some (vI (nI a1)), some (vI s1), some (vI (nI j1))]) (st2 := [vI (v_X5_lockOf m j1 a1)]) (m1 := m) rfl ?_
      exact K2
    refine an_b 3 (pc2 := 4) (L2 := [some (vR 7 0 0), some (vI (nI a1)), some (vI (if (v_X5_lockOf m j1 a1) ≤ s1 then s1 else (v_X5_lockOf m j1 a1))), some (vI ((nI j1) + (1 : Int32)))]) (st2 := []) (m1 := m) rfl ?_
    refine an_cL (K := [some (vR 7 0 0), some (vI (nI a1)), some (vI (if (v_X5_lockOf m j1 a1) ≤ s1 then s1 else (v_X5_lockOf m j1 a1))), some (vI (nI (j1 + 1)))]) (by simp only [nI_1]) ?_
    exact K1
  · show An MX5_greatestOf 4 [some (vR 7 0 0), some (vI (nI a1)), some (vI s1), some (vI (nI 8))] [] m v9 m9
    refine an_b 3 (pc2 := if (8 : Int32) ≤ (nI 8) then 37 else 10) (L2 := [some (vR 7 0 0), some (vI (nI a1)), some (vI s1), some (vI (nI 8))]) (st2 := []) (m1 := m) rfl ?_
    refine an_t (nI_le (a := 8) (b := 8) (by omega) (by omega)) ?_
    refine an_weak (L := [some (vR 7 0 0), some (vI (nI a1)), some (vI s1), none]) (⟨rfl, rfl, rfl, trivial⟩) ?_
    exact K1
  show An MX5_greatestOf 37 [some (vR 7 0 0), some (vI (nI a1)), some (vI (lp (b_X5_greatestOf_1 m a1) 8 0 (0 : Int32))), none] [] m _ _
  refine an_b 1 (pc2 := 38) (L2 := [some (vR 7 0 0), some (vI (nI a1)), some (vI (lp (b_X5_greatestOf_1 m a1) 8 0 (0 : Int32))), none]) (st2 := [vI (lp (b_X5_greatestOf_1 m a1) 8 0 (0 : Int32))]) (m1 := m) rfl ?_
  exact an_ret rfl rfl rfl rfl rfl
def b_X5_clashing_1 (m : PM) (a1 : Nat) (a2 : Int32) (a3 : Int32)  (j1 : Nat) (s1 : Int32) : Int32 := (s1 ||| (if (nI j1) = a3 then (0 : Int32) else (if (v_X5_lockOf m j1 a1) ≤ 0 then (0 : Int32) else (if ((v_X5_lockOf m j1 a1) + a2) ≤ (3 : Int32) then (0 : Int32) else ((1 : Int32) <<< ((nI j1) &&& (31 : Int32)))))))
def v_X5_clashing (m : PM) (a1 : Nat) (a2 : Int32) (a3 : Int32) : Int32 := (lp (b_X5_clashing_1 m a1 a2 a3) 8 0 (0 : Int32))
set_option maxRecDepth 100000 in
theorem r_X5_clashing (m : PM) (a1 : Nat) (a2 : Int32) (a3 : Int32) (ha1 : a1 < 12) : Rn MX5_clashing [vR 7 0 0, vI (nI a1), vI a2, vI a3] m (some (vI (v_X5_clashing m a1 a2 a3))) m := by
  refine rn_of [some (vR 7 0 0), some (vI (nI a1)), some (vI a2), some (vI a3), none, none, none] rfl ?_
  unfold v_X5_clashing
  refine an_b 4 (pc2 := 6) (L2 := [some (vR 7 0 0), some (vI (nI a1)), some (vI a2), some (vI a3), some (vI (0 : Int32)), some (vI (0 : Int32)), none]) (st2 := []) (m1 := m) rfl ?_
  refine re_lp (σ := Int32) (b_X5_clashing_1 m a1 a2 a3) (fun j1 s1 => (6, [some (vR 7 0 0), some (vI (nI a1)), some (vI a2), some (vI a3), some (vI s1), some (vI (nI j1)), none], [], m)) 8 (fun s1 => (60, [some (vR 7 0 0), some (vI (nI a1)), some (vI a2), some (vI a3), some (vI s1), none, none], [], m)) (fun j1 s1 hj1 v9 m9 K1 => ?_) (fun s1 v9 m9 K1 => ?_) 8 0 (0 : Int32) (Nat.add_zero _) _ _ ?_
  · show An MX5_clashing 6 [some (vR 7 0 0), some (vI (nI a1)), some (vI a2), some (vI a3), some (vI s1), some (vI (nI j1)), none] [] m v9 m9
    refine an_b 3 (pc2 := if (8 : Int32) ≤ (nI j1) then 60 else 13) (L2 := [some (vR 7 0 0), some (vI (nI a1)), some (vI a2), some (vI a3), some (vI s1), some (vI (nI j1)), none]) (st2 := []) (m1 := m) rfl ?_
    refine an_f (nI_ge (a := j1) (b := 8) (by omega) (by omega)) ?_
    refine an_b 3 (pc2 := 17) (L2 := [some (vR 7 0 0), some (vI (nI a1)), some (vI a2), some (vI a3), some (vI s1), some (vI (nI j1)), none]) (st2 := [vI (nI a1), vI (nI j1), vR 7 0 0]) (m1 := m) rfl ?_
    refine an_call (r_X5_lockOf m j1 a1 (by omega) (by omega)) rfl rfl rfl rfl ?_
    refine an_b 5 (pc2 := if (nI j1) = a3 then 50 else 30) (L2 := [some (vR 7 0 0), some (vI (nI a1)), some (vI a2), some (vI a3), some (vI s1), some (vI (nI j1)), some (vI (v_X5_lockOf m j1 a1))]) (st2 := [vI s1]) (m1 := m) rfl ?_
    refine re_if1 (c := (nI j1) = a3) (a := (0 : Int32)) (b := (if (v_X5_lockOf m j1 a1) ≤ 0 then (0 : Int32) else (if ((v_X5_lockOf m j1 a1) + a2) ≤ (3 : Int32) then (0 : Int32) else ((1 : Int32) <<< ((nI j1) &&& (31 : Int32)))))) (fun x => (51, [some (vR 7 0 0), some (vI (nI a1)), some (vI a2), some (vI a3), some (vI s1), some (vI (nI j1)), some (vI (v_X5_lockOf m j1 a1))], [vI x, vI s1], m)) (fun h1 v9 m9 K6 => ?_) (fun h1 v9 m9 K6 => ?_) _ _ ?_
    · refine an_b 1 (pc2 := 51) (L2 := [some (vR 7 0 0), some (vI (nI a1)), some (vI a2), some (vI a3), some (vI s1), some (vI (nI j1)), some (vI (v_X5_lockOf m j1 a1))]) (st2 := [vI (0 : Int32), vI s1]) (m1 := m) rfl ?_
      exact K6
    · refine an_b 2 (pc2 := if (v_X5_lockOf m j1 a1) ≤ 0 then 50 else 35) (L2 := [some (vR 7 0 0), some (vI (nI a1)), some (vI a2), some (vI a3), some (vI s1), some (vI (nI j1)), some (vI (v_X5_lockOf m j1 a1))]) (st2 := [vI s1]) (m1 := m) rfl ?_
      refine re_if1 (c := (v_X5_lockOf m j1 a1) ≤ 0) (a := (0 : Int32)) (b := (if ((v_X5_lockOf m j1 a1) + a2) ≤ (3 : Int32) then (0 : Int32) else ((1 : Int32) <<< ((nI j1) &&& (31 : Int32))))) (fun x => (51, [some (vR 7 0 0), some (vI (nI a1)), some (vI a2), some (vI a3), some (vI s1), some (vI (nI j1)), some (vI (v_X5_lockOf m j1 a1))], [vI x, vI s1], m)) (fun h2 v9 m9 K5 => ?_) (fun h2 v9 m9 K5 => ?_) _ _ ?_
      · refine an_b 1 (pc2 := 51) (L2 := [some (vR 7 0 0), some (vI (nI a1)), some (vI a2), some (vI a3), some (vI s1), some (vI (nI j1)), some (vI (v_X5_lockOf m j1 a1))]) (st2 := [vI (0 : Int32), vI s1]) (m1 := m) rfl ?_
        exact K5
      · refine an_b 5 (pc2 := if ((v_X5_lockOf m j1 a1) + a2) ≤ (3 : Int32) then 50 else 43) (L2 := [some (vR 7 0 0), some (vI (nI a1)), some (vI a2), some (vI a3), some (vI s1), some (vI (nI j1)), some (vI (v_X5_lockOf m j1 a1))]) (st2 := [vI s1]) (m1 := m) rfl ?_
        refine re_if1 (c := ((v_X5_lockOf m j1 a1) + a2) ≤ (3 : Int32)) (a := (0 : Int32)) (b := ((1 : Int32) <<< ((nI j1) &&& (31 : Int32)))) (fun x => (51, [some (vR 7 0 0), some (vI (nI a1)), some (vI a2), some (vI a3), some (vI s1), some (vI (nI j1)), some (vI (v_X5_lockOf m j1 a1))], [vI x, vI s1], m)) (fun h3 v9 m9 K4 => ?_) (fun h3 v9 m9 K4 => ?_) _ _ ?_
        · refine an_b 1 (pc2 := 51) (L2 := [some (vR 7 0 0), some (vI (nI a1)), some (vI a2), some (vI a3), some (vI s1), some (vI (nI j1)), some (vI (v_X5_lockOf m j1 a1))]) (st2 := [vI (0 : Int32), vI s1]) (m1 := m) rfl ?_
          exact K4
        · refine an_b 4 (pc2 := 51) (L2 := [some (vR 7 0 0), some (vI (nI a1)), some (vI a2), some (vI a3), some (vI s1), some (vI (nI j1)), some (vI (v_X5_lockOf m j1 a1))]) (st2 := [vI ((1 : Int32) <<< ((nI j1) &&& (31 : Int32))), vI s1]) (m1 := m) rfl ?_
          exact K4
        exact K5
      exact K6
    refine an_b 4 (pc2 := 6) (L2 := [some (vR 7 0 0), some (vI (nI a1)), some (vI a2), some (vI a3), some (vI (s1 ||| (if (nI j1) = a3 then (0 : Int32) else (if (v_X5_lockOf m j1 a1) ≤ 0 then (0 : Int32) else (if ((v_X5_lockOf m j1 a1) + a2) ≤ (3 : Int32) then (0 : Int32) else ((1 : Int32) <<< ((nI j1) &&& (31 : Int32)))))))), some (vI ((nI j1) + (1 : Int32))), some (vI (v_X5_lockOf m j1 a1))]) (st2 := []) (m1 := m) rfl ?_
    refine an_weak (L := [some (vR 7 0 0), some (vI (nI a1)), some (vI a2), some (vI a3), some (vI (s1 ||| (if (nI j1) = a3 then (0 : Int32) else (if (v_X5_lockOf m j1 a1) ≤ 0 then (0 : Int32) else (if ((v_X5_lockOf m j1 a1) + a2) ≤ (3 : Int32) then (0 : Int32) else ((1 : Int32) <<< ((nI j1) &&& (31 : Int32)))))))), some (vI ((nI j1) + (1 : Int32))), none]) (⟨rfl, rfl, rfl, rfl, rfl, rfl, trivial⟩) ?_
    refine an_cL (K := [some (vR 7 0 0), some (vI (nI a1)), some (vI a2), some (vI a3), some (vI (s1 ||| (if (nI j1) = a3 then (0 : Int32) else (if (v_X5_lockOf m j1 a1) ≤ 0 then (0 : Int32) else (if ((v_X5_lockOf m j1 a1) + a2) ≤ (3 : Int32) then (0 : Int32) else ((1 : Int32) <<< ((nI j1) &&& (31 : Int32)))))))), some (vI (nI (j1 + 1))), none]) (by simp only [nI_1]) ?_
    exact K1
  · show An MX5_clashing 6 [some (vR 7 0 0), some (vI (nI a1)), some (vI a2), some (vI a3), some (vI s1), some (vI (nI 8)), none] [] m v9 m9
    refine an_b 3 (pc2 := if (8 : Int32) ≤ (nI 8) then 60 else 13) (L2 := [some (vR 7 0 0), some (vI (nI a1)), some (vI a2), some (vI a3), some (vI s1), some (vI (nI 8)), none]) (st2 := []) (m1 := m) rfl ?_
    refine an_t (nI_le (a := 8) (b := 8) (by omega) (by omega)) ?_
    refine an_weak (L := [some (vR 7 0 0), some (vI (nI a1)), some (vI a2), some (vI a3), some (vI s1), none, none]) (⟨rfl, rfl, rfl, rfl, rfl, trivial⟩) ?_
    exact K1
  show An MX5_clashing 60 [some (vR 7 0 0), some (vI (nI a1)), some (vI a2), some (vI a3), some (vI (lp (b_X5_clashing_1 m a1 a2 a3) 8 0 (0 : Int32))), none, none] [] m _ _
  refine an_b 1 (pc2 := 62) (L2 := [some (vR 7 0 0), some (vI (nI a1)), some (vI a2), some (vI a3), some (vI (lp (b_X5_clashing_1 m a1 a2 a3) 8 0 (0 : Int32))), none, none]) (st2 := [vI (lp (b_X5_clashing_1 m a1 a2 a3) 8 0 (0 : Int32))]) (m1 := m) rfl ?_
  exact an_ret rfl rfl rfl rfl rfl
def v_X5_isMode (m : PM) (a1 : Int32) : Int32 := (v_X5_within m a1 (1 : Int32) (3 : Int32))
theorem z_X5_isMode (m : PM) (a1 : Int32) : (v_X5_isMode m a1) = 0 ∨ (v_X5_isMode m a1) = 1 := by
  unfold v_X5_isMode
  (repeat' split) <;> first | exact Or.inl rfl | exact Or.inr rfl | exact z_X5_within _ _ _ _
set_option maxRecDepth 100000 in
theorem r_X5_isMode (m : PM) (a1 : Int32) : Rn MX5_isMode [vI a1] m (some (vI (v_X5_isMode m a1))) m := by
  refine rn_of [some (vI a1)] rfl ?_
  unfold v_X5_isMode
  refine an_b 3 (pc2 := 3) (L2 := [some (vI a1)]) (st2 := [vI (3 : Int32), vI (1 : Int32), vI a1]) (m1 := m) rfl ?_
  refine an_call (r_X5_within m a1 (1 : Int32) (3 : Int32)) rfl rfl rfl rfl ?_
  exact an_retz (z_X5_within m a1 (1 : Int32) (3 : Int32)) rfl rfl
def b_X5_burn_1 (m : PM) (a1 : Nat)  (j1 : Nat) (s1 : Int32 × PM) : Int32 × PM := ((if (v_X5_lockOf s1.2 j1 a1) ≤ 0 then s1.1 else (s1.1 + (1 : Int32))), (if (v_X5_lockOf s1.2 j1 a1) ≤ 0 then s1.2 else (wI (w_X5_setLock s1.2 j1 a1 (0 : Int32)) 8 0 0 (329 + j1) (((w_X5_setLock s1.2 j1 a1 (0 : Int32)).1 8 0 0 (329 + j1)) + (1 : Int32)))))
def v_X5_burn (m : PM) (a1 : Nat) : Int32 := (lp (b_X5_burn_1 m a1) 8 0 ((0 : Int32), m)).1
def w_X5_burn (m : PM) (a1 : Nat) : PM := (wI (lp (b_X5_burn_1 m a1) 8 0 ((0 : Int32), m)).2 8 0 0 4 (((lp (b_X5_burn_1 m a1) 8 0 ((0 : Int32), m)).2.1 8 0 0 4) + ((lp (b_X5_burn_1 m a1) 8 0 ((0 : Int32), m)).1)))
set_option maxRecDepth 100000 in
theorem r_X5_burn (m : PM) (a1 : Nat) (ha1 : a1 < 12) : Rn MX5_burn [vR 7 0 0, vI (nI a1)] m (some (vI (v_X5_burn m a1))) (w_X5_burn m a1) := by
  refine rn_of [some (vR 7 0 0), some (vI (nI a1)), none, none] rfl ?_
  unfold v_X5_burn w_X5_burn
  refine an_b 4 (pc2 := 4) (L2 := [some (vR 7 0 0), some (vI (nI a1)), some (vI (0 : Int32)), some (vI (0 : Int32))]) (st2 := []) (m1 := m) rfl ?_
  refine re_lp (σ := Int32 × PM) (b_X5_burn_1 m a1) (fun j1 s1 => (4, [some (vR 7 0 0), some (vI (nI a1)), some (vI s1.1), some (vI (nI j1))], [], s1.2)) 8 (fun s1 => (49, [some (vR 7 0 0), some (vI (nI a1)), some (vI s1.1), none], [], s1.2)) (fun j1 s1 hj1 v9 m9 K1 => ?_) (fun s1 v9 m9 K1 => ?_) 8 0 ((0 : Int32), m) (Nat.add_zero _) _ _ ?_
  · show An MX5_burn 4 [some (vR 7 0 0), some (vI (nI a1)), some (vI s1.1), some (vI (nI j1))] [] s1.2 v9 m9
    refine an_b 3 (pc2 := if (8 : Int32) ≤ (nI j1) then 49 else 10) (L2 := [some (vR 7 0 0), some (vI (nI a1)), some (vI s1.1), some (vI (nI j1))]) (st2 := []) (m1 := s1.2) rfl ?_
    refine an_f (nI_ge (a := j1) (b := 8) (by omega) (by omega)) ?_
    refine an_b 3 (pc2 := 13) (L2 := [some (vR 7 0 0), some (vI (nI a1)), some (vI s1.1), some (vI (nI j1))]) (st2 := [vI (nI a1), vI (nI j1), vR 7 0 0]) (m1 := s1.2) rfl ?_
    refine an_call (r_X5_lockOf s1.2 j1 a1 (by omega) (by omega)) rfl rfl rfl rfl ?_
    refine an_b 1 (pc2 := if (v_X5_lockOf s1.2 j1 a1) ≤ 0 then 43 else 19) (L2 := [some (vR 7 0 0), some (vI (nI a1)), some (vI s1.1), some (vI (nI j1))]) (st2 := []) (m1 := s1.2) rfl ?_
    refine re_if2 (c := (v_X5_lockOf s1.2 j1 a1) ≤ 0) (a := s1.1) (b := s1.1 + (1 : Int32)) (x := s1.2) (y := (wI (w_X5_setLock s1.2 j1 a1 (0 : Int32)) 8 0 0 (329 + j1) (((w_X5_setLock s1.2 j1 a1 (0 : Int32)).1 8 0 0 (329 + j1)) + (1 : Int32)))) (fun x y => (43, [some (vR 7 0 0), some (vI (nI a1)), some (vI x), some (vI (nI j1))], [], y)) (fun h1 v9 m9 K2 => ?_) (fun h1 v9 m9 K2 => ?_) _ _ ?_
    · exact K2
    · refine an_b 4 (pc2 := 23) (L2 := [some (vR 7 0 0), some (vI (nI a1)), some (vI s1.1), some (vI (nI j1))]) (st2 := [vI (0 : Int32), vI (nI a1), vI (nI j1), vR 7 0 0]) (m1 := s1.2) rfl ?_
      refine an_call (r_X5_setLock s1.2 j1 a1 (0 : Int32) (by omega) (by omega)) rfl rfl rfl rfl ?_
      refine an_b 6 (pc2 := 36) (L2 := [some (vR 7 0 0), some (vI (nI a1)), some (vI s1.1), some (vI (nI j1))]) (st2 := [vI ((329 : Int32) + (nI j1)), vR 8 0 0, vI ((329 : Int32) + (nI j1)), vR 8 0 0]) (m1 := (w_X5_setLock s1.2 j1 a1 (0 : Int32))) rfl ?_
      refine an_ald (329 + j1) 361 rfl rfl (by simp only [ix_lit, pk_mul, nI_add]) (by omega) (by omega) ?_
      refine an_b 2 (pc2 := 39) (L2 := [some (vR 7 0 0), some (vI (nI a1)), some (vI s1.1), some (vI (nI j1))]) (st2 := [vI (((w_X5_setLock s1.2 j1 a1 (0 : Int32)).1 8 0 0 (329 + j1)) + (1 : Int32)), vI ((329 : Int32) + (nI j1)), vR 8 0 0]) (m1 := (w_X5_setLock s1.2 j1 a1 (0 : Int32))) rfl ?_
      refine an_ast (329 + j1) 361 rfl rfl (by decide) (by simp only [ix_lit, pk_mul, nI_add]) (by omega) (by omega) ?_
      refine an_b 1 (pc2 := 43) (L2 := [some (vR 7 0 0), some (vI (nI a1)), some (vI (s1.1 + (1 : Int32))), some (vI (nI j1))]) (st2 := []) (m1 := (wI (w_X5_setLock s1.2 j1 a1 (0 : Int32)) 8 0 0 (329 + j1) (((w_X5_setLock s1.2 j1 a1 (0 : Int32)).1 8 0 0 (329 + j1)) + (1 : Int32)))) rfl ?_
      exact K2
    refine an_b 2 (pc2 := 4) (L2 := [some (vR 7 0 0), some (vI (nI a1)), some (vI (if (v_X5_lockOf s1.2 j1 a1) ≤ 0 then s1.1 else (s1.1 + (1 : Int32)))), some (vI ((nI j1) + (1 : Int32)))]) (st2 := []) (m1 := (if (v_X5_lockOf s1.2 j1 a1) ≤ 0 then s1.2 else (wI (w_X5_setLock s1.2 j1 a1 (0 : Int32)) 8 0 0 (329 + j1) (((w_X5_setLock s1.2 j1 a1 (0 : Int32)).1 8 0 0 (329 + j1)) + (1 : Int32))))) rfl ?_
    refine an_cL (K := [some (vR 7 0 0), some (vI (nI a1)), some (vI (if (v_X5_lockOf s1.2 j1 a1) ≤ 0 then s1.1 else (s1.1 + (1 : Int32)))), some (vI (nI (j1 + 1)))]) (by simp only [nI_1]) ?_
    exact K1
  · show An MX5_burn 4 [some (vR 7 0 0), some (vI (nI a1)), some (vI s1.1), some (vI (nI 8))] [] s1.2 v9 m9
    refine an_b 3 (pc2 := if (8 : Int32) ≤ (nI 8) then 49 else 10) (L2 := [some (vR 7 0 0), some (vI (nI a1)), some (vI s1.1), some (vI (nI 8))]) (st2 := []) (m1 := s1.2) rfl ?_
    refine an_t (nI_le (a := 8) (b := 8) (by omega) (by omega)) ?_
    refine an_weak (L := [some (vR 7 0 0), some (vI (nI a1)), some (vI s1.1), none]) (⟨rfl, rfl, rfl, trivial⟩) ?_
    exact K1
  show An MX5_burn 49 [some (vR 7 0 0), some (vI (nI a1)), some (vI ((lp (b_X5_burn_1 m a1) 8 0 ((0 : Int32), m)).1)), none] [] (lp (b_X5_burn_1 m a1) 8 0 ((0 : Int32), m)).2 _ _
  refine an_b 4 (pc2 := 55) (L2 := [some (vR 7 0 0), some (vI (nI a1)), some (vI ((lp (b_X5_burn_1 m a1) 8 0 ((0 : Int32), m)).1)), none]) (st2 := [vI (4 : Int32), vR 8 0 0, vI (4 : Int32), vR 8 0 0]) (m1 := (lp (b_X5_burn_1 m a1) 8 0 ((0 : Int32), m)).2) rfl ?_
  refine an_ald 4 361 rfl rfl (by simp only [ix_lit, pk_mul, nI_add]) (by omega) (by omega) ?_
  refine an_b 2 (pc2 := 58) (L2 := [some (vR 7 0 0), some (vI (nI a1)), some (vI ((lp (b_X5_burn_1 m a1) 8 0 ((0 : Int32), m)).1)), none]) (st2 := [vI (((lp (b_X5_burn_1 m a1) 8 0 ((0 : Int32), m)).2.1 8 0 0 4) + ((lp (b_X5_burn_1 m a1) 8 0 ((0 : Int32), m)).1)), vI (4 : Int32), vR 8 0 0]) (m1 := (lp (b_X5_burn_1 m a1) 8 0 ((0 : Int32), m)).2) rfl ?_
  refine an_ast 4 361 rfl rfl (by decide) (by simp only [ix_lit, pk_mul, nI_add]) (by omega) (by omega) ?_
  refine an_b 1 (pc2 := 60) (L2 := [some (vR 7 0 0), some (vI (nI a1)), some (vI ((lp (b_X5_burn_1 m a1) 8 0 ((0 : Int32), m)).1)), none]) (st2 := [vI ((lp (b_X5_burn_1 m a1) 8 0 ((0 : Int32), m)).1)]) (m1 := (wI (lp (b_X5_burn_1 m a1) 8 0 ((0 : Int32), m)).2 8 0 0 4 (((lp (b_X5_burn_1 m a1) 8 0 ((0 : Int32), m)).2.1 8 0 0 4) + ((lp (b_X5_burn_1 m a1) 8 0 ((0 : Int32), m)).1)))) rfl ?_
  exact an_ret rfl rfl rfl rfl rfl
def v_X5_isSetting (m : PM) (a1 : Int32) : Int32 := (v_X5_within m a1 (0 : Int32) (2 : Int32))
theorem z_X5_isSetting (m : PM) (a1 : Int32) : (v_X5_isSetting m a1) = 0 ∨ (v_X5_isSetting m a1) = 1 := by
  unfold v_X5_isSetting
  (repeat' split) <;> first | exact Or.inl rfl | exact Or.inr rfl | exact z_X5_within _ _ _ _
set_option maxRecDepth 100000 in
theorem r_X5_isSetting (m : PM) (a1 : Int32) : Rn MX5_isSetting [vI a1] m (some (vI (v_X5_isSetting m a1))) m := by
  refine rn_of [some (vI a1)] rfl ?_
  unfold v_X5_isSetting
  refine an_b 3 (pc2 := 3) (L2 := [some (vI a1)]) (st2 := [vI (2 : Int32), vI (0 : Int32), vI a1]) (m1 := m) rfl ?_
  refine an_call (r_X5_within m a1 (0 : Int32) (2 : Int32)) rfl rfl rfl rfl ?_
  exact an_retz (z_X5_within m a1 (0 : Int32) (2 : Int32)) rfl rfl
def v_X5_isValue (m : PM) (a1 : Int32) (a2 : Int32) : Int32 := (if ¬ a1 = 0 then (if ¬ a1 = (1 : Int32) then (v_X5_within m a2 (0 : Int32) (50 : Int32)) else (v_X5_within m a2 (0 : Int32) (20 : Int32))) else (v_X5_within m a2 (10 : Int32) (900 : Int32)))
theorem z_X5_isValue (m : PM) (a1 : Int32) (a2 : Int32) : (v_X5_isValue m a1 a2) = 0 ∨ (v_X5_isValue m a1 a2) = 1 := by
  unfold v_X5_isValue
  (repeat' split) <;> first | exact Or.inl rfl | exact Or.inr rfl | exact z_X5_within _ _ _ _
set_option maxRecDepth 100000 in
theorem r_X5_isValue (m : PM) (a1 : Int32) (a2 : Int32) : Rn MX5_isValue [vI a1, vI a2] m (some (vI (v_X5_isValue m a1 a2))) m := by
  refine rn_of [some (vI a1), some (vI a2)] rfl ?_
  unfold v_X5_isValue
  refine an_b 2 (pc2 := if ¬ a1 = 0 then 16 else 4) (L2 := [some (vI a1), some (vI a2)]) (st2 := []) (m1 := m) rfl ?_
  refine an_ifi (c := ¬ a1 = 0) (fun h1 => ?_) (fun h1 => ?_)
  · refine an_b 3 (pc2 := if ¬ a1 = (1 : Int32) then 31 else 21) (L2 := [some (vI a1), some (vI a2)]) (st2 := []) (m1 := m) rfl ?_
    refine an_ifi (c := ¬ a1 = (1 : Int32)) (fun h2 => ?_) (fun h2 => ?_)
    · refine an_b 3 (pc2 := 35) (L2 := [some (vI a1), some (vI a2)]) (st2 := [vI (50 : Int32), vI (0 : Int32), vI a2]) (m1 := m) rfl ?_
      refine an_call (r_X5_within m a2 (0 : Int32) (50 : Int32)) rfl rfl rfl rfl ?_
      exact an_retz (z_X5_within m a2 (0 : Int32) (50 : Int32)) rfl rfl
    · refine an_b 3 (pc2 := 25) (L2 := [some (vI a1), some (vI a2)]) (st2 := [vI (20 : Int32), vI (0 : Int32), vI a2]) (m1 := m) rfl ?_
      refine an_call (r_X5_within m a2 (0 : Int32) (20 : Int32)) rfl rfl rfl rfl ?_
      refine an_b 1 (pc2 := 38) (L2 := [some (vI a1), some (vI a2)]) (st2 := [vI (v_X5_within m a2 (0 : Int32) (20 : Int32))]) (m1 := m) rfl ?_
      exact an_retz (z_X5_within m a2 (0 : Int32) (20 : Int32)) rfl rfl
  · refine an_b 3 (pc2 := 10) (L2 := [some (vI a1), some (vI a2)]) (st2 := [vI (900 : Int32), vI (10 : Int32), vI a2]) (m1 := m) rfl ?_
    refine an_call (r_X5_within m a2 (10 : Int32) (900 : Int32)) rfl rfl rfl rfl ?_
    refine an_b 1 (pc2 := 38) (L2 := [some (vI a1), some (vI a2)]) (st2 := [vI (v_X5_within m a2 (10 : Int32) (900 : Int32))]) (m1 := m) rfl ?_
    exact an_retz (z_X5_within m a2 (10 : Int32) (900 : Int32)) rfl rfl
def v_X5_clearBuffer (m : PM)  : Int32 := ((wI m 7 0 0 5 (0 : Int32)).1 7 0 0 3)
def w_X5_clearBuffer (m : PM)  : PM := (wI (wI m 7 0 0 5 (0 : Int32)) 7 0 0 3 (0 : Int32))
set_option maxRecDepth 100000 in
theorem r_X5_clearBuffer (m : PM)  : Rn MX5_clearBuffer [vR 7 0 0] m (some (vI (v_X5_clearBuffer m))) (w_X5_clearBuffer m) := by
  refine rn_of [some (vR 7 0 0), none] rfl ?_
  unfold v_X5_clearBuffer w_X5_clearBuffer
  refine an_b 10 (pc2 := 16) (L2 := [some (vR 7 0 0), some (vI ((wI m 7 0 0 5 (0 : Int32)).1 7 0 0 3))]) (st2 := [vI ((wI m 7 0 0 5 (0 : Int32)).1 7 0 0 3)]) (m1 := (wI (wI m 7 0 0 5 (0 : Int32)) 7 0 0 3 (0 : Int32))) rfl ?_
  exact an_ret rfl rfl rfl rfl rfl
def v_X5_modeOf (m : PM) (a1 : Int32) : Int32 := (if ¬ a1 = (112 : Int32) then (if ¬ a1 = (115 : Int32) then (if ¬ a1 = (104 : Int32) then (if ¬ a1 = (45 : Int32) then (-1 : Int32) else (0 : Int32)) else (3 : Int32)) else (2 : Int32)) else (1 : Int32))
set_option maxRecDepth 100000 in
theorem r_X5_modeOf (m : PM) (a1 : Int32) : Rn MX5_modeOf [vI a1] m (some (vI (v_X5_modeOf m a1))) m := by
  refine rn_of [some (vI a1)] rfl ?_
  unfold v_X5_modeOf
  refine an_b 3 (pc2 := if ¬ a1 = (112 : Int32) then 10 else 6) (L2 := [some (vI a1)]) (st2 := []) (m1 := m) rfl ?_
  refine an_ifi (c := ¬ a1 = (112 : Int32)) (fun h1 => ?_) (fun h1 => ?_)
  · refine an_b 3 (pc2 := if ¬ a1 = (115 : Int32) then 20 else 16) (L2 := [some (vI a1)]) (st2 := []) (m1 := m) rfl ?_
    refine an_ifi (c := ¬ a1 = (115 : Int32)) (fun h2 => ?_) (fun h2 => ?_)
    · refine an_b 3 (pc2 := if ¬ a1 = (104 : Int32) then 30 else 26) (L2 := [some (vI a1)]) (st2 := []) (m1 := m) rfl ?_
      refine an_ifi (c := ¬ a1 = (104 : Int32)) (fun h3 => ?_) (fun h3 => ?_)
      · refine an_b 3 (pc2 := if ¬ a1 = (45 : Int32) then 40 else 36) (L2 := [some (vI a1)]) (st2 := []) (m1 := m) rfl ?_
        refine an_ifi (c := ¬ a1 = (45 : Int32)) (fun h4 => ?_) (fun h4 => ?_)
        · refine an_b 1 (pc2 := 41) (L2 := [some (vI a1)]) (st2 := [vI (-1 : Int32)]) (m1 := m) rfl ?_
          exact an_ret rfl rfl rfl rfl rfl
        · refine an_b 2 (pc2 := 41) (L2 := [some (vI a1)]) (st2 := [vI (0 : Int32)]) (m1 := m) rfl ?_
          exact an_ret rfl rfl rfl rfl rfl
      · refine an_b 2 (pc2 := 41) (L2 := [some (vI a1)]) (st2 := [vI (3 : Int32)]) (m1 := m) rfl ?_
        exact an_ret rfl rfl rfl rfl rfl
    · refine an_b 2 (pc2 := 41) (L2 := [some (vI a1)]) (st2 := [vI (2 : Int32)]) (m1 := m) rfl ?_
      exact an_ret rfl rfl rfl rfl rfl
  · refine an_b 2 (pc2 := 41) (L2 := [some (vI a1)]) (st2 := [vI (1 : Int32)]) (m1 := m) rfl ?_
    exact an_ret rfl rfl rfl rfl rfl
def v_X5_takesDigit (m : PM) (a1 : Int32) : Int32 := (if (v_X5_within m a1 (0 : Int32) (9 : Int32)) = 0 then (0 : Int32) else (if (m.1 7 0 0 8) = 0 then (0 : Int32) else (if (v_X5_isRow m (if ¬ (m.1 7 0 0 8) = (-1 : Int32) then (((10 : Int32) * (m.1 7 0 0 8)) + a1) else a1)) = 0 then (0 : Int32) else (1 : Int32))))
def w_X5_takesDigit (m : PM) (a1 : Int32) : PM := (wI m 7 0 0 8 (if (if (v_X5_within m a1 (0 : Int32) (9 : Int32)) = 0 then (0 : Int32) else (if (m.1 7 0 0 8) = 0 then (0 : Int32) else (if (v_X5_isRow m (if ¬ (m.1 7 0 0 8) = (-1 : Int32) then (((10 : Int32) * (m.1 7 0 0 8)) + a1) else a1)) = 0 then (0 : Int32) else (1 : Int32)))) = 0 then (m.1 7 0 0 8) else (if ¬ (m.1 7 0 0 8) = (-1 : Int32) then (((10 : Int32) * (m.1 7 0 0 8)) + a1) else a1)))
theorem z_X5_takesDigit (m : PM) (a1 : Int32) : (v_X5_takesDigit m a1) = 0 ∨ (v_X5_takesDigit m a1) = 1 := by
  unfold v_X5_takesDigit
  (repeat' split) <;> first | exact Or.inl rfl | exact Or.inr rfl | exact z_X5_isRow _ _ | exact z_X5_within _ _ _ _
set_option maxRecDepth 100000 in
theorem r_X5_takesDigit (m : PM) (a1 : Int32) : Rn MX5_takesDigit [vR 7 0 0, vI a1] m (some (vI (v_X5_takesDigit m a1))) (w_X5_takesDigit m a1) := by
  refine rn_of [some (vR 7 0 0), some (vI a1), none, none] rfl ?_
  unfold v_X5_takesDigit w_X5_takesDigit
  refine an_b 4 (pc2 := if ¬ (m.1 7 0 0 8) = (-1 : Int32) then 12 else 8) (L2 := [some (vR 7 0 0), some (vI a1), none, none]) (st2 := []) (m1 := m) rfl ?_
  refine re_if1 (c := ¬ (m.1 7 0 0 8) = (-1 : Int32)) (a := (((10 : Int32) * (m.1 7 0 0 8)) + a1)) (b := a1) (fun x => (21, [some (vR 7 0 0), some (vI a1), none, none], [vI x], m)) (fun h1 v9 m9 K2 => ?_) (fun h1 v9 m9 K2 => ?_) _ _ ?_
  · refine an_b 6 (pc2 := 21) (L2 := [some (vR 7 0 0), some (vI a1), none, none]) (st2 := [vI (((10 : Int32) * (m.1 7 0 0 8)) + a1)]) (m1 := m) rfl ?_
    exact K2
  · refine an_b 2 (pc2 := 21) (L2 := [some (vR 7 0 0), some (vI a1), none, none]) (st2 := [vI a1]) (m1 := m) rfl ?_
    exact K2
  refine an_b 4 (pc2 := 26) (L2 := [some (vR 7 0 0), some (vI a1), some (vI (if ¬ (m.1 7 0 0 8) = (-1 : Int32) then (((10 : Int32) * (m.1 7 0 0 8)) + a1) else a1)), none]) (st2 := [vI (9 : Int32), vI (0 : Int32), vI a1]) (m1 := m) rfl ?_
  refine an_call (r_X5_within m a1 (0 : Int32) (9 : Int32)) rfl rfl rfl rfl ?_
  refine an_b 1 (pc2 := if (v_X5_within m a1 (0 : Int32) (9 : Int32)) = 0 then 50 else 32) (L2 := [some (vR 7 0 0), some (vI a1), some (vI (if ¬ (m.1 7 0 0 8) = (-1 : Int32) then (((10 : Int32) * (m.1 7 0 0 8)) + a1) else a1)), none]) (st2 := []) (m1 := m) rfl ?_
  refine re_if1 (c := (v_X5_within m a1 (0 : Int32) (9 : Int32)) = 0) (a := (0 : Int32)) (b := (if (m.1 7 0 0 8) = 0 then (0 : Int32) else (if (v_X5_isRow m (if ¬ (m.1 7 0 0 8) = (-1 : Int32) then (((10 : Int32) * (m.1 7 0 0 8)) + a1) else a1)) = 0 then (0 : Int32) else (1 : Int32)))) (fun x => (51, [some (vR 7 0 0), some (vI a1), some (vI (if ¬ (m.1 7 0 0 8) = (-1 : Int32) then (((10 : Int32) * (m.1 7 0 0 8)) + a1) else a1)), none], [vI x], m)) (fun h3 v9 m9 K8 => ?_) (fun h3 v9 m9 K8 => ?_) _ _ ?_
  · refine an_b 1 (pc2 := 51) (L2 := [some (vR 7 0 0), some (vI a1), some (vI (if ¬ (m.1 7 0 0 8) = (-1 : Int32) then (((10 : Int32) * (m.1 7 0 0 8)) + a1) else a1)), none]) (st2 := [vI (0 : Int32)]) (m1 := m) rfl ?_
    exact K8
  · refine an_b 3 (pc2 := if (m.1 7 0 0 8) = 0 then 50 else 39) (L2 := [some (vR 7 0 0), some (vI a1), some (vI (if ¬ (m.1 7 0 0 8) = (-1 : Int32) then (((10 : Int32) * (m.1 7 0 0 8)) + a1) else a1)), none]) (st2 := []) (m1 := m) rfl ?_
    refine re_if1 (c := (m.1 7 0 0 8) = 0) (a := (0 : Int32)) (b := (if (v_X5_isRow m (if ¬ (m.1 7 0 0 8) = (-1 : Int32) then (((10 : Int32) * (m.1 7 0 0 8)) + a1) else a1)) = 0 then (0 : Int32) else (1 : Int32))) (fun x => (51, [some (vR 7 0 0), some (vI a1), some (vI (if ¬ (m.1 7 0 0 8) = (-1 : Int32) then (((10 : Int32) * (m.1 7 0 0 8)) + a1) else a1)), none], [vI x], m)) (fun h4 v9 m9 K7 => ?_) (fun h4 v9 m9 K7 => ?_) _ _ ?_
    · refine an_b 1 (pc2 := 51) (L2 := [some (vR 7 0 0), some (vI a1), some (vI (if ¬ (m.1 7 0 0 8) = (-1 : Int32) then (((10 : Int32) * (m.1 7 0 0 8)) + a1) else a1)), none]) (st2 := [vI (0 : Int32)]) (m1 := m) rfl ?_
      exact K7
    · refine an_b 1 (pc2 := 40) (L2 := [some (vR 7 0 0), some (vI a1), some (vI (if ¬ (m.1 7 0 0 8) = (-1 : Int32) then (((10 : Int32) * (m.1 7 0 0 8)) + a1) else a1)), none]) (st2 := [vI (if ¬ (m.1 7 0 0 8) = (-1 : Int32) then (((10 : Int32) * (m.1 7 0 0 8)) + a1) else a1)]) (m1 := m) rfl ?_
      refine an_call (r_X5_isRow m (if ¬ (m.1 7 0 0 8) = (-1 : Int32) then (((10 : Int32) * (m.1 7 0 0 8)) + a1) else a1)) rfl rfl rfl rfl ?_
      refine an_b 1 (pc2 := if (v_X5_isRow m (if ¬ (m.1 7 0 0 8) = (-1 : Int32) then (((10 : Int32) * (m.1 7 0 0 8)) + a1) else a1)) = 0 then 50 else 46) (L2 := [some (vR 7 0 0), some (vI a1), some (vI (if ¬ (m.1 7 0 0 8) = (-1 : Int32) then (((10 : Int32) * (m.1 7 0 0 8)) + a1) else a1)), none]) (st2 := []) (m1 := m) rfl ?_
      refine re_if1 (c := (v_X5_isRow m (if ¬ (m.1 7 0 0 8) = (-1 : Int32) then (((10 : Int32) * (m.1 7 0 0 8)) + a1) else a1)) = 0) (a := (0 : Int32)) (b := (1 : Int32)) (fun x => (51, [some (vR 7 0 0), some (vI a1), some (vI (if ¬ (m.1 7 0 0 8) = (-1 : Int32) then (((10 : Int32) * (m.1 7 0 0 8)) + a1) else a1)), none], [vI x], m)) (fun h5 v9 m9 K6 => ?_) (fun h5 v9 m9 K6 => ?_) _ _ ?_
      · refine an_b 1 (pc2 := 51) (L2 := [some (vR 7 0 0), some (vI a1), some (vI (if ¬ (m.1 7 0 0 8) = (-1 : Int32) then (((10 : Int32) * (m.1 7 0 0 8)) + a1) else a1)), none]) (st2 := [vI (0 : Int32)]) (m1 := m) rfl ?_
        exact K6
      · refine an_b 2 (pc2 := 51) (L2 := [some (vR 7 0 0), some (vI a1), some (vI (if ¬ (m.1 7 0 0 8) = (-1 : Int32) then (((10 : Int32) * (m.1 7 0 0 8)) + a1) else a1)), none]) (st2 := [vI (1 : Int32)]) (m1 := m) rfl ?_
        exact K6
      exact K7
    exact K8
  refine an_b 4 (pc2 := if (if (v_X5_within m a1 (0 : Int32) (9 : Int32)) = 0 then (0 : Int32) else (if (m.1 7 0 0 8) = 0 then (0 : Int32) else (if (v_X5_isRow m (if ¬ (m.1 7 0 0 8) = (-1 : Int32) then (((10 : Int32) * (m.1 7 0 0 8)) + a1) else a1)) = 0 then (0 : Int32) else (1 : Int32)))) = 0 then 61 else 57) (L2 := [some (vR 7 0 0), some (vI a1), some (vI (if ¬ (m.1 7 0 0 8) = (-1 : Int32) then (((10 : Int32) * (m.1 7 0 0 8)) + a1) else a1)), some (vI (if (v_X5_within m a1 (0 : Int32) (9 : Int32)) = 0 then (0 : Int32) else (if (m.1 7 0 0 8) = 0 then (0 : Int32) else (if (v_X5_isRow m (if ¬ (m.1 7 0 0 8) = (-1 : Int32) then (((10 : Int32) * (m.1 7 0 0 8)) + a1) else a1)) = 0 then (0 : Int32) else (1 : Int32)))))]) (st2 := [vR 7 0 0]) (m1 := m) rfl ?_
  refine re_if1 (c := (if (v_X5_within m a1 (0 : Int32) (9 : Int32)) = 0 then (0 : Int32) else (if (m.1 7 0 0 8) = 0 then (0 : Int32) else (if (v_X5_isRow m (if ¬ (m.1 7 0 0 8) = (-1 : Int32) then (((10 : Int32) * (m.1 7 0 0 8)) + a1) else a1)) = 0 then (0 : Int32) else (1 : Int32)))) = 0) (a := (m.1 7 0 0 8)) (b := (if ¬ (m.1 7 0 0 8) = (-1 : Int32) then (((10 : Int32) * (m.1 7 0 0 8)) + a1) else a1)) (fun x => (65, [some (vR 7 0 0), some (vI a1), some (vI (if ¬ (m.1 7 0 0 8) = (-1 : Int32) then (((10 : Int32) * (m.1 7 0 0 8)) + a1) else a1)), some (vI (if (v_X5_within m a1 (0 : Int32) (9 : Int32)) = 0 then (0 : Int32) else (if (m.1 7 0 0 8) = 0 then (0 : Int32) else (if (v_X5_isRow m (if ¬ (m.1 7 0 0 8) = (-1 : Int32) then (((10 : Int32) * (m.1 7 0 0 8)) + a1) else a1)) = 0 then (0 : Int32) else (1 : Int32)))))], [vI x, vR 7 0 0], m)) (fun h9 v9 m9 K10 => ?_) (fun h9 v9 m9 K10 => ?_) _ _ ?_
  · refine an_b 2 (pc2 := 65) (L2 := [some (vR 7 0 0), some (vI a1), some (vI (if ¬ (m.1 7 0 0 8) = (-1 : Int32) then (((10 : Int32) * (m.1 7 0 0 8)) + a1) else a1)), some (vI (if (v_X5_within m a1 (0 : Int32) (9 : Int32)) = 0 then (0 : Int32) else (if (m.1 7 0 0 8) = 0 then (0 : Int32) else (if (v_X5_isRow m (if ¬ (m.1 7 0 0 8) = (-1 : Int32) then (((10 : Int32) * (m.1 7 0 0 8)) + a1) else a1)) = 0 then (0 : Int32) else (1 : Int32)))))]) (st2 := [vI (m.1 7 0 0 8), vR 7 0 0]) (m1 := m) rfl ?_
    exact K10
  · refine an_b 2 (pc2 := 65) (L2 := [some (vR 7 0 0), some (vI a1), some (vI (if ¬ (m.1 7 0 0 8) = (-1 : Int32) then (((10 : Int32) * (m.1 7 0 0 8)) + a1) else a1)), some (vI (if (v_X5_within m a1 (0 : Int32) (9 : Int32)) = 0 then (0 : Int32) else (if (m.1 7 0 0 8) = 0 then (0 : Int32) else (if (v_X5_isRow m (if ¬ (m.1 7 0 0 8) = (-1 : Int32) then (((10 : Int32) * (m.1 7 0 0 8)) + a1) else a1)) = 0 then (0 : Int32) else (1 : Int32)))))]) (st2 := [vI (if ¬ (m.1 7 0 0 8) = (-1 : Int32) then (((10 : Int32) * (m.1 7 0 0 8)) + a1) else a1), vR 7 0 0]) (m1 := m) rfl ?_
    exact K10
  refine an_b 2 (pc2 := 69) (L2 := [some (vR 7 0 0), some (vI a1), some (vI (if ¬ (m.1 7 0 0 8) = (-1 : Int32) then (((10 : Int32) * (m.1 7 0 0 8)) + a1) else a1)), some (vI (if (v_X5_within m a1 (0 : Int32) (9 : Int32)) = 0 then (0 : Int32) else (if (m.1 7 0 0 8) = 0 then (0 : Int32) else (if (v_X5_isRow m (if ¬ (m.1 7 0 0 8) = (-1 : Int32) then (((10 : Int32) * (m.1 7 0 0 8)) + a1) else a1)) = 0 then (0 : Int32) else (1 : Int32)))))]) (st2 := [vI (if (v_X5_within m a1 (0 : Int32) (9 : Int32)) = 0 then (0 : Int32) else (if (m.1 7 0 0 8) = 0 then (0 : Int32) else (if (v_X5_isRow m (if ¬ (m.1 7 0 0 8) = (-1 : Int32) then (((10 : Int32) * (m.1 7 0 0 8)) + a1) else a1)) = 0 then (0 : Int32) else (1 : Int32))))]) (m1 := (wI m 7 0 0 8 (if (if (v_X5_within m a1 (0 : Int32) (9 : Int32)) = 0 then (0 : Int32) else (if (m.1 7 0 0 8) = 0 then (0 : Int32) else (if (v_X5_isRow m (if ¬ (m.1 7 0 0 8) = (-1 : Int32) then (((10 : Int32) * (m.1 7 0 0 8)) + a1) else a1)) = 0 then (0 : Int32) else (1 : Int32)))) = 0 then (m.1 7 0 0 8) else (if ¬ (m.1 7 0 0 8) = (-1 : Int32) then (((10 : Int32) * (m.1 7 0 0 8)) + a1) else a1)))) rfl ?_
  exact an_retz (by (repeat' split) <;> first | exact Or.inl rfl | exact Or.inr rfl | exact z_X5_isRow _ _ | exact z_X5_within _ _ _ _) rfl rfl
def b_X5_locksOf_1 (m : PM) (a1 : Nat)  (j1 : Nat) (s1 : Int32) : Int32 := (s1 + (if (v_X5_lockOf m a1 j1) ≤ 0 then (0 : Int32) else (1 : Int32)))
def v_X5_locksOf (m : PM) (a1 : Nat) : Int32 := (lp (b_X5_locksOf_1 m a1) 12 0 (0 : Int32))
set_option maxRecDepth 100000 in
theorem r_X5_locksOf (m : PM) (a1 : Nat) (ha1 : a1 < 8) : Rn MX5_locksOf [vR 7 0 0, vI (nI a1)] m (some (vI (v_X5_locksOf m a1))) m := by
  refine rn_of [some (vR 7 0 0), some (vI (nI a1)), none, none] rfl ?_
  unfold v_X5_locksOf
  refine an_b 4 (pc2 := 4) (L2 := [some (vR 7 0 0), some (vI (nI a1)), some (vI (0 : Int32)), some (vI (0 : Int32))]) (st2 := []) (m1 := m) rfl ?_
  refine re_lp (σ := Int32) (b_X5_locksOf_1 m a1) (fun j1 s1 => (4, [some (vR 7 0 0), some (vI (nI a1)), some (vI s1), some (vI (nI j1))], [], m)) 12 (fun s1 => (33, [some (vR 7 0 0), some (vI (nI a1)), some (vI s1), none], [], m)) (fun j1 s1 hj1 v9 m9 K1 => ?_) (fun s1 v9 m9 K1 => ?_) 12 0 (0 : Int32) (Nat.add_zero _) _ _ ?_
  · show An MX5_locksOf 4 [some (vR 7 0 0), some (vI (nI a1)), some (vI s1), some (vI (nI j1))] [] m v9 m9
    refine an_b 3 (pc2 := if (12 : Int32) ≤ (nI j1) then 33 else 10) (L2 := [some (vR 7 0 0), some (vI (nI a1)), some (vI s1), some (vI (nI j1))]) (st2 := []) (m1 := m) rfl ?_
    refine an_f (nI_ge (a := j1) (b := 12) (by omega) (by omega)) ?_
    refine an_b 4 (pc2 := 14) (L2 := [some (vR 7 0 0), some (vI (nI a1)), some (vI s1), some (vI (nI j1))]) (st2 := [vI (nI j1), vI (nI a1), vR 7 0 0, vI s1]) (m1 := m) rfl ?_
    refine an_call (r_X5_lockOf m a1 j1 (by omega) (by omega)) rfl rfl rfl rfl ?_
    refine an_b 1 (pc2 := if (v_X5_lockOf m a1 j1) ≤ 0 then 24 else 20) (L2 := [some (vR 7 0 0), some (vI (nI a1)), some (vI s1), some (vI (nI j1))]) (st2 := [vI s1]) (m1 := m) rfl ?_
    refine re_if1 (c := (v_X5_lockOf m a1 j1) ≤ 0) (a := (0 : Int32)) (b := (1 : Int32)) (fun x => (25, [some (vR 7 0 0), some (vI (nI a1)), some (vI s1), some (vI (nI j1))], [vI x, vI s1], m)) (fun h1 v9 m9 K2 => ?_) (fun h1 v9 m9 K2 => ?_) _ _ ?_
    · refine an_b 1 (pc2 := 25) (L2 := [some (vR 7 0 0), some (vI (nI a1)), some (vI s1), some (vI (nI j1))]) (st2 := [vI (0 : Int32), vI s1]) (m1 := m) rfl ?_
      exact K2
    · refine an_b 2 (pc2 := 25) (L2 := [some (vR 7 0 0), some (vI (nI a1)), some (vI s1), some (vI (nI j1))]) (st2 := [vI (1 : Int32), vI s1]) (m1 := m) rfl ?_
      exact K2
    refine an_b 4 (pc2 := 4) (L2 := [some (vR 7 0 0), some (vI (nI a1)), some (vI (s1 + (if (v_X5_lockOf m a1 j1) ≤ 0 then (0 : Int32) else (1 : Int32)))), some (vI ((nI j1) + (1 : Int32)))]) (st2 := []) (m1 := m) rfl ?_
    refine an_cL (K := [some (vR 7 0 0), some (vI (nI a1)), some (vI (s1 + (if (v_X5_lockOf m a1 j1) ≤ 0 then (0 : Int32) else (1 : Int32)))), some (vI (nI (j1 + 1)))]) (by simp only [nI_1]) ?_
    exact K1
  · show An MX5_locksOf 4 [some (vR 7 0 0), some (vI (nI a1)), some (vI s1), some (vI (nI 12))] [] m v9 m9
    refine an_b 3 (pc2 := if (12 : Int32) ≤ (nI 12) then 33 else 10) (L2 := [some (vR 7 0 0), some (vI (nI a1)), some (vI s1), some (vI (nI 12))]) (st2 := []) (m1 := m) rfl ?_
    refine an_t (nI_le (a := 12) (b := 12) (by omega) (by omega)) ?_
    refine an_weak (L := [some (vR 7 0 0), some (vI (nI a1)), some (vI s1), none]) (⟨rfl, rfl, rfl, trivial⟩) ?_
    exact K1
  show An MX5_locksOf 33 [some (vR 7 0 0), some (vI (nI a1)), some (vI (lp (b_X5_locksOf_1 m a1) 12 0 (0 : Int32))), none] [] m _ _
  refine an_b 1 (pc2 := 34) (L2 := [some (vR 7 0 0), some (vI (nI a1)), some (vI (lp (b_X5_locksOf_1 m a1) 12 0 (0 : Int32))), none]) (st2 := [vI (lp (b_X5_locksOf_1 m a1) 12 0 (0 : Int32))]) (m1 := m) rfl ?_
  exact an_ret rfl rfl rfl rfl rfl
def v_X5_rowNow (m : PM) (a1 : Nat) (a2 : Int32) : Int32 := (if a2 = nI 0 then (m.1 8 0 0 (101 + a1)) else (if a2 = nI 1 then (v_X5_greatestOf m a1) else (if a2 = nI 2 then (v_X5_holders m a1) else (if a2 = nI 3 then (m.1 8 0 0 (125 + a1)) else (if a2 = nI 4 then (m.1 8 0 0 (113 + a1)) else (if ¬ (m.1 8 0 0 (125 + a1)) = 0 then (v_X5_whoAt m a1 0) else (-1 : Int32)))))))
set_option maxRecDepth 100000 in
theorem r_X5_rowNow (m : PM) (a1 : Nat) (a2 : Int32) (ha1 : a1 < 12) : Rn MX5_rowNow [vR 7 0 0, vI (nI a1), vI a2] m (some (vI (v_X5_rowNow m a1 a2))) m := by
  refine rn_of [some (vR 7 0 0), some (vI (nI a1)), some (vI a2)] rfl ?_
  unfold v_X5_rowNow
  refine an_b 1 (pc2 := 1) (L2 := [some (vR 7 0 0), some (vI (nI a1)), some (vI a2)]) (st2 := [vI a2]) (m1 := m) rfl ?_
  refine an_tsw [36, 46, 52, 58, 68] 78 rfl rfl rfl (by decide) ?_
  refine an_ifi (c := a2 = nI 0) (fun h1 => ?_) (fun h1 => ?_)
  · refine an_b 5 (pc2 := 44) (L2 := [some (vR 7 0 0), some (vI (nI a1)), some (vI a2)]) (st2 := [vI ((101 : Int32) + (nI a1)), vR 8 0 0]) (m1 := m) rfl ?_
    refine an_ald (101 + a1) 361 rfl rfl (by simp only [ix_lit, pk_mul, nI_add]) (by omega) (by omega) ?_
    exact an_ret rfl rfl rfl rfl rfl
  · refine an_ifi (c := a2 = nI 1) (fun h2 => ?_) (fun h2 => ?_)
    · refine an_b 2 (pc2 := 48) (L2 := [some (vR 7 0 0), some (vI (nI a1)), some (vI a2)]) (st2 := [vI (nI a1), vR 7 0 0]) (m1 := m) rfl ?_
      refine an_call (r_X5_greatestOf m a1 (by omega)) rfl rfl rfl rfl ?_
      exact an_ret rfl rfl rfl rfl rfl
    · refine an_ifi (c := a2 = nI 2) (fun h3 => ?_) (fun h3 => ?_)
      · refine an_b 2 (pc2 := 54) (L2 := [some (vR 7 0 0), some (vI (nI a1)), some (vI a2)]) (st2 := [vI (nI a1), vR 7 0 0]) (m1 := m) rfl ?_
        refine an_call (r_X5_holders m a1 (by omega)) rfl rfl rfl rfl ?_
        exact an_ret rfl rfl rfl rfl rfl
      · refine an_ifi (c := a2 = nI 3) (fun h4 => ?_) (fun h4 => ?_)
        · refine an_b 5 (pc2 := 66) (L2 := [some (vR 7 0 0), some (vI (nI a1)), some (vI a2)]) (st2 := [vI ((125 : Int32) + (nI a1)), vR 8 0 0]) (m1 := m) rfl ?_
          refine an_ald (125 + a1) 361 rfl rfl (by simp only [ix_lit, pk_mul, nI_add]) (by omega) (by omega) ?_
          exact an_ret rfl rfl rfl rfl rfl
        · refine an_ifi (c := a2 = nI 4) (fun h5 => ?_) (fun h5 => ?_)
          · refine an_b 5 (pc2 := 76) (L2 := [some (vR 7 0 0), some (vI (nI a1)), some (vI a2)]) (st2 := [vI ((113 : Int32) + (nI a1)), vR 8 0 0]) (m1 := m) rfl ?_
            refine an_ald (113 + a1) 361 rfl rfl (by simp only [ix_lit, pk_mul, nI_add]) (by omega) (by omega) ?_
            exact an_ret rfl rfl rfl rfl rfl
          · refine an_b 5 (pc2 := 86) (L2 := [some (vR 7 0 0), some (vI (nI a1)), some (vI a2)]) (st2 := [vI ((125 : Int32) + (nI a1)), vR 8 0 0]) (m1 := m) rfl ?_
            refine an_ald (125 + a1) 361 rfl rfl (by simp only [ix_lit, pk_mul, nI_add]) (by omega) (by omega) ?_
            refine an_b 1 (pc2 := if ¬ (m.1 8 0 0 (125 + a1)) = 0 then 94 else 90) (L2 := [some (vR 7 0 0), some (vI (nI a1)), some (vI a2)]) (st2 := []) (m1 := m) rfl ?_
            refine an_ifi (c := ¬ (m.1 8 0 0 (125 + a1)) = 0) (fun h6 => ?_) (fun h6 => ?_)
            · refine an_b 3 (pc2 := 97) (L2 := [some (vR 7 0 0), some (vI (nI a1)), some (vI a2)]) (st2 := [vI (0 : Int32), vI (nI a1), vR 7 0 0]) (m1 := m) rfl ?_
              refine an_call (r_X5_whoAt m a1 0 (by omega) (by omega)) rfl rfl rfl rfl ?_
              exact an_ret rfl rfl rfl rfl rfl
            · refine an_b 2 (pc2 := 100) (L2 := [some (vR 7 0 0), some (vI (nI a1)), some (vI a2)]) (st2 := [vI (-1 : Int32)]) (m1 := m) rfl ?_
              exact an_ret rfl rfl rfl rfl rfl
def v_X5_requestNow (m : PM) (a1 : Nat) (a2 : Nat) (a3 : Int32) : Int32 := (if (nI a2) < (m.1 8 0 0 (125 + a1)) then (if ¬ a3 = 0 then (v_X5_modeAt m a1 a2) else (v_X5_whoAt m a1 a2)) else (-1 : Int32))
set_option maxRecDepth 100000 in
theorem r_X5_requestNow (m : PM) (a1 : Nat) (a2 : Nat) (a3 : Int32) (ha1 : a1 < 12) (ha2 : a2 < 8) : Rn MX5_requestNow [vR 7 0 0, vI (nI a1), vI (nI a2), vI a3] m (some (vI (v_X5_requestNow m a1 a2 a3))) m := by
  refine rn_of [some (vR 7 0 0), some (vI (nI a1)), some (vI (nI a2)), some (vI a3)] rfl ?_
  unfold v_X5_requestNow
  refine an_b 6 (pc2 := 9) (L2 := [some (vR 7 0 0), some (vI (nI a1)), some (vI (nI a2)), some (vI a3)]) (st2 := [vI ((125 : Int32) + (nI a1)), vR 8 0 0, vI (nI a2)]) (m1 := m) rfl ?_
  refine an_ald (125 + a1) 361 rfl rfl (by simp only [ix_lit, pk_mul, nI_add]) (by omega) (by omega) ?_
  refine an_b 1 (pc2 := if (nI a2) < (m.1 8 0 0 (125 + a1)) then 17 else 13) (L2 := [some (vR 7 0 0), some (vI (nI a1)), some (vI (nI a2)), some (vI a3)]) (st2 := []) (m1 := m) rfl ?_
  refine an_ifi (c := (nI a2) < (m.1 8 0 0 (125 + a1))) (fun h1 => ?_) (fun h1 => ?_)
  · refine an_b 2 (pc2 := if ¬ a3 = 0 then 30 else 21) (L2 := [some (vR 7 0 0), some (vI (nI a1)), some (vI (nI a2)), some (vI a3)]) (st2 := []) (m1 := m) rfl ?_
    refine an_ifi (c := ¬ a3 = 0) (fun h2 => ?_) (fun h2 => ?_)
    · refine an_b 3 (pc2 := 33) (L2 := [some (vR 7 0 0), some (vI (nI a1)), some (vI (nI a2)), some (vI a3)]) (st2 := [vI (nI a2), vI (nI a1), vR 7 0 0]) (m1 := m) rfl ?_
      refine an_call (r_X5_modeAt m a1 a2 (by omega) (by omega)) rfl rfl rfl rfl ?_
      exact an_ret rfl rfl rfl rfl rfl
    · refine an_b 3 (pc2 := 24) (L2 := [some (vR 7 0 0), some (vI (nI a1)), some (vI (nI a2)), some (vI a3)]) (st2 := [vI (nI a2), vI (nI a1), vR 7 0 0]) (m1 := m) rfl ?_
      refine an_call (r_X5_whoAt m a1 a2 (by omega) (by omega)) rfl rfl rfl rfl ?_
      refine an_b 1 (pc2 := 36) (L2 := [some (vR 7 0 0), some (vI (nI a1)), some (vI (nI a2)), some (vI a3)]) (st2 := [vI (v_X5_whoAt m a1 a2)]) (m1 := m) rfl ?_
      exact an_ret rfl rfl rfl rfl rfl
  · refine an_b 2 (pc2 := 36) (L2 := [some (vR 7 0 0), some (vI (nI a1)), some (vI (nI a2)), some (vI a3)]) (st2 := [vI (-1 : Int32)]) (m1 := m) rfl ?_
    exact an_ret rfl rfl rfl rfl rfl
def b_X5_sumFrom_1 (m : PM) (a1 : Nat) (a2 : Nat)  (j1 : Nat) (s1 : Int32) : Int32 := (s1 + (m.1 8 0 0 (a1 + j1)))
def v_X5_sumFrom (m : PM) (a1 : Nat) (a2 : Nat) : Int32 := (lp (b_X5_sumFrom_1 m a1 a2) a2 0 (0 : Int32))
set_option maxRecDepth 100000 in
theorem r_X5_sumFrom (m : PM) (a1 : Nat) (a2 : Nat) (ha1 : a1 < 354) (ha2 : a1 + a2 < 362) : Rn MX5_sumFrom [vR 7 0 0, vI (nI a1), vI (nI a2)] m (some (vI (v_X5_sumFrom m a1 a2))) m := by
  refine rn_of [some (vR 7 0 0), some (vI (nI a1)), some (vI (nI a2)), none, none] rfl ?_
  unfold v_X5_sumFrom
  refine an_b 4 (pc2 := 5) (L2 := [some (vR 7 0 0), some (vI (nI a1)), some (vI (nI a2)), some (vI (0 : Int32)), some (vI (0 : Int32))]) (st2 := []) (m1 := m) rfl ?_
  refine re_lp (σ := Int32) (b_X5_sumFrom_1 m a1 a2) (fun j1 s1 => (5, [some (vR 7 0 0), some (vI (nI a1)), some (vI (nI a2)), some (vI s1), some (vI (nI j1))], [], m)) a2 (fun s1 => (29, [some (vR 7 0 0), some (vI (nI a1)), some (vI (nI a2)), some (vI s1), none], [], m)) (fun j1 s1 hj1 v9 m9 K1 => ?_) (fun s1 v9 m9 K1 => ?_) a2 0 (0 : Int32) (Nat.add_zero _) _ _ ?_
  · show An MX5_sumFrom 5 [some (vR 7 0 0), some (vI (nI a1)), some (vI (nI a2)), some (vI s1), some (vI (nI j1))] [] m v9 m9
    refine an_b 3 (pc2 := if (nI a2) ≤ (nI j1) then 29 else 11) (L2 := [some (vR 7 0 0), some (vI (nI a1)), some (vI (nI a2)), some (vI s1), some (vI (nI j1))]) (st2 := []) (m1 := m) rfl ?_
    refine an_f (nI_ge (a := j1) (b := a2) (by omega) (by omega)) ?_
    refine an_b 6 (pc2 := 20) (L2 := [some (vR 7 0 0), some (vI (nI a1)), some (vI (nI a2)), some (vI s1), some (vI (nI j1))]) (st2 := [vI ((nI a1) + (nI j1)), vR 8 0 0, vI s1]) (m1 := m) rfl ?_
    refine an_ald (a1 + j1) 361 rfl rfl (by simp only [ix_lit, pk_mul, nI_add]) (by omega) (by omega) ?_
    refine an_b 4 (pc2 := 5) (L2 := [some (vR 7 0 0), some (vI (nI a1)), some (vI (nI a2)), some (vI (s1 + (m.1 8 0 0 (a1 + j1)))), some (vI ((nI j1) + (1 : Int32)))]) (st2 := []) (m1 := m) rfl ?_
    refine an_cL (K := [some (vR 7 0 0), some (vI (nI a1)), some (vI (nI a2)), some (vI (s1 + (m.1 8 0 0 (a1 + j1)))), some (vI (nI (j1 + 1)))]) (by simp only [nI_1]) ?_
    exact K1
  · show An MX5_sumFrom 5 [some (vR 7 0 0), some (vI (nI a1)), some (vI (nI a2)), some (vI s1), some (vI (nI a2))] [] m v9 m9
    refine an_b 3 (pc2 := if (nI a2) ≤ (nI a2) then 29 else 11) (L2 := [some (vR 7 0 0), some (vI (nI a1)), some (vI (nI a2)), some (vI s1), some (vI (nI a2))]) (st2 := []) (m1 := m) rfl ?_
    refine an_t (nI_le (a := a2) (b := a2) (by omega) (by omega)) ?_
    refine an_weak (L := [some (vR 7 0 0), some (vI (nI a1)), some (vI (nI a2)), some (vI s1), none]) (⟨rfl, rfl, rfl, rfl, trivial⟩) ?_
    exact K1
  show An MX5_sumFrom 29 [some (vR 7 0 0), some (vI (nI a1)), some (vI (nI a2)), some (vI (lp (b_X5_sumFrom_1 m a1 a2) a2 0 (0 : Int32))), none] [] m _ _
  refine an_b 1 (pc2 := 30) (L2 := [some (vR 7 0 0), some (vI (nI a1)), some (vI (nI a2)), some (vI (lp (b_X5_sumFrom_1 m a1 a2) a2 0 (0 : Int32))), none]) (st2 := [vI (lp (b_X5_sumFrom_1 m a1 a2) a2 0 (0 : Int32))]) (m1 := m) rfl ?_
  exact an_ret rfl rfl rfl rfl rfl
def b_X5_allLocks_1 (m : PM)   (j1 : Nat) (s1 : Int32) : Int32 := (s1 + (v_X5_locksOf m j1))
def v_X5_allLocks (m : PM)  : Int32 := (lp (b_X5_allLocks_1 m) 8 0 (0 : Int32))
set_option maxRecDepth 100000 in
theorem r_X5_allLocks (m : PM)  : Rn MX5_allLocks [vR 7 0 0] m (some (vI (v_X5_allLocks m))) m := by
  refine rn_of [some (vR 7 0 0), none, none] rfl ?_
  unfold v_X5_allLocks
  refine an_b 4 (pc2 := 4) (L2 := [some (vR 7 0 0), some (vI (0 : Int32)), some (vI (0 : Int32))]) (st2 := []) (m1 := m) rfl ?_
  refine re_lp (σ := Int32) (b_X5_allLocks_1 m) (fun j1 s1 => (4, [some (vR 7 0 0), some (vI s1), some (vI (nI j1))], [], m)) 8 (fun s1 => (24, [some (vR 7 0 0), some (vI s1), none], [], m)) (fun j1 s1 hj1 v9 m9 K1 => ?_) (fun s1 v9 m9 K1 => ?_) 8 0 (0 : Int32) (Nat.add_zero _) _ _ ?_
  · show An MX5_allLocks 4 [some (vR 7 0 0), some (vI s1), some (vI (nI j1))] [] m v9 m9
    refine an_b 3 (pc2 := if (8 : Int32) ≤ (nI j1) then 24 else 10) (L2 := [some (vR 7 0 0), some (vI s1), some (vI (nI j1))]) (st2 := []) (m1 := m) rfl ?_
    refine an_f (nI_ge (a := j1) (b := 8) (by omega) (by omega)) ?_
    refine an_b 3 (pc2 := 13) (L2 := [some (vR 7 0 0), some (vI s1), some (vI (nI j1))]) (st2 := [vI (nI j1), vR 7 0 0, vI s1]) (m1 := m) rfl ?_
    refine an_call (r_X5_locksOf m j1 (by omega)) rfl rfl rfl rfl ?_
    refine an_b 4 (pc2 := 4) (L2 := [some (vR 7 0 0), some (vI (s1 + (v_X5_locksOf m j1))), some (vI ((nI j1) + (1 : Int32)))]) (st2 := []) (m1 := m) rfl ?_
    refine an_cL (K := [some (vR 7 0 0), some (vI (s1 + (v_X5_locksOf m j1))), some (vI (nI (j1 + 1)))]) (by simp only [nI_1]) ?_
    exact K1
  · show An MX5_allLocks 4 [some (vR 7 0 0), some (vI s1), some (vI (nI 8))] [] m v9 m9
    refine an_b 3 (pc2 := if (8 : Int32) ≤ (nI 8) then 24 else 10) (L2 := [some (vR 7 0 0), some (vI s1), some (vI (nI 8))]) (st2 := []) (m1 := m) rfl ?_
    refine an_t (nI_le (a := 8) (b := 8) (by omega) (by omega)) ?_
    refine an_weak (L := [some (vR 7 0 0), some (vI s1), none]) (⟨rfl, rfl, trivial⟩) ?_
    exact K1
  show An MX5_allLocks 24 [some (vR 7 0 0), some (vI (lp (b_X5_allLocks_1 m) 8 0 (0 : Int32))), none] [] m _ _
  refine an_b 1 (pc2 := 25) (L2 := [some (vR 7 0 0), some (vI (lp (b_X5_allLocks_1 m) 8 0 (0 : Int32))), none]) (st2 := [vI (lp (b_X5_allLocks_1 m) 8 0 (0 : Int32))]) (m1 := m) rfl ?_
  exact an_ret rfl rfl rfl rfl rfl
def b_X5_heldRows_1 (m : PM)   (j1 : Nat) (s1 : Int32) : Int32 := (s1 + (if (v_X5_holders m j1) ≤ 0 then (0 : Int32) else (1 : Int32)))
def v_X5_heldRows (m : PM)  : Int32 := (lp (b_X5_heldRows_1 m) 12 0 (0 : Int32))
set_option maxRecDepth 100000 in
theorem r_X5_heldRows (m : PM)  : Rn MX5_heldRows [vR 7 0 0] m (some (vI (v_X5_heldRows m))) m := by
  refine rn_of [some (vR 7 0 0), none, none] rfl ?_
  unfold v_X5_heldRows
  refine an_b 4 (pc2 := 4) (L2 := [some (vR 7 0 0), some (vI (0 : Int32)), some (vI (0 : Int32))]) (st2 := []) (m1 := m) rfl ?_
  refine re_lp (σ := Int32) (b_X5_heldRows_1 m) (fun j1 s1 => (4, [some (vR 7 0 0), some (vI s1), some (vI (nI j1))], [], m)) 12 (fun s1 => (32, [some (vR 7 0 0), some (vI s1), none], [], m)) (fun j1 s1 hj1 v9 m9 K1 => ?_) (fun s1 v9 m9 K1 => ?_) 12 0 (0 : Int32) (Nat.add_zero _) _ _ ?_
  · show An MX5_heldRows 4 [some (vR 7 0 0), some (vI s1), some (vI (nI j1))] [] m v9 m9
    refine an_b 3 (pc2 := if (12 : Int32) ≤ (nI j1) then 32 else 10) (L2 := [some (vR 7 0 0), some (vI s1), some (vI (nI j1))]) (st2 := []) (m1 := m) rfl ?_
    refine an_f (nI_ge (a := j1) (b := 12) (by omega) (by omega)) ?_
    refine an_b 3 (pc2 := 13) (L2 := [some (vR 7 0 0), some (vI s1), some (vI (nI j1))]) (st2 := [vI (nI j1), vR 7 0 0, vI s1]) (m1 := m) rfl ?_
    refine an_call (r_X5_holders m j1 (by omega)) rfl rfl rfl rfl ?_
    refine an_b 1 (pc2 := if (v_X5_holders m j1) ≤ 0 then 23 else 19) (L2 := [some (vR 7 0 0), some (vI s1), some (vI (nI j1))]) (st2 := [vI s1]) (m1 := m) rfl ?_
    refine re_if1 (c := (v_X5_holders m j1) ≤ 0) (a := (0 : Int32)) (b := (1 : Int32)) (fun x => (24, [some (vR 7 0 0), some (vI s1), some (vI (nI j1))], [vI x, vI s1], m)) (fun h1 v9 m9 K2 => ?_) (fun h1 v9 m9 K2 => ?_) _ _ ?_
    · refine an_b 1 (pc2 := 24) (L2 := [some (vR 7 0 0), some (vI s1), some (vI (nI j1))]) (st2 := [vI (0 : Int32), vI s1]) (m1 := m) rfl ?_
      exact K2
    · refine an_b 2 (pc2 := 24) (L2 := [some (vR 7 0 0), some (vI s1), some (vI (nI j1))]) (st2 := [vI (1 : Int32), vI s1]) (m1 := m) rfl ?_
      exact K2
    refine an_b 4 (pc2 := 4) (L2 := [some (vR 7 0 0), some (vI (s1 + (if (v_X5_holders m j1) ≤ 0 then (0 : Int32) else (1 : Int32)))), some (vI ((nI j1) + (1 : Int32)))]) (st2 := []) (m1 := m) rfl ?_
    refine an_cL (K := [some (vR 7 0 0), some (vI (s1 + (if (v_X5_holders m j1) ≤ 0 then (0 : Int32) else (1 : Int32)))), some (vI (nI (j1 + 1)))]) (by simp only [nI_1]) ?_
    exact K1
  · show An MX5_heldRows 4 [some (vR 7 0 0), some (vI s1), some (vI (nI 12))] [] m v9 m9
    refine an_b 3 (pc2 := if (12 : Int32) ≤ (nI 12) then 32 else 10) (L2 := [some (vR 7 0 0), some (vI s1), some (vI (nI 12))]) (st2 := []) (m1 := m) rfl ?_
    refine an_t (nI_le (a := 12) (b := 12) (by omega) (by omega)) ?_
    refine an_weak (L := [some (vR 7 0 0), some (vI s1), none]) (⟨rfl, rfl, trivial⟩) ?_
    exact K1
  show An MX5_heldRows 32 [some (vR 7 0 0), some (vI (lp (b_X5_heldRows_1 m) 12 0 (0 : Int32))), none] [] m _ _
  refine an_b 1 (pc2 := 33) (L2 := [some (vR 7 0 0), some (vI (lp (b_X5_heldRows_1 m) 12 0 (0 : Int32))), none]) (st2 := [vI (lp (b_X5_heldRows_1 m) 12 0 (0 : Int32))]) (m1 := m) rfl ?_
  exact an_ret rfl rfl rfl rfl rfl
def b_X5_keep_1 (m : PM)   (j1 : Nat) (s1 : PM) : PM := (wI s1 8 4 0 j1 (s1.1 8 0 0 j1))
def w_X5_keep (m : PM)  : PM := (lp (b_X5_keep_1 m) 361 0 m)
set_option maxRecDepth 100000 in
theorem r_X5_keep (m : PM)  : Rn MX5_keep [vR 7 0 0] m none (w_X5_keep m) := by
  refine rn_of [some (vR 7 0 0), none] rfl ?_
  unfold w_X5_keep
  refine an_b 2 (pc2 := 2) (L2 := [some (vR 7 0 0), some (vI (0 : Int32))]) (st2 := []) (m1 := m) rfl ?_
  refine re_lp (σ := PM) (b_X5_keep_1 m) (fun j1 s1 => (2, [some (vR 7 0 0), some (vI (nI j1))], [], s1)) 361 (fun s1 => (27, [some (vR 7 0 0), none], [], s1)) (fun j1 s1 hj1 v9 m9 K1 => ?_) (fun s1 v9 m9 K1 => ?_) 361 0 m (Nat.add_zero _) _ _ ?_
  · show An MX5_keep 2 [some (vR 7 0 0), some (vI (nI j1))] [] s1 v9 m9
    refine an_b 3 (pc2 := if (361 : Int32) ≤ (nI j1) then 27 else 9) (L2 := [some (vR 7 0 0), some (vI (nI j1))]) (st2 := []) (m1 := s1) rfl ?_
    refine an_f (nI_ge (a := j1) (b := 361) (by omega) (by omega)) ?_
    refine an_b 6 (pc2 := 19) (L2 := [some (vR 7 0 0), some (vI (nI j1))]) (st2 := [vI (nI j1), vR 8 0 0, vI (nI j1), vR 8 4 0]) (m1 := s1) rfl ?_
    refine an_ald j1 361 rfl rfl (by simp only [ix_lit, pk_mul, nI_add]) (by omega) (by omega) ?_
    refine an_ast j1 361 rfl rfl (by decide) (by simp only [ix_lit, pk_mul, nI_add]) (by omega) (by omega) ?_
    refine an_b 2 (pc2 := 2) (L2 := [some (vR 7 0 0), some (vI ((nI j1) + (1 : Int32)))]) (st2 := []) (m1 := (wI s1 8 4 0 j1 (s1.1 8 0 0 j1))) rfl ?_
    refine an_cL (K := [some (vR 7 0 0), some (vI (nI (j1 + 1)))]) (by simp only [nI_1]) ?_
    exact K1
  · show An MX5_keep 2 [some (vR 7 0 0), some (vI (nI 361))] [] s1 v9 m9
    refine an_b 3 (pc2 := if (361 : Int32) ≤ (nI 361) then 27 else 9) (L2 := [some (vR 7 0 0), some (vI (nI 361))]) (st2 := []) (m1 := s1) rfl ?_
    refine an_t (nI_le (a := 361) (b := 361) (by omega) (by omega)) ?_
    refine an_weak (L := [some (vR 7 0 0), none]) (⟨rfl, trivial⟩) ?_
    exact K1
  show An MX5_keep 27 [some (vR 7 0 0), none] [] (lp (b_X5_keep_1 m) 361 0 m) _ _
  exact an_ret rfl rfl rfl rfl rfl
def b_X5_layBack_1 (m : PM)   (j1 : Nat) (s1 : PM) : PM := (wI s1 8 0 0 j1 (s1.1 8 4 0 j1))
def w_X5_layBack (m : PM)  : PM := (lp (b_X5_layBack_1 m) 361 0 m)
set_option maxRecDepth 100000 in
theorem r_X5_layBack (m : PM)  : Rn MX5_layBack [vR 7 0 0] m none (w_X5_layBack m) := by
  refine rn_of [some (vR 7 0 0), none] rfl ?_
  unfold w_X5_layBack
  refine an_b 2 (pc2 := 2) (L2 := [some (vR 7 0 0), some (vI (0 : Int32))]) (st2 := []) (m1 := m) rfl ?_
  refine re_lp (σ := PM) (b_X5_layBack_1 m) (fun j1 s1 => (2, [some (vR 7 0 0), some (vI (nI j1))], [], s1)) 361 (fun s1 => (27, [some (vR 7 0 0), none], [], s1)) (fun j1 s1 hj1 v9 m9 K1 => ?_) (fun s1 v9 m9 K1 => ?_) 361 0 m (Nat.add_zero _) _ _ ?_
  · show An MX5_layBack 2 [some (vR 7 0 0), some (vI (nI j1))] [] s1 v9 m9
    refine an_b 3 (pc2 := if (361 : Int32) ≤ (nI j1) then 27 else 9) (L2 := [some (vR 7 0 0), some (vI (nI j1))]) (st2 := []) (m1 := s1) rfl ?_
    refine an_f (nI_ge (a := j1) (b := 361) (by omega) (by omega)) ?_
    refine an_b 6 (pc2 := 19) (L2 := [some (vR 7 0 0), some (vI (nI j1))]) (st2 := [vI (nI j1), vR 8 4 0, vI (nI j1), vR 8 0 0]) (m1 := s1) rfl ?_
    refine an_ald j1 361 rfl rfl (by simp only [ix_lit, pk_mul, nI_add]) (by omega) (by omega) ?_
    refine an_ast j1 361 rfl rfl (by decide) (by simp only [ix_lit, pk_mul, nI_add]) (by omega) (by omega) ?_
    refine an_b 2 (pc2 := 2) (L2 := [some (vR 7 0 0), some (vI ((nI j1) + (1 : Int32)))]) (st2 := []) (m1 := (wI s1 8 0 0 j1 (s1.1 8 4 0 j1))) rfl ?_
    refine an_cL (K := [some (vR 7 0 0), some (vI (nI (j1 + 1)))]) (by simp only [nI_1]) ?_
    exact K1
  · show An MX5_layBack 2 [some (vR 7 0 0), some (vI (nI 361))] [] s1 v9 m9
    refine an_b 3 (pc2 := if (361 : Int32) ≤ (nI 361) then 27 else 9) (L2 := [some (vR 7 0 0), some (vI (nI 361))]) (st2 := []) (m1 := s1) rfl ?_
    refine an_t (nI_le (a := 361) (b := 361) (by omega) (by omega)) ?_
    refine an_weak (L := [some (vR 7 0 0), none]) (⟨rfl, trivial⟩) ?_
    exact K1
  show An MX5_layBack 27 [some (vR 7 0 0), none] [] (lp (b_X5_layBack_1 m) 361 0 m) _ _
  exact an_ret rfl rfl rfl rfl rfl
def w_X5_mix (m : PM) (a1 : Int64) : PM := (wL m 7 0 0 11 (((31 : Int64) * (m.2 7 0 0 11)) + a1))
set_option maxRecDepth 100000 in
theorem r_X5_mix (m : PM) (a1 : Int64) : Rn MX5_mix [vR 7 0 0, vL a1] m none (w_X5_mix m a1) := by
  refine rn_of [some (vR 7 0 0), some (vL a1), none] rfl ?_
  unfold w_X5_mix
  refine an_b 8 (pc2 := 14) (L2 := [some (vR 7 0 0), some (vL a1), none]) (st2 := []) (m1 := (wL m 7 0 0 11 (((31 : Int64) * (m.2 7 0 0 11)) + a1))) rfl ?_
  exact an_ret rfl rfl rfl rfl rfl
