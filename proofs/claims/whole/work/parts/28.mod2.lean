def b_X5_waitsOver_2 (m : PM) (a1 : Int32) (j1 : Nat) (s1 : Int32) (j2 : Nat) (s2 : Int32) : Int32 := (s2 ||| (if ¬ ((s2 >>> ((nI j2) &&& (31 : Int32))) &&& (1 : Int32)) = (1 : Int32) then (0 : Int32) else (v_X5_waitsNow m (nI j2))))
def b_X5_waitsOver_1 (m : PM) (a1 : Int32)  (j1 : Nat) (s1 : Int32) : Int32 := (lp (b_X5_waitsOver_2 m a1 j1 s1) 8 0 s1)
def v_X5_waitsOver (m : PM) (a1 : Int32) : Int32 := (lp (b_X5_waitsOver_1 m a1) 8 0 (v_X5_waitsNow m a1))
set_option maxRecDepth 100000 in
theorem r_X5_waitsOver (m : PM) (a1 : Int32) (hQ : QL m) : Rn MX5_waitsOver [vR 7 0 0, vI a1] m (some (vI (v_X5_waitsOver m a1))) m := by
  refine rn_of [some (vR 7 0 0), some (vI a1), none, none, none] rfl ?_
  unfold v_X5_waitsOver
  refine an_b 2 (pc2 := 2) (L2 := [some (vR 7 0 0), some (vI a1), none, none, none]) (st2 := [vI a1, vR 7 0 0]) (m1 := m) rfl ?_
  refine an_call (r_X5_waitsNow m a1 hQ) rfl rfl rfl rfl ?_
  refine an_b 3 (pc2 := 8) (L2 := [some (vR 7 0 0), some (vI a1), some (vI (v_X5_waitsNow m a1)), some (vI (0 : Int32)), none]) (st2 := []) (m1 := m) rfl ?_
  refine re_lp (σ := Int32) (b_X5_waitsOver_1 m a1) (fun j1 s1 => (8, [some (vR 7 0 0), some (vI a1), some (vI s1), some (vI (nI j1)), none], [], m)) 8 (fun s1 => (59, [some (vR 7 0 0), some (vI a1), some (vI s1), none, none], [], m)) (fun j1 s1 hj1 v9 m9 K1 => ?_) (fun s1 v9 m9 K1 => ?_) 8 0 (v_X5_waitsNow m a1) (Nat.add_zero _) _ _ ?_
  · show An MX5_waitsOver 8 [some (vR 7 0 0), some (vI a1), some (vI s1), some (vI (nI j1)), none] [] m v9 m9
    refine an_b 3 (pc2 := if (8 : Int32) ≤ (nI j1) then 59 else 14) (L2 := [some (vR 7 0 0), some (vI a1), some (vI s1), some (vI (nI j1)), none]) (st2 := []) (m1 := m) rfl ?_
    refine an_f (nI_ge (a := j1) (b := 8) (by omega) (by omega)) ?_
    refine an_b 2 (pc2 := 17) (L2 := [some (vR 7 0 0), some (vI a1), some (vI s1), some (vI (nI j1)), some (vI (0 : Int32))]) (st2 := []) (m1 := m) rfl ?_
    refine re_lp (σ := Int32) (b_X5_waitsOver_2 m a1 j1 s1) (fun j2 s2 => (17, [some (vR 7 0 0), some (vI a1), some (vI s2), some (vI (nI j1)), some (vI (nI j2))], [], m)) 8 (fun s2 => (53, [some (vR 7 0 0), some (vI a1), some (vI s2), some (vI (nI j1)), none], [], m)) (fun j2 s2 hj2 v9 m9 K2 => ?_) (fun s2 v9 m9 K2 => ?_) 8 0 s1 (Nat.add_zero _) _ _ ?_
    · show An MX5_waitsOver 17 [some (vR 7 0 0), some (vI a1), some (vI s2), some (vI (nI j1)), some (vI (nI j2))] [] m v9 m9
      refine an_b 3 (pc2 := if (8 : Int32) ≤ (nI j2) then 53 else 24) (L2 := [some (vR 7 0 0), some (vI a1), some (vI s2), some (vI (nI j1)), some (vI (nI j2))]) (st2 := []) (m1 := m) rfl ?_
      refine an_f (nI_ge (a := j2) (b := 8) (by omega) (by omega)) ?_
      refine an_b 8 (pc2 := if ¬ ((s2 >>> ((nI j2) &&& (31 : Int32))) &&& (1 : Int32)) = (1 : Int32) then 44 else 35) (L2 := [some (vR 7 0 0), some (vI a1), some (vI s2), some (vI (nI j1)), some (vI (nI j2))]) (st2 := [vI s2]) (m1 := m) rfl ?_
      refine re_if1 (c := ¬ ((s2 >>> ((nI j2) &&& (31 : Int32))) &&& (1 : Int32)) = (1 : Int32)) (a := (0 : Int32)) (b := (v_X5_waitsNow m (nI j2))) (fun x => (45, [some (vR 7 0 0), some (vI a1), some (vI s2), some (vI (nI j1)), some (vI (nI j2))], [vI x, vI s2], m)) (fun h1 v9 m9 K2 => ?_) (fun h1 v9 m9 K2 => ?_) _ _ ?_
      · refine an_b 1 (pc2 := 45) (L2 := [some (vR 7 0 0), some (vI a1), some (vI s2), some (vI (nI j1)), some (vI (nI j2))]) (st2 := [vI (0 : Int32), vI s2]) (m1 := m) rfl ?_
        exact K2
      · refine an_b 2 (pc2 := 38) (L2 := [some (vR 7 0 0), some (vI a1), some (vI s2), some (vI (nI j1)), some (vI (nI j2))]) (st2 := [vI (nI j2), vR 7 0 0, vI s2]) (m1 := m) rfl ?_
        refine an_call (r_X5_waitsNow m (nI j2) hQ) rfl rfl rfl rfl ?_
        refine an_b 1 (pc2 := 45) (L2 := [some (vR 7 0 0), some (vI a1), some (vI s2), some (vI (nI j1)), some (vI (nI j2))]) (st2 := [vI (v_X5_waitsNow m (nI j2)), vI s2]) (m1 := m) rfl ?_
        exact K2
      refine an_b 4 (pc2 := 17) (L2 := [some (vR 7 0 0), some (vI a1), some (vI (s2 ||| (if ¬ ((s2 >>> ((nI j2) &&& (31 : Int32))) &&& (1 : Int32)) = (1 : Int32) then (0 : Int32) else (v_X5_waitsNow m (nI j2))))), some (vI (nI j1)), some (vI ((nI j2) + (1 : Int32)))]) (st2 := []) (m1 := m) rfl ?_
      refine an_cL (K := [some (vR 7 0 0), some (vI a1), some (vI (s2 ||| (if ¬ ((s2 >>> ((nI j2) &&& (31 : Int32))) &&& (1 : Int32)) = (1 : Int32) then (0 : Int32) else (v_X5_waitsNow m (nI j2))))), some (vI (nI j1)), some (vI (nI (j2 + 1)))]) (by simp only [nI_1]) ?_
      exact K2
    · show An MX5_waitsOver 17 [some (vR 7 0 0), some (vI a1), some (vI s2), some (vI (nI j1)), some (vI (nI 8))] [] m v9 m9
      refine an_b 3 (pc2 := if (8 : Int32) ≤ (nI 8) then 53 else 24) (L2 := [some (vR 7 0 0), some (vI a1), some (vI s2), some (vI (nI j1)), some (vI (nI 8))]) (st2 := []) (m1 := m) rfl ?_
      refine an_t (nI_le (a := 8) (b := 8) (by omega) (by omega)) ?_
      refine an_weak (L := [some (vR 7 0 0), some (vI a1), some (vI s2), some (vI (nI j1)), none]) (⟨rfl, rfl, rfl, rfl, trivial⟩) ?_
      exact K2
    show An MX5_waitsOver 53 [some (vR 7 0 0), some (vI a1), some (vI (lp (b_X5_waitsOver_2 m a1 j1 s1) 8 0 s1)), some (vI (nI j1)), none] [] m _ _
    refine an_b 2 (pc2 := 8) (L2 := [some (vR 7 0 0), some (vI a1), some (vI (lp (b_X5_waitsOver_2 m a1 j1 s1) 8 0 s1)), some (vI ((nI j1) + (1 : Int32))), none]) (st2 := []) (m1 := m) rfl ?_
    refine an_cL (K := [some (vR 7 0 0), some (vI a1), some (vI (lp (b_X5_waitsOver_2 m a1 j1 s1) 8 0 s1)), some (vI (nI (j1 + 1))), none]) (by simp only [nI_1]) ?_
    exact K1
  · show An MX5_waitsOver 8 [some (vR 7 0 0), some (vI a1), some (vI s1), some (vI (nI 8)), none] [] m v9 m9
    refine an_b 3 (pc2 := if (8 : Int32) ≤ (nI 8) then 59 else 14) (L2 := [some (vR 7 0 0), some (vI a1), some (vI s1), some (vI (nI 8)), none]) (st2 := []) (m1 := m) rfl ?_
    refine an_t (nI_le (a := 8) (b := 8) (by omega) (by omega)) ?_
    refine an_weak (L := [some (vR 7 0 0), some (vI a1), some (vI s1), none, none]) (⟨rfl, rfl, rfl, trivial⟩) ?_
    exact K1
  show An MX5_waitsOver 59 [some (vR 7 0 0), some (vI a1), some (vI (lp (b_X5_waitsOver_1 m a1) 8 0 (v_X5_waitsNow m a1))), none, none] [] m _ _
  refine an_b 1 (pc2 := 60) (L2 := [some (vR 7 0 0), some (vI a1), some (vI (lp (b_X5_waitsOver_1 m a1) 8 0 (v_X5_waitsNow m a1))), none, none]) (st2 := [vI (lp (b_X5_waitsOver_1 m a1) 8 0 (v_X5_waitsNow m a1))]) (m1 := m) rfl ?_
  exact an_ret rfl rfl rfl rfl rfl
def v_X5_isInRing (m : PM) (a1 : Int32) : Int32 := (if ¬ (((v_X5_waitsOver m a1) >>> (a1 &&& (31 : Int32))) &&& (1 : Int32)) = (1 : Int32) then (0 : Int32) else (1 : Int32))
theorem z_X5_isInRing (m : PM) (a1 : Int32) : (v_X5_isInRing m a1) = 0 ∨ (v_X5_isInRing m a1) = 1 := by
  unfold v_X5_isInRing
  (repeat' split) <;> first | exact Or.inl rfl | exact Or.inr rfl
set_option maxRecDepth 100000 in
theorem r_X5_isInRing (m : PM) (a1 : Int32) (hQ : QL m) : Rn MX5_isInRing [vR 7 0 0, vI a1] m (some (vI (v_X5_isInRing m a1))) m := by
  refine rn_of [some (vR 7 0 0), some (vI a1)] rfl ?_
  unfold v_X5_isInRing
  refine an_b 2 (pc2 := 2) (L2 := [some (vR 7 0 0), some (vI a1)]) (st2 := [vI a1, vR 7 0 0]) (m1 := m) rfl ?_
  refine an_call (r_X5_waitsOver m a1 hQ) rfl rfl rfl rfl ?_
  refine an_b 6 (pc2 := if ¬ (((v_X5_waitsOver m a1) >>> (a1 &&& (31 : Int32))) &&& (1 : Int32)) = (1 : Int32) then 17 else 13) (L2 := [some (vR 7 0 0), some (vI a1)]) (st2 := []) (m1 := m) rfl ?_
  refine an_ifi (c := ¬ (((v_X5_waitsOver m a1) >>> (a1 &&& (31 : Int32))) &&& (1 : Int32)) = (1 : Int32)) (fun h1 => ?_) (fun h1 => ?_)
  · refine an_b 1 (pc2 := 18) (L2 := [some (vR 7 0 0), some (vI a1)]) (st2 := [vI (0 : Int32)]) (m1 := m) rfl ?_
    exact an_ret rfl rfl rfl rfl rfl
  · refine an_b 2 (pc2 := 18) (L2 := [some (vR 7 0 0), some (vI a1)]) (st2 := [vI (1 : Int32)]) (m1 := m) rfl ?_
    exact an_ret rfl rfl rfl rfl rfl
def v_X5_canRelease (m : PM) (a1 : Nat) (a2 : Nat) : Int32 := (if (v_X5_lockOf m a1 a2) ≤ 0 then (0 : Int32) else (if (v_X5_rowOf m (nI a1)) = (nI a2) then (0 : Int32) else (1 : Int32)))
theorem z_X5_canRelease (m : PM) (a1 : Nat) (a2 : Nat) : (v_X5_canRelease m a1 a2) = 0 ∨ (v_X5_canRelease m a1 a2) = 1 := by
  unfold v_X5_canRelease
  (repeat' split) <;> first | exact Or.inl rfl | exact Or.inr rfl
set_option maxRecDepth 100000 in
theorem r_X5_canRelease (m : PM) (a1 : Nat) (a2 : Nat) (ha1 : a1 < 8) (ha2 : a2 < 12) (hQ : QL m) : Rn MX5_canRelease [vR 7 0 0, vI (nI a1), vI (nI a2)] m (some (vI (v_X5_canRelease m a1 a2))) m := by
  refine rn_of [some (vR 7 0 0), some (vI (nI a1)), some (vI (nI a2))] rfl ?_
  unfold v_X5_canRelease
  refine an_b 3 (pc2 := 3) (L2 := [some (vR 7 0 0), some (vI (nI a1)), some (vI (nI a2))]) (st2 := [vI (nI a2), vI (nI a1), vR 7 0 0]) (m1 := m) rfl ?_
  refine an_call (r_X5_lockOf m a1 a2 (by omega) (by omega)) rfl rfl rfl rfl ?_
  refine an_b 1 (pc2 := if (v_X5_lockOf m a1 a2) ≤ 0 then 22 else 9) (L2 := [some (vR 7 0 0), some (vI (nI a1)), some (vI (nI a2))]) (st2 := []) (m1 := m) rfl ?_
  refine an_ifi (c := (v_X5_lockOf m a1 a2) ≤ 0) (fun h1 => ?_) (fun h1 => ?_)
  · refine an_b 1 (pc2 := 23) (L2 := [some (vR 7 0 0), some (vI (nI a1)), some (vI (nI a2))]) (st2 := [vI (0 : Int32)]) (m1 := m) rfl ?_
    exact an_ret rfl rfl rfl rfl rfl
  · refine an_b 2 (pc2 := 11) (L2 := [some (vR 7 0 0), some (vI (nI a1)), some (vI (nI a2))]) (st2 := [vI (nI a1), vR 7 0 0]) (m1 := m) rfl ?_
    refine an_call (r_X5_rowOf m (nI a1) hQ) rfl rfl rfl rfl ?_
    refine an_b 2 (pc2 := if (v_X5_rowOf m (nI a1)) = (nI a2) then 22 else 18) (L2 := [some (vR 7 0 0), some (vI (nI a1)), some (vI (nI a2))]) (st2 := []) (m1 := m) rfl ?_
    refine an_ifi (c := (v_X5_rowOf m (nI a1)) = (nI a2)) (fun h2 => ?_) (fun h2 => ?_)
    · refine an_b 1 (pc2 := 23) (L2 := [some (vR 7 0 0), some (vI (nI a1)), some (vI (nI a2))]) (st2 := [vI (0 : Int32)]) (m1 := m) rfl ?_
      exact an_ret rfl rfl rfl rfl rfl
    · refine an_b 2 (pc2 := 23) (L2 := [some (vR 7 0 0), some (vI (nI a1)), some (vI (nI a2))]) (st2 := [vI (1 : Int32)]) (m1 := m) rfl ?_
      exact an_ret rfl rfl rfl rfl rfl
def b_X5_busiestNow_2 (m : PM)  (j1 : Nat) (s1 : (Int32 × Int32)) (j2 : Nat) (s2 : Int32) : Int32 := (s2 + (((v_X5_waitsOver m (nI j2)) >>> ((nI j1) &&& (31 : Int32))) &&& (1 : Int32)))
def b_X5_busiestNow_1 (m : PM)   (j1 : Nat) (s1 : Int32 × Int32) : Int32 × Int32 := ((if (if ¬ (v_X5_waits m (nI j1)) = 0 then (0 : Int32) else (if (lp (b_X5_busiestNow_2 m j1 s1) 8 0 (0 : Int32)) ≤ s1.2 then (0 : Int32) else (1 : Int32))) = 0 then s1.1 else (nI j1)), (if (if ¬ (v_X5_waits m (nI j1)) = 0 then (0 : Int32) else (if (lp (b_X5_busiestNow_2 m j1 s1) 8 0 (0 : Int32)) ≤ s1.2 then (0 : Int32) else (1 : Int32))) = 0 then s1.2 else (lp (b_X5_busiestNow_2 m j1 s1) 8 0 (0 : Int32))))
def v_X5_busiestNow (m : PM)  : Int32 := (lp (b_X5_busiestNow_1 m) 8 0 ((-1 : Int32), (0 : Int32))).1
set_option maxRecDepth 100000 in
theorem r_X5_busiestNow (m : PM)  (hQ : QL m) : Rn MX5_busiestNow [vR 7 0 0] m (some (vI (v_X5_busiestNow m))) m := by
  refine rn_of [some (vR 7 0 0), none, none, none, none, none] rfl ?_
  unfold v_X5_busiestNow
  refine an_b 6 (pc2 := 6) (L2 := [some (vR 7 0 0), some (vI (-1 : Int32)), some (vI (0 : Int32)), some (vI (0 : Int32)), none, none]) (st2 := []) (m1 := m) rfl ?_
  refine re_lp (σ := Int32 × Int32) (b_X5_busiestNow_1 m) (fun j1 s1 => (6, [some (vR 7 0 0), some (vI s1.1), some (vI s1.2), some (vI (nI j1)), none, none], [], m)) 8 (fun s1 => (96, [some (vR 7 0 0), some (vI s1.1), none, none, none, none], [], m)) (fun j1 s1 hj1 v9 m9 K1 => ?_) (fun s1 v9 m9 K1 => ?_) 8 0 ((-1 : Int32), (0 : Int32)) (Nat.add_zero _) _ _ ?_
  · show An MX5_busiestNow 6 [some (vR 7 0 0), some (vI s1.1), some (vI s1.2), some (vI (nI j1)), none, none] [] m v9 m9
    refine an_b 3 (pc2 := if (8 : Int32) ≤ (nI j1) then 96 else 12) (L2 := [some (vR 7 0 0), some (vI s1.1), some (vI s1.2), some (vI (nI j1)), none, none]) (st2 := []) (m1 := m) rfl ?_
    refine an_f (nI_ge (a := j1) (b := 8) (by omega) (by omega)) ?_
    refine an_b 4 (pc2 := 18) (L2 := [some (vR 7 0 0), some (vI s1.1), some (vI s1.2), some (vI (nI j1)), some (vI (0 : Int32)), some (vI (0 : Int32))]) (st2 := []) (m1 := m) rfl ?_
    refine re_lp (σ := Int32) (b_X5_busiestNow_2 m j1 s1) (fun j2 s2 => (18, [some (vR 7 0 0), some (vI s1.1), some (vI s1.2), some (vI (nI j1)), some (vI s2), some (vI (nI j2))], [], m)) 8 (fun s2 => (46, [some (vR 7 0 0), some (vI s1.1), some (vI s1.2), some (vI (nI j1)), some (vI s2), none], [], m)) (fun j2 s2 hj2 v9 m9 K2 => ?_) (fun s2 v9 m9 K2 => ?_) 8 0 (0 : Int32) (Nat.add_zero _) _ _ ?_
    · show An MX5_busiestNow 18 [some (vR 7 0 0), some (vI s1.1), some (vI s1.2), some (vI (nI j1)), some (vI s2), some (vI (nI j2))] [] m v9 m9
      refine an_b 3 (pc2 := if (8 : Int32) ≤ (nI j2) then 46 else 25) (L2 := [some (vR 7 0 0), some (vI s1.1), some (vI s1.2), some (vI (nI j1)), some (vI s2), some (vI (nI j2))]) (st2 := []) (m1 := m) rfl ?_
      refine an_f (nI_ge (a := j2) (b := 8) (by omega) (by omega)) ?_
      refine an_b 3 (pc2 := 30) (L2 := [some (vR 7 0 0), some (vI s1.1), some (vI s1.2), some (vI (nI j1)), some (vI s2), some (vI (nI j2))]) (st2 := [vI (nI j2), vR 7 0 0, vI s2]) (m1 := m) rfl ?_
      refine an_call (r_X5_waitsOver m (nI j2) hQ) rfl rfl rfl rfl ?_
      refine an_b 8 (pc2 := 18) (L2 := [some (vR 7 0 0), some (vI s1.1), some (vI s1.2), some (vI (nI j1)), some (vI (s2 + (((v_X5_waitsOver m (nI j2)) >>> ((nI j1) &&& (31 : Int32))) &&& (1 : Int32)))), some (vI ((nI j2) + (1 : Int32)))]) (st2 := []) (m1 := m) rfl ?_
      refine an_cL (K := [some (vR 7 0 0), some (vI s1.1), some (vI s1.2), some (vI (nI j1)), some (vI (s2 + (((v_X5_waitsOver m (nI j2)) >>> ((nI j1) &&& (31 : Int32))) &&& (1 : Int32)))), some (vI (nI (j2 + 1)))]) (by simp only [nI_1]) ?_
      exact K2
    · show An MX5_busiestNow 18 [some (vR 7 0 0), some (vI s1.1), some (vI s1.2), some (vI (nI j1)), some (vI s2), some (vI (nI 8))] [] m v9 m9
      refine an_b 3 (pc2 := if (8 : Int32) ≤ (nI 8) then 46 else 25) (L2 := [some (vR 7 0 0), some (vI s1.1), some (vI s1.2), some (vI (nI j1)), some (vI s2), some (vI (nI 8))]) (st2 := []) (m1 := m) rfl ?_
      refine an_t (nI_le (a := 8) (b := 8) (by omega) (by omega)) ?_
      refine an_weak (L := [some (vR 7 0 0), some (vI s1.1), some (vI s1.2), some (vI (nI j1)), some (vI s2), none]) (⟨rfl, rfl, rfl, rfl, rfl, trivial⟩) ?_
      exact K2
    show An MX5_busiestNow 46 [some (vR 7 0 0), some (vI s1.1), some (vI s1.2), some (vI (nI j1)), some (vI (lp (b_X5_busiestNow_2 m j1 s1) 8 0 (0 : Int32))), none] [] m _ _
    refine an_b 2 (pc2 := 48) (L2 := [some (vR 7 0 0), some (vI s1.1), some (vI s1.2), some (vI (nI j1)), some (vI (lp (b_X5_busiestNow_2 m j1 s1) 8 0 (0 : Int32))), none]) (st2 := [vI (nI j1), vR 7 0 0]) (m1 := m) rfl ?_
    refine an_call (r_X5_waits m (nI j1) hQ) rfl rfl rfl rfl ?_
    refine an_b 1 (pc2 := if ¬ (v_X5_waits m (nI j1)) = 0 then 64 else 54) (L2 := [some (vR 7 0 0), some (vI s1.1), some (vI s1.2), some (vI (nI j1)), some (vI (lp (b_X5_busiestNow_2 m j1 s1) 8 0 (0 : Int32))), none]) (st2 := []) (m1 := m) rfl ?_
    refine re_if1 (c := ¬ (v_X5_waits m (nI j1)) = 0) (a := (0 : Int32)) (b := (if (lp (b_X5_busiestNow_2 m j1 s1) 8 0 (0 : Int32)) ≤ s1.2 then (0 : Int32) else (1 : Int32))) (fun x => (65, [some (vR 7 0 0), some (vI s1.1), some (vI s1.2), some (vI (nI j1)), some (vI (lp (b_X5_busiestNow_2 m j1 s1) 8 0 (0 : Int32))), none], [vI x], m)) (fun h1 v9 m9 K4 => ?_) (fun h1 v9 m9 K4 => ?_) _ _ ?_
    · refine an_b 1 (pc2 := 65) (L2 := [some (vR 7 0 0), some (vI s1.1), some (vI s1.2), some (vI (nI j1)), some (vI (lp (b_X5_busiestNow_2 m j1 s1) 8 0 (0 : Int32))), none]) (st2 := [vI (0 : Int32)]) (m1 := m) rfl ?_
      exact K4
    · refine an_b 3 (pc2 := if (lp (b_X5_busiestNow_2 m j1 s1) 8 0 (0 : Int32)) ≤ s1.2 then 64 else 60) (L2 := [some (vR 7 0 0), some (vI s1.1), some (vI s1.2), some (vI (nI j1)), some (vI (lp (b_X5_busiestNow_2 m j1 s1) 8 0 (0 : Int32))), none]) (st2 := []) (m1 := m) rfl ?_
      refine re_if1 (c := (lp (b_X5_busiestNow_2 m j1 s1) 8 0 (0 : Int32)) ≤ s1.2) (a := (0 : Int32)) (b := (1 : Int32)) (fun x => (65, [some (vR 7 0 0), some (vI s1.1), some (vI s1.2), some (vI (nI j1)), some (vI (lp (b_X5_busiestNow_2 m j1 s1) 8 0 (0 : Int32))), none], [vI x], m)) (fun h2 v9 m9 K3 => ?_) (fun h2 v9 m9 K3 => ?_) _ _ ?_
      · refine an_b 1 (pc2 := 65) (L2 := [some (vR 7 0 0), some (vI s1.1), some (vI s1.2), some (vI (nI j1)), some (vI (lp (b_X5_busiestNow_2 m j1 s1) 8 0 (0 : Int32))), none]) (st2 := [vI (0 : Int32)]) (m1 := m) rfl ?_
        exact K3
      · refine an_b 2 (pc2 := 65) (L2 := [some (vR 7 0 0), some (vI s1.1), some (vI s1.2), some (vI (nI j1)), some (vI (lp (b_X5_busiestNow_2 m j1 s1) 8 0 (0 : Int32))), none]) (st2 := [vI (1 : Int32)]) (m1 := m) rfl ?_
        exact K3
      exact K4
    refine an_b 3 (pc2 := if (if ¬ (v_X5_waits m (nI j1)) = 0 then (0 : Int32) else (if (lp (b_X5_busiestNow_2 m j1 s1) 8 0 (0 : Int32)) ≤ s1.2 then (0 : Int32) else (1 : Int32))) = 0 then 76 else 72) (L2 := [some (vR 7 0 0), some (vI s1.1), some (vI s1.2), some (vI (nI j1)), some (vI (lp (b_X5_busiestNow_2 m j1 s1) 8 0 (0 : Int32))), some (vI (if ¬ (v_X5_waits m (nI j1)) = 0 then (0 : Int32) else (if (lp (b_X5_busiestNow_2 m j1 s1) 8 0 (0 : Int32)) ≤ s1.2 then (0 : Int32) else (1 : Int32))))]) (st2 := []) (m1 := m) rfl ?_
    refine re_if1 (c := (if ¬ (v_X5_waits m (nI j1)) = 0 then (0 : Int32) else (if (lp (b_X5_busiestNow_2 m j1 s1) 8 0 (0 : Int32)) ≤ s1.2 then (0 : Int32) else (1 : Int32))) = 0) (a := s1.1) (b := (nI j1)) (fun x => (77, [some (vR 7 0 0), some (vI s1.1), some (vI s1.2), some (vI (nI j1)), some (vI (lp (b_X5_busiestNow_2 m j1 s1) 8 0 (0 : Int32))), some (vI (if ¬ (v_X5_waits m (nI j1)) = 0 then (0 : Int32) else (if (lp (b_X5_busiestNow_2 m j1 s1) 8 0 (0 : Int32)) ≤ s1.2 then (0 : Int32) else (1 : Int32))))], [vI x], m)) (fun h5 v9 m9 K6 => ?_) (fun h5 v9 m9 K6 => ?_) _ _ ?_
    · refine an_b 1 (pc2 := 77) (L2 := [some (vR 7 0 0), some (vI s1.1), some (vI s1.2), some (vI (nI j1)), some (vI (lp (b_X5_busiestNow_2 m j1 s1) 8 0 (0 : Int32))), some (vI (if ¬ (v_X5_waits m (nI j1)) = 0 then (0 : Int32) else (if (lp (b_X5_busiestNow_2 m j1 s1) 8 0 (0 : Int32)) ≤ s1.2 then (0 : Int32) else (1 : Int32))))]) (st2 := [vI s1.1]) (m1 := m) rfl ?_
      exact K6
    · refine an_b 2 (pc2 := 77) (L2 := [some (vR 7 0 0), some (vI s1.1), some (vI s1.2), some (vI (nI j1)), some (vI (lp (b_X5_busiestNow_2 m j1 s1) 8 0 (0 : Int32))), some (vI (if ¬ (v_X5_waits m (nI j1)) = 0 then (0 : Int32) else (if (lp (b_X5_busiestNow_2 m j1 s1) 8 0 (0 : Int32)) ≤ s1.2 then (0 : Int32) else (1 : Int32))))]) (st2 := [vI (nI j1)]) (m1 := m) rfl ?_
      exact K6
    refine an_b 3 (pc2 := if (if ¬ (v_X5_waits m (nI j1)) = 0 then (0 : Int32) else (if (lp (b_X5_busiestNow_2 m j1 s1) 8 0 (0 : Int32)) ≤ s1.2 then (0 : Int32) else (1 : Int32))) = 0 then 88 else 83) (L2 := [some (vR 7 0 0), some (vI (if (if ¬ (v_X5_waits m (nI j1)) = 0 then (0 : Int32) else (if (lp (b_X5_busiestNow_2 m j1 s1) 8 0 (0 : Int32)) ≤ s1.2 then (0 : Int32) else (1 : Int32))) = 0 then s1.1 else (nI j1))), some (vI s1.2), some (vI (nI j1)), some (vI (lp (b_X5_busiestNow_2 m j1 s1) 8 0 (0 : Int32))), some (vI (if ¬ (v_X5_waits m (nI j1)) = 0 then (0 : Int32) else (if (lp (b_X5_busiestNow_2 m j1 s1) 8 0 (0 : Int32)) ≤ s1.2 then (0 : Int32) else (1 : Int32))))]) (st2 := []) (m1 := m) rfl ?_
    refine re_if1 (c := (if ¬ (v_X5_waits m (nI j1)) = 0 then (0 : Int32) else (if (lp (b_X5_busiestNow_2 m j1 s1) 8 0 (0 : Int32)) ≤ s1.2 then (0 : Int32) else (1 : Int32))) = 0) (a := s1.2) (b := (lp (b_X5_busiestNow_2 m j1 s1) 8 0 (0 : Int32))) (fun x => (89, [some (vR 7 0 0), some (vI (if (if ¬ (v_X5_waits m (nI j1)) = 0 then (0 : Int32) else (if (lp (b_X5_busiestNow_2 m j1 s1) 8 0 (0 : Int32)) ≤ s1.2 then (0 : Int32) else (1 : Int32))) = 0 then s1.1 else (nI j1))), some (vI s1.2), some (vI (nI j1)), some (vI (lp (b_X5_busiestNow_2 m j1 s1) 8 0 (0 : Int32))), some (vI (if ¬ (v_X5_waits m (nI j1)) = 0 then (0 : Int32) else (if (lp (b_X5_busiestNow_2 m j1 s1) 8 0 (0 : Int32)) ≤ s1.2 then (0 : Int32) else (1 : Int32))))], [vI x], m)) (fun h7 v9 m9 K8 => ?_) (fun h7 v9 m9 K8 => ?_) _ _ ?_
    · refine an_b 1 (pc2 := 89) (L2 := [some (vR 7 0 0), some (vI (if (if ¬ (v_X5_waits m (nI j1)) = 0 then (0 : Int32) else (if (lp (b_X5_busiestNow_2 m j1 s1) 8 0 (0 : Int32)) ≤ s1.2 then (0 : Int32) else (1 : Int32))) = 0 then s1.1 else (nI j1))), some (vI s1.2), some (vI (nI j1)), some (vI (lp (b_X5_busiestNow_2 m j1 s1) 8 0 (0 : Int32))), some (vI (if ¬ (v_X5_waits m (nI j1)) = 0 then (0 : Int32) else (if (lp (b_X5_busiestNow_2 m j1 s1) 8 0 (0 : Int32)) ≤ s1.2 then (0 : Int32) else (1 : Int32))))]) (st2 := [vI s1.2]) (m1 := m) rfl ?_
      exact K8
    · refine an_b 2 (pc2 := 89) (L2 := [some (vR 7 0 0), some (vI (if (if ¬ (v_X5_waits m (nI j1)) = 0 then (0 : Int32) else (if (lp (b_X5_busiestNow_2 m j1 s1) 8 0 (0 : Int32)) ≤ s1.2 then (0 : Int32) else (1 : Int32))) = 0 then s1.1 else (nI j1))), some (vI s1.2), some (vI (nI j1)), some (vI (lp (b_X5_busiestNow_2 m j1 s1) 8 0 (0 : Int32))), some (vI (if ¬ (v_X5_waits m (nI j1)) = 0 then (0 : Int32) else (if (lp (b_X5_busiestNow_2 m j1 s1) 8 0 (0 : Int32)) ≤ s1.2 then (0 : Int32) else (1 : Int32))))]) (st2 := [vI (lp (b_X5_busiestNow_2 m j1 s1) 8 0 (0 : Int32))]) (m1 := m) rfl ?_
      exact K8
    refine an_b 3 (pc2 := 6) (L2 := [some (vR 7 0 0), some (vI (if (if ¬ (v_X5_waits m (nI j1)) = 0 then (0 : Int32) else (if (lp (b_X5_busiestNow_2 m j1 s1) 8 0 (0 : Int32)) ≤ s1.2 then (0 : Int32) else (1 : Int32))) = 0 then s1.1 else (nI j1))), some (vI (if (if ¬ (v_X5_waits m (nI j1)) = 0 then (0 : Int32) else (if (lp (b_X5_busiestNow_2 m j1 s1) 8 0 (0 : Int32)) ≤ s1.2 then (0 : Int32) else (1 : Int32))) = 0 then s1.2 else (lp (b_X5_busiestNow_2 m j1 s1) 8 0 (0 : Int32)))), some (vI ((nI j1) + (1 : Int32))), some (vI (lp (b_X5_busiestNow_2 m j1 s1) 8 0 (0 : Int32))), some (vI (if ¬ (v_X5_waits m (nI j1)) = 0 then (0 : Int32) else (if (lp (b_X5_busiestNow_2 m j1 s1) 8 0 (0 : Int32)) ≤ s1.2 then (0 : Int32) else (1 : Int32))))]) (st2 := []) (m1 := m) rfl ?_
    refine an_weak (L := [some (vR 7 0 0), some (vI (if (if ¬ (v_X5_waits m (nI j1)) = 0 then (0 : Int32) else (if (lp (b_X5_busiestNow_2 m j1 s1) 8 0 (0 : Int32)) ≤ s1.2 then (0 : Int32) else (1 : Int32))) = 0 then s1.1 else (nI j1))), some (vI (if (if ¬ (v_X5_waits m (nI j1)) = 0 then (0 : Int32) else (if (lp (b_X5_busiestNow_2 m j1 s1) 8 0 (0 : Int32)) ≤ s1.2 then (0 : Int32) else (1 : Int32))) = 0 then s1.2 else (lp (b_X5_busiestNow_2 m j1 s1) 8 0 (0 : Int32)))), some (vI ((nI j1) + (1 : Int32))), none, none]) (⟨rfl, rfl, rfl, rfl, trivial⟩) ?_
    refine an_cL (K := [some (vR 7 0 0), some (vI (if (if ¬ (v_X5_waits m (nI j1)) = 0 then (0 : Int32) else (if (lp (b_X5_busiestNow_2 m j1 s1) 8 0 (0 : Int32)) ≤ s1.2 then (0 : Int32) else (1 : Int32))) = 0 then s1.1 else (nI j1))), some (vI (if (if ¬ (v_X5_waits m (nI j1)) = 0 then (0 : Int32) else (if (lp (b_X5_busiestNow_2 m j1 s1) 8 0 (0 : Int32)) ≤ s1.2 then (0 : Int32) else (1 : Int32))) = 0 then s1.2 else (lp (b_X5_busiestNow_2 m j1 s1) 8 0 (0 : Int32)))), some (vI (nI (j1 + 1))), none, none]) (by simp only [nI_1]) ?_
    exact K1
  · show An MX5_busiestNow 6 [some (vR 7 0 0), some (vI s1.1), some (vI s1.2), some (vI (nI 8)), none, none] [] m v9 m9
    refine an_b 3 (pc2 := if (8 : Int32) ≤ (nI 8) then 96 else 12) (L2 := [some (vR 7 0 0), some (vI s1.1), some (vI s1.2), some (vI (nI 8)), none, none]) (st2 := []) (m1 := m) rfl ?_
    refine an_t (nI_le (a := 8) (b := 8) (by omega) (by omega)) ?_
    refine an_weak (L := [some (vR 7 0 0), some (vI s1.1), none, none, none, none]) (⟨rfl, rfl, trivial⟩) ?_
    exact K1
  show An MX5_busiestNow 96 [some (vR 7 0 0), some (vI ((lp (b_X5_busiestNow_1 m) 8 0 ((-1 : Int32), (0 : Int32))).1)), none, none, none, none] [] m _ _
  refine an_b 1 (pc2 := 97) (L2 := [some (vR 7 0 0), some (vI ((lp (b_X5_busiestNow_1 m) 8 0 ((-1 : Int32), (0 : Int32))).1)), none, none, none, none]) (st2 := [vI ((lp (b_X5_busiestNow_1 m) 8 0 ((-1 : Int32), (0 : Int32))).1)]) (m1 := m) rfl ?_
  exact an_ret rfl rfl rfl rfl rfl
