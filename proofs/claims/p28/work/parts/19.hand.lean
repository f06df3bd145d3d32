/-! the methods that touch arrays: by hand -/
theorem one_iald {M : MI} {pc : Nat} {L : List (Option PV)} {r : List PV} {m m2 : PM} {t k g : Nat} {j : Int32} {v : OC} (N : Nat) (h : asc (mT M) pc = some (.iaload, 1)) (hN : ilen m t k = some N) (hj : ¬ (j < 0 ∨ N ≤ j.toNatClampNeg)) (kk : An M (pc + 1) L (vI (m.1 t k g j.toNatClampNeg) :: r) m v m2) : An M pc L (vI j :: vR t k g :: r) m v m2 := by
  refine an_b 1 (pc2 := pc + 1) (L2 := L) (st2 := vI (m.1 t k g j.toNatClampNeg) :: r) (m1 := m) ?_ kk
  have e : sm_one M pc L (vI j :: vR t k g :: r) m = some (pc + 1, L, vI (m.1 t k g j.toNatClampNeg) :: r, m) := by
    unfold sm_one
    rw [h]
    have e2 : sm_e (mO M) .iaload 1 pc L (vI j :: vR t k g :: r) m = some (pc + 1, L, vI (m.1 t k g j.toNatClampNeg) :: r, m) := by
      unfold sm_e
      simp only [hN, if_neg hj]
    exact e2
  show (match sm_one M pc L (vI j :: vR t k g :: r) m with | some s2 => sm_many 0 M s2 | none => none) = _
  rw [e]
  rfl
theorem one_iast {M : MI} {pc : Nat} {L : List (Option PV)} {r : List PV} {m m2 : PM} {t k g : Nat} {j x : Int32} {v : OC} (N : Nat) (h : asc (mT M) pc = some (.iastore, 1)) (hN : ilen m t k = some N) (ht : ¬ t = 10) (hj : ¬ (j < 0 ∨ N ≤ j.toNatClampNeg)) (kk : An M (pc + 1) L r (wI m t k g j.toNatClampNeg x) v m2) : An M pc L (vI x :: vI j :: vR t k g :: r) m v m2 := by
  refine an_b 1 (pc2 := pc + 1) (L2 := L) (st2 := r) (m1 := wI m t k g j.toNatClampNeg x) ?_ kk
  have e : sm_one M pc L (vI x :: vI j :: vR t k g :: r) m = some (pc + 1, L, r, wI m t k g j.toNatClampNeg x) := by
    unfold sm_one
    rw [h]
    have e2 : sm_e (mO M) .iastore 1 pc L (vI x :: vI j :: vR t k g :: r) m = some (pc + 1, L, r, wI m t k g j.toNatClampNeg x) := by
      unfold sm_e
      simp only [hN, if_neg ht, if_neg hj]
    exact e2
  show (match sm_one M pc L (vI x :: vI j :: vR t k g :: r) m with | some s2 => sm_many 0 M s2 | none => none) = _
  rw [e]
  rfl
theorem nlen_lt (k : Nat) : nlen k < 2 ^ 31 := by unfold nlen; split <;> decide
theorem in_of {i : Int32} {k : Nat} (h1 : ¬ i < 0) (h2 : ¬ nI (nlen k) ≤ i) : ¬ (i < 0 ∨ nlen k ≤ i.toNatClampNeg) := by
  rintro (q | q)
  · exact h1 q
  · apply h2
    obtain ⟨j, hj, rfl⟩ := nI_of h1
    rw [nI_clamp hj] at q
    exact nI_le q hj
/-- Numbers.at -/
def v_X1_at (m : PM) (k g : Nat) (i : Int32) : Int32 := if i < 0 then 0 else if nI (nlen k) ≤ i then 0 else m.1 2 k g i.toNatClampNeg
theorem r_X1_at (m : PM) (k g : Nat) (i : Int32) : Rn MX1_at [vR 1 k g, vI i] m (some (vI (v_X1_at m k g i))) m := by
  refine rn_of [some (vR 1 k g), some (vI i)] rfl ?_
  unfold v_X1_at
  refine an_b 2 (pc2 := if i < 0 then 22 else 4) (L2 := [some (vR 1 k g), some (vI i)]) (st2 := []) (m1 := m) rfl ?_
  refine an_ifi (fun h => ?_) (fun h => ?_)
  · refine an_b 1 (pc2 := 23) (L2 := [some (vR 1 k g), some (vI i)]) (st2 := [vI 0]) (m1 := m) rfl ?_
    exact an_ret rfl rfl rfl rfl rfl
  · refine an_b 5 (pc2 := if nI (nlen k) ≤ i then 22 else 13) (L2 := [some (vR 1 k g), some (vI i)]) (st2 := []) (m1 := m) rfl ?_
    refine an_ifi (fun h2 => ?_) (fun h2 => ?_)
    · refine an_b 1 (pc2 := 23) (L2 := [some (vR 1 k g), some (vI i)]) (st2 := [vI 0]) (m1 := m) rfl ?_
      exact an_ret rfl rfl rfl rfl rfl
    · refine an_b 3 (pc2 := 18) (L2 := [some (vR 1 k g), some (vI i)]) (st2 := [vI i, vR 2 k g]) (m1 := m) rfl ?_
      refine one_iald (nlen k) rfl rfl (in_of h h2) ?_
      refine an_b 1 (pc2 := 23) (L2 := [some (vR 1 k g), some (vI i)]) (st2 := [vI (m.1 2 k g i.toNatClampNeg)]) (m1 := m) rfl ?_
      exact an_ret rfl rfl rfl rfl rfl
/-- Numbers.put -/
def w_X1_put (m : PM) (k g : Nat) (i x : Int32) : PM := if i < 0 then m else if nI (nlen k) ≤ i then m else wI m 2 k g i.toNatClampNeg x
theorem r_X1_put (m : PM) (k g : Nat) (i x : Int32) : Rn MX1_put [vR 1 k g, vI i, vI x] m none (w_X1_put m k g i x) := by
  refine rn_of [some (vR 1 k g), some (vI i), some (vI x)] rfl ?_
  unfold w_X1_put
  refine an_b 2 (pc2 := if i < 0 then 20 else 4) (L2 := [some (vR 1 k g), some (vI i), some (vI x)]) (st2 := []) (m1 := m) rfl ?_
  refine an_ifm (fun h => ?_) (fun h => ?_)
  · exact an_ret rfl rfl rfl rfl rfl
  · refine an_b 5 (pc2 := if nI (nlen k) ≤ i then 20 else 13) (L2 := [some (vR 1 k g), some (vI i), some (vI x)]) (st2 := []) (m1 := m) rfl ?_
    refine an_ifm (fun h2 => ?_) (fun h2 => ?_)
    · exact an_ret rfl rfl rfl rfl rfl
    · refine an_b 4 (pc2 := 19) (L2 := [some (vR 1 k g), some (vI i), some (vI x)]) (st2 := [vI x, vI i, vR 2 k g]) (m1 := m) rfl ?_
      refine one_iast (nlen k) rfl rfl (by decide) (in_of h h2) ?_
      exact an_ret rfl rfl rfl rfl rfl
/-- Numbers.sum -/
def v_X1_sum (m : PM) (k g : Nat) : Int32 := lp (fun j s => s + m.1 2 k g j) (nlen k) 0 0
theorem r_X1_sum (m : PM) (k g : Nat) : Rn MX1_sum [vR 1 k g] m (some (vI (v_X1_sum m k g))) m := by
  refine rn_of [some (vR 1 k g), none, none] rfl ?_
  unfold v_X1_sum
  refine an_b 4 (pc2 := 4) (L2 := [some (vR 1 k g), some (vI 0), some (vI (nI 0))]) (st2 := []) (m1 := m) rfl ?_
  refine re_lp (σ := Int32) (fun j s => s + m.1 2 k g j) (fun j s => (4, [some (vR 1 k g), some (vI s), some (vI (nI j))], [], m)) (nlen k) (fun s => (28, [some (vR 1 k g), some (vI s), none], [], m)) (fun j s hj v9 m9 K => ?_) (fun s v9 m9 K => ?_) (nlen k) 0 0 (Nat.add_zero _) _ _ ?_
  · show An MX1_sum 4 [some (vR 1 k g), some (vI s), some (vI (nI j))] [] m v9 m9
    refine an_b 5 (pc2 := if nI (nlen k) ≤ nI j then 28 else 13) (L2 := [some (vR 1 k g), some (vI s), some (vI (nI j))]) (st2 := []) (m1 := m) rfl ?_
    have hb := nlen_lt k
    refine an_f (nI_ge hj hb) ?_
    refine an_b 4 (pc2 := 19) (L2 := [some (vR 1 k g), some (vI s), some (vI (nI j))]) (st2 := [vI (nI j), vR 2 k g, vI s]) (m1 := m) rfl ?_
    refine one_iald (nlen k) rfl rfl (nI_in hj hb) ?_
    rw [nI_clamp (by omega)]
    refine an_b 4 (pc2 := 4) (L2 := [some (vR 1 k g), some (vI (s + m.1 2 k g j)), some (vI (nI j + 1))]) (st2 := []) (m1 := m) rfl ?_
    refine an_cL (K := [some (vR 1 k g), some (vI (s + m.1 2 k g j)), some (vI (nI (j + 1)))]) (by simp only [nI_1]) ?_
    exact K
  · show An MX1_sum 4 [some (vR 1 k g), some (vI s), some (vI (nI (nlen k)))] [] m v9 m9
    refine an_b 5 (pc2 := if nI (nlen k) ≤ nI (nlen k) then 28 else 13) (L2 := [some (vR 1 k g), some (vI s), some (vI (nI (nlen k)))]) (st2 := []) (m1 := m) rfl ?_
    refine an_t (nI_le (Nat.le_refl _) (nlen_lt k)) ?_
    refine an_weak (L := [some (vR 1 k g), some (vI s), none]) ⟨rfl, rfl, trivial⟩ ?_
    exact K
  show An MX1_sum 28 [some (vR 1 k g), some (vI (lp (fun j s => s + m.1 2 k g j) (nlen k) 0 0)), none] [] m _ _
  refine an_b 1 (pc2 := 29) (L2 := [some (vR 1 k g), some (vI (lp (fun j s => s + m.1 2 k g j) (nlen k) 0 0)), none]) (st2 := [vI (lp (fun j s => s + m.1 2 k g j) (nlen k) 0 0)]) (m1 := m) rfl ?_
  exact an_ret rfl rfl rfl rfl rfl
/-- Numbers.copyFrom -/
def w_X1_copyFrom (m : PM) (k g k1 g1 : Nat) : PM := if ¬ nI (nlen k1) = nI (nlen k) then m else wC m k1 g1 (nlen k1) k g
theorem r_X1_copyFrom (m : PM) (k g k1 g1 : Nat) : Rn MX1_copyFrom [vR 1 k g, vR 1 k1 g1] m none (w_X1_copyFrom m k g k1 g1) := by
  refine rn_of [some (vR 1 k g), some (vR 1 k1 g1)] rfl ?_
  unfold w_X1_copyFrom
  refine an_b 9 (pc2 := if ¬ nI (nlen k1) = nI (nlen k) then 35 else 17) (L2 := [some (vR 1 k g), some (vR 1 k1 g1)]) (st2 := []) (m1 := m) rfl ?_
  refine an_ifm (fun h => ?_) (fun h => ?_)
  · exact an_ret rfl rfl rfl rfl rfl
  · have h : nI (nlen k1) = nI (nlen k) := Decidable.not_not.mp h
    have h2 : nlen k1 = nlen k := (nI_eq (nlen_lt k1) (nlen_lt k)).mp h
    refine an_b 9 (pc2 := 32) (L2 := [some (vR 1 k g), some (vR 1 k1 g1)]) (st2 := [vI (nI (nlen k)), vI 0, vR 2 k g, vI 0, vR 2 k1 g1]) (m1 := m) rfl ?_
    refine an_b 1 (pc2 := 35) (L2 := [some (vR 1 k g), some (vR 1 k1 g1)]) (st2 := []) (m1 := wC m k1 g1 (nlen k1) k g) ?_ ?_
    · have e : sm_one MX1_copyFrom 32 [some (vR 1 k g), some (vR 1 k1 g1)] [vI (nI (nlen k)), vI 0, vR 2 k g, vI 0, vR 2 k1 g1] m = (if (0 : Int32) = 0 ∧ (0 : Int32) = 0 ∧ nI (nlen k) = nI (nlen k1) ∧ nlen k = nlen k1 then some (35, [some (vR 1 k g), some (vR 1 k1 g1)], [], wC m k1 g1 (nlen k1) k g) else none) := rfl
      show (match sm_one MX1_copyFrom 32 [some (vR 1 k g), some (vR 1 k1 g1)] [vI (nI (nlen k)), vI 0, vR 2 k g, vI 0, vR 2 k1 g1] m with | some s2 => sm_many 0 MX1_copyFrom s2 | none => none) = _
      rw [e, if_pos ⟨rfl, rfl, h.symm, h2.symm⟩]
      rfl
    · exact an_ret rfl rfl rfl rfl rfl
