/-! canHandOn, loserFor -/
def v_X5_canHandOn (m : PM) (a1 a2 : Nat) (a3 : Int32) : Int32 := if v_X5_canRelease m a1 a2 = 0 then 0 else if nI a1 = a3 then 0 else if ¬ v_X5_placeIn m a3 a2 = (-1 : Int32) then (if ¬ (v_X5_clashing m a2 (v_X5_modeAt m a2 (plcN m a3 a2)) a3) &&& (((1 : Int32) <<< (nI a1 &&& (31 : Int32))) ^^^ (-1 : Int32)) = 0 then 0 else 1) else 0
/-- the ring's loser, hand by hand -/
def b_X5_loserFor_1 (m : PM) (a : Int32) (j : Nat) (s : Int32) : Int32 := if (v_X5_waitsOver m a >>> (nI j &&& (31 : Int32))) &&& (1 : Int32) = 1 then (if (v_X5_waitsOver m (nI j) >>> (a &&& (31 : Int32))) &&& (1 : Int32) = 1 then (if s = -1 then nI j else if v_X5_workOf m s.toNatClampNeg < v_X5_workOf m j then s else nI j) else s) else s
def v_X5_loserFor (m : PM) (a : Int32) : Int32 := lp (b_X5_loserFor_1 m a) 8 0 (-1)
theorem loserFor_i (m : PM) (a : Int32) (j : Nat) (s : Int32) (hj : j < 8) (hs : s = -1 ∨ ∃ h, h < 8 ∧ s = nI h) : b_X5_loserFor_1 m a j s = -1 ∨ ∃ h, h < 8 ∧ b_X5_loserFor_1 m a j s = nI h := by
  unfold b_X5_loserFor_1
  (repeat' split) <;> first | exact hs | exact Or.inr ⟨j, hj, rfl⟩
