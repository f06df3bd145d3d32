def b_X5_takersNow_1 (m : PM) (a1 : Nat) (a2 : Nat)  (j1 : Nat) (s1 : Int32) : Int32 := (s1 ||| (if (v_X5_canHandOn m a1 a2 (nI j1)) = 0 then (0 : Int32) else ((1 : Int32) <<< ((nI j1) &&& (31 : Int32)))))
def v_X5_takersNow (m : PM) (a1 : Nat) (a2 : Nat) : Int32 := (lp (b_X5_takersNow_1 m a1 a2) 8 0 (0 : Int32))
