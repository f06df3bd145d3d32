/-! tick -/
def heatN (m : PM) (j : Nat) : Int32 := m.1 8 0 0 (101 + j) + (if v_X5_greatestOf m j ≤ 0 then -(m.1 8 0 0 2) else v_X5_greatestOf m j * m.1 8 0 0 1)
def b_X5_tick_1 (j : Nat) (s : PM) : PM := wI s 8 0 0 (101 + j) (if 0 ≤ heatN s j then (if heatN s j ≤ (1000 : Int32) then heatN s j else 1000) else 0)
def tickV (m : PM) (j : Nat) : Int32 := if m.1 8 0 0 (101 + j) ≤ m.1 8 0 0 0 then 0 else v_X5_burn m j
def tickW (m : PM) (j : Nat) : PM := if m.1 8 0 0 (101 + j) ≤ m.1 8 0 0 0 then m else w_X5_burn m j
def b_X5_tick_2 (j : Nat) (s : Int32 × PM) : Int32 × PM := (s.1 ||| (if tickV s.2 j ≤ 0 then 0 else (1 : Int32) <<< (nI j &&& (31 : Int32))), if tickV s.2 j ≤ 0 then tickW s.2 j else w_X5_settle (tickW s.2 j) j)
def tick_1 (m : PM) : PM := lp b_X5_tick_1 12 0 (wI m 8 0 0 3 (m.1 8 0 0 3 + 1))
def tick_2 (m : PM) : Int32 × PM := lp b_X5_tick_2 12 0 (0, tick_1 m)
def w_X5_tick (m : PM) : PM := (tick_2 m).2
