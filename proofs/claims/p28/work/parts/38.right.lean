/-! rightUpTo -/
def tex (m : PM) (i : Nat) : Int32 := m.1 8 2 0 i
