/-! handOn, append -/
def hoA (m : PM) (h r : Nat) : PM := w_X5_setLock m h r 0
def hoB (m : PM) (h r o : Nat) : PM := setz (hoA m h r) (grz (zz (hoA m h r)) r (plcN (hoA m h r) (nI o) r) (qn (hoA m h r) r) o)
def hoC (m : PM) (h r o : Nat) : PM := wI (hoB m h r o) 8 0 0 (113 + r) ((hoB m h r o).1 8 0 0 (113 + r) + 1)
