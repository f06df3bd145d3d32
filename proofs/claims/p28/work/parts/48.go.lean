/-! the model's acts where they are not refused -/
def svM (m : PM) (s : Nat) : PM := w_X5_save (wI m 7 0 0 5 0) s
theorem zz_svM (m : PM) (s : Nat) : zz (svM m s) = zz m := by
  unfold svM
  rw [zz_save, zz_w7]
def giveW (m : PM) (h s : Nat) : PM := w_X5_settle (w_X5_unqueue (svM m s) (rowN (svM m s) (nI h)) (plcN (svM m s) (nI h) (rowN (svM m s) (nI h)))) (rowN (svM m s) (nI h))
def b_X5_pass_1 (_ : Nat) (s : PM) : PM := w_X5_tick s
def passW (m : PM) (k s : Nat) : PM := lp b_X5_pass_1 k 0 (svM m s)
