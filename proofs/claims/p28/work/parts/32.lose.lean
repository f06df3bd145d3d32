/-! every queue in order; settle, lose, asks -/
/-- every row's queue is made of hands -/
def QA (z : Nat → Int32) : Prop := ∀ r, r < 12 → QV z r (z (125 + r)).toNatClampNeg
def qn (m : PM) (r : Nat) : Nat := (zz m (125 + r)).toNatClampNeg
theorem ql_of {m : PM} (h : QA (zz m)) : QL m := fun r hr => (h r hr).2.1
theorem qv_n {z : Nat → Int32} {r n : Nat} (h : QV z r n) : (z (125 + r)).toNatClampNeg = n := by
  rw [h.1]; exact nI_clamp (by have := h.2.1; omega)
theorem qa_i {z : Nat → Int32} (h : ∀ r, r < 12 → ∃ n, QV z r n) : QA z := by
  intro r hr
  obtain ⟨n, hn⟩ := h r hr
  rw [qv_n hn]; exact hn
def v_X5_settle (m : PM) (r : Nat) : Int32 := (stz r (qn m r) (zz m) 0).1
def w_X5_settle (m : PM) (r : Nat) : PM := setz m (stz r (qn m r) (zz m) 0).2
def w_X5_unqueue (m : PM) (r p : Nat) : PM := setz m (uqz (zz m) r p (qn m r) (qn m r - 1))
theorem zz_wI (m : PM) (i : Nat) (v : Int32) : zz (wI m 8 0 0 i v) = upd (zz m) i v := by rw [wI_setz, zz_setz]
theorem zz_setLock (m : PM) (h r : Nat) (v : Int32) : zz (w_X5_setLock m h r v) = upd (zz m) (5 + 12 * h + r) v := zz_wI _ _ _
/-- one row of a losing hand -/
def b_X5_lose_1 (m : PM) (h : Nat) (j : Nat) (s : Int32 × PM) : Int32 × PM := ((if 0 < v_X5_lockOf s.2 h j then (1 : Int32) <<< (nI j &&& (31 : Int32)) else if v_X5_placeIn s.2 (nI h) j = (-1 : Int32) then 0 else (1 : Int32) <<< (nI j &&& (31 : Int32))) ||| s.1, if v_X5_placeIn s.2 (nI h) j = (-1 : Int32) then w_X5_setLock s.2 h j 0 else w_X5_unqueue (w_X5_setLock s.2 h j 0) j (plcN s.2 (nI h) j))
def b_X5_lose_2 (rows : Int32) (j : Nat) (s : PM) : PM := if ¬ (rows >>> (nI j &&& (31 : Int32))) &&& (1 : Int32) = 1 then s else w_X5_settle s j
def lose_1 (m : PM) (h : Nat) : Int32 × PM := lp (b_X5_lose_1 m h) 12 0 (0, m)
def lose_2 (m : PM) (h : Nat) : PM := wI (lose_1 m h).2 8 0 0 (337 + h) ((lose_1 m h).2.1 8 0 0 (337 + h) + 1)
def w_X5_lose (m : PM) (h : Nat) : PM := lp (b_X5_lose_2 (lose_1 m h).1) 12 0 (lose_2 m h)
