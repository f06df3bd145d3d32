/-! asks, releases -/
def w_X5_enqueue (m : PM) (r h : Nat) (md : Int32) : PM := setz m (enz (zz m) r h md (plz (zz m) r h (qn m r)) (qn m r))
theorem loser_in {m : PM} {h : Nat} (hh : h < 8) (hi : ¬ v_X5_isInRing m (nI h) = 0) : ∃ l, l < 8 ∧ v_X5_loserFor m (nI h) = nI l := by
  have hb : (v_X5_waitsOver m (nI h) >>> (nI h &&& (31 : Int32))) &&& (1 : Int32) = 1 := by
    by_cases c : (v_X5_waitsOver m (nI h) >>> (nI h &&& (31 : Int32))) &&& (1 : Int32) = 1
    · exact c
    · exact absurd (by unfold v_X5_isInRing; rw [if_pos c]) hi
  have k := lp_inv (b_X5_loserFor_1 m (nI h)) 8 (fun j s => (s = -1 ∨ ∃ l, l < 8 ∧ s = nI l) ∧ (h < j → ∃ l, l < 8 ∧ s = nI l)) (fun j s hj hs => ⟨loserFor_i m (nI h) j s hj hs.1, fun hlt => ?_⟩) 8 0 (-1) rfl ⟨Or.inl rfl, fun q => absurd q (by omega)⟩
  · exact k.2 hh
  · by_cases c : h = j
    · subst c
      unfold b_X5_loserFor_1
      rw [if_pos hb, if_pos hb]
      by_cases c3 : s = -1
      · rw [if_pos c3]; exact ⟨h, hj, rfl⟩
      · rw [if_neg c3]
        rcases hs.1 with e | e
        · exact absurd e c3
        · split
          · exact e
          · exact ⟨h, hj, rfl⟩
    · have e := hs.2 (by omega)
      unfold b_X5_loserFor_1
      (repeat' split) <;> first | exact e | exact ⟨j, hj, rfl⟩
/-- the turns of a ring, d at most -/
def ring (h : Nat) : Nat → PM → PM
  | 0, m => m
  | d + 1, m => if v_X5_isInRing m (nI h) = 0 then m else ring h d (w_X5_lose m (v_X5_loserFor m (nI h)).toNatClampNeg)
def askA (m : PM) (h : Nat) : PM := wI m 8 0 0 (353 + h) (m.1 8 0 0 (353 + h) + 1)
def askC (m : PM) (h r : Nat) (md : Int32) : PM := w_X5_settle (w_X5_enqueue (askA m h) r h md) r
def askR (m : PM) (h r : Nat) (md : Int32) : PM := ring h 8 (askC m h r md)
def v_X5_asks (m : PM) (h r : Nat) (md : Int32) : Int32 := if v_X5_lockOf (askA m h) h r < md then (if v_X5_lockOf (askR m h r md) h r < md then (if v_X5_waits (askR m h r md) (nI h) = 0 then 2 else 1) else 0) else 0
def w_X5_asks (m : PM) (h r : Nat) (md : Int32) : PM := if v_X5_lockOf (askA m h) h r < md then askR m h r md else wI (askA m h) 8 0 0 (345 + h) ((askA m h).1 8 0 0 (345 + h) + 1)
def w_X5_releases (m : PM) (h r : Nat) : PM := w_X5_settle (w_X5_setLock m h r 0) r
def v_X5_releases (m : PM) (h r : Nat) : Int32 := v_X5_settle (w_X5_setLock m h r 0) r
