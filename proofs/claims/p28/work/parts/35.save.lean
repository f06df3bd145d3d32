/-! save, undo -/
/-- the history's row and the number of states -/
def sets (m : PM) (f : Nat → Int32) (v : Int32) : PM := (fun t k g i => if t = 8 ∧ k = 1 ∧ g = 0 then f i else if t = 7 ∧ k = 0 ∧ g = 0 ∧ i = 1 then v else m.1 t k g i, m.2)
def hs (m : PM) (i : Nat) : Int32 := m.1 8 1 0 i
def sts (m : PM) : Int32 := m.1 7 0 0 1
theorem sets_h (m : PM) (f : Nat → Int32) (v : Int32) (i : Nat) : (sets m f v).1 8 1 0 i = f i := by
  unfold sets
  dsimp only
  rw [if_pos ⟨rfl, rfl, rfl⟩]
theorem sets_s (m : PM) (f : Nat → Int32) (v : Int32) : (sets m f v).1 7 0 0 1 = v := by
  unfold sets
  dsimp only
  rw [if_neg (by decide), if_pos ⟨rfl, rfl, rfl, rfl⟩]
theorem sets_z (m : PM) (f : Nat → Int32) (v : Int32) (i : Nat) : (sets m f v).1 8 0 0 i = m.1 8 0 0 i := by
  unfold sets
  dsimp only
  rw [if_neg (by omega), if_neg (by omega)]
def shz (h : Nat → Int32) (k : Nat) (i : Nat) : Int32 := if i + 361 < k then h (i + 361) else h i
/-- the history with the row z laid at state s, as far as k -/
def layz (h z : Nat → Int32) (s k : Nat) (i : Nat) : Int32 := if 361 * s ≤ i ∧ i < 361 * s + k then z (i - 361 * s) else h i
/-- behind a save over s states -/
def savH (h z : Nat → Int32) (s : Nat) : Nat → Int32 := if s = 6 then layz (shz h 2166) z 5 361 else layz h z s 361
def w_X5_save (m : PM) (s : Nat) : PM := sets m (savH (hs m) (zz m) s) (nI (if s = 6 then 6 else s + 1))
theorem hs_w7 (m : PM) (j : Nat) (v : Int32) : hs (wI m 7 0 0 j v) = hs m := by
  funext i
  unfold hs wI
  dsimp only
  rw [if_neg (by omega)]
theorem zz_w7 (m : PM) (j : Nat) (v : Int32) : zz (wI m 7 0 0 j v) = zz m := by
  funext i
  unfold zz wI
  dsimp only
  rw [if_neg (by omega)]
theorem w_at (m : PM) (t k g j : Nat) (v : Int32) : (wI m t k g j v).1 t k g j = v := by
  unfold wI
  dsimp only
  rw [if_pos ⟨rfl, rfl, rfl, rfl⟩]
