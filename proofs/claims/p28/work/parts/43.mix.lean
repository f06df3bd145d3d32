/-! share, the digest's mixing -/
theorem placeIn_cong {m m2 : PM} (e : zz m2 = zz m) (a : Int32) (r : Nat) : v_X5_placeIn m2 a r = v_X5_placeIn m a r := by
  have e0 : ∀ i, m2.1 8 0 0 i = m.1 8 0 0 i := fun i => congrFun e i
  unfold v_X5_placeIn
  have b : b_X5_placeIn_1 m2 a r = b_X5_placeIn_1 m a r := by
    funext j s
    unfold b_X5_placeIn_1 v_X5_whoAt
    rw [e0]
  rw [b, e0]
theorem rowOf_cong {m m2 : PM} (e : zz m2 = zz m) (a : Int32) : v_X5_rowOf m2 a = v_X5_rowOf m a := by
  unfold v_X5_rowOf
  have b : b_X5_rowOf_1 m2 a = b_X5_rowOf_1 m a := by
    funext j s
    unfold b_X5_rowOf_1
    rw [placeIn_cong e]
  rw [b]
theorem waits_cong {m m2 : PM} (e : zz m2 = zz m) (a : Int32) : v_X5_waits m2 a = v_X5_waits m a := by
  unfold v_X5_waits
  rw [rowOf_cong e]
/-! a hand's part, a row's part of the digest -/
