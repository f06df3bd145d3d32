/-! trials, and the digest -/
theorem st_val {M m : PM} {s len K : Nat} (H : WR M m s len K) : RG M m 0 := by
  have k := sa_rgm M m 0 H.1.1
  rw [setS_id] at k
  exact k
