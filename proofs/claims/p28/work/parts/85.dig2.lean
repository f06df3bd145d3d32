/-! run and digest, over class and model as wholes -/
theorem number_of_R {M m : PM} {s len K w : Nat} (H : WR M m s len K) (hw : w < 10) : v_X4_numberOf M (nI w) = v_X5_counted m w := by
  unfold v_X4_numberOf
  by_cases c : w = 9
  · subst c
    rw [if_neg (fun q => q rfl), H.2.2.2.1]
    show nI s = sts m
    exact H.2.2.1.symm
  · have hn : ¬ nI w = (9 : Int32) := fun q => c ((nI_eq (by omega) (by omega)).mp (show nI w = nI 9 from q))
    rw [if_pos hn]
    have k := total_R M m 0 H.1.1 (w := w) (by omega)
    rw [setS_id] at k
    exact k
theorem setting_R {M m : PM} {s len K i : Nat} (H : WR M m s len K) (hi : i < 3) : v_X1_at M 10 0 (nI i) = zz m (0 + i) := by
  have k := at_S M 0 10 i (clT M 0) (by omega) (show i < 3 from hi)
  rw [setS_id] at k
  rw [k]
  exact H.1.1.2.2.1.1 10 i (by omega) (by omega) (show i < 3 from hi)
