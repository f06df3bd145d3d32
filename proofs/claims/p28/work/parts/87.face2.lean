/-! the face: pass, cool, set, append, run, undo -/
theorem wh_or (m : PM) (a : Int32) (n : Nat) (hn : n + 1 < 2 ^ 31) : ((a < 0 ∨ (¬ a < 0 ∧ ¬ a < nI (n + 1))) ∧ v_X5_within m a 0 (nI n) = 0) ∨ ∃ j, j < n + 1 ∧ a = nI j ∧ ¬ a < 0 ∧ a < nI (n + 1) ∧ v_X5_within m a 0 (nI n) = 1 := by
  unfold v_X5_within
  rcases pk_ix a hn with h | h | ⟨j, hj, rfl⟩
  · rw [if_pos h]; exact Or.inl ⟨Or.inl h, rfl⟩
  · by_cases c : a < 0
    · rw [if_pos c]; exact Or.inl ⟨Or.inl c, rfl⟩
    · rw [if_neg c, if_pos (lt_le h hn)]
      exact Or.inl ⟨Or.inr ⟨c, Int32.not_lt.mpr h⟩, rfl⟩
  · rw [if_neg (nI_pos (by omega)), if_neg (nI_nlt (by omega) (by omega))]
    exact Or.inr ⟨j, hj, rfl, nI_pos (by omega), nI_lt hj hn, rfl⟩
section
variable {M m : PM} {s len K : Nat}
/-- a value of a setting -/
theorem val_or (M m : PM) {i : Nat} (hi : i < 3) (x : Int32) : ((x < v_X4_leastValue M (nI i) ∨ (¬ x < v_X4_leastValue M (nI i) ∧ ¬ x ≤ v_X4_greatestValue M (nI i))) ∧ v_X5_isValue m (nI i) x = 0) ∨ (¬ x < v_X4_leastValue M (nI i) ∧ x ≤ v_X4_greatestValue M (nI i) ∧ v_X5_isValue m (nI i) x = 1 ∧ ∃ n, x = nI n ∧ (i = 0 → n ≤ 900) ∧ (i = 1 → n ≤ 20) ∧ (i = 2 → n ≤ 50)) := by
  have gen : ∀ (lo hi : Nat), lo < 2 ^ 31 → hi < 2 ^ 31 → ((x < nI lo ∨ (¬ x < nI lo ∧ ¬ x ≤ nI hi)) ∧ v_X5_within m x (nI lo) (nI hi) = 0) ∨ (¬ x < nI lo ∧ x ≤ nI hi ∧ v_X5_within m x (nI lo) (nI hi) = 1 ∧ ∃ n, x = nI n ∧ n ≤ hi) := by
    intro lo hi h1 h2
    unfold v_X5_within
    by_cases c1 : x < nI lo
    · rw [if_pos c1]; exact Or.inl ⟨Or.inl c1, rfl⟩
    · rw [if_neg c1]
      by_cases c2 : nI hi < x
      · rw [if_pos c2]; exact Or.inl ⟨Or.inr ⟨c1, Int32.not_le.mpr c2⟩, rfl⟩
      · rw [if_neg c2]
        obtain ⟨n, _, k2, k3⟩ := nI_le2 h1 h2 c1 c2
        exact Or.inr ⟨c1, Int32.not_lt.mp c2, rfl, n, k3, k2⟩
  rcases (show i = 0 ∨ i = 1 ∨ i = 2 by omega) with rfl | rfl | rfl
  · rcases gen 10 900 (by omega) (by omega) with ⟨a, b⟩ | ⟨a, b, c, n, d, e⟩
    · exact Or.inl ⟨a, b⟩
    · exact Or.inr ⟨a, b, c, n, d, fun _ => e, fun q => absurd q (by decide), fun q => absurd q (by decide)⟩
  · rcases gen 0 20 (by omega) (by omega) with ⟨a, b⟩ | ⟨a, b, c, n, d, e⟩
    · exact Or.inl ⟨a, b⟩
    · exact Or.inr ⟨a, b, c, n, d, fun q => absurd q (by decide), fun _ => e, fun q => absurd q (by decide)⟩
  · rcases gen 0 50 (by omega) (by omega) with ⟨a, b⟩ | ⟨a, b, c, n, d, e⟩
    · exact Or.inl ⟨a, b⟩
    · exact Or.inr ⟨a, b, c, n, d, fun q => absurd q (by decide), fun q => absurd q (by decide), fun _ => e⟩
end
