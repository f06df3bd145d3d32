/-! the hand at a place -/
theorem lq_first (b : Nat → Unit → Unit ⊕ Int32) (P : Nat → Prop) (N : Nat) (hb : ∀ j, j < N → (P j ∧ b j () = .inr (nI j)) ∨ (¬ P j ∧ b j () = .inl ())) : ∀ n j, n + j = N → (lqr (fun _ : Unit => (-1 : Int32)) (lq b n j ()) = -1 ∧ ∀ q, j ≤ q → q < N → ¬ P q) ∨ ∃ q, q < N ∧ P q ∧ lqr (fun _ : Unit => (-1 : Int32)) (lq b n j ()) = nI q := by
  intro n
  induction n with
  | zero =>
    intro j e
    rw [lq_0]
    exact Or.inl ⟨rfl, fun q h1 h2 => by omega⟩
  | succ n ih =>
    intro j e
    rcases hb j (by omega) with ⟨hP, h⟩ | ⟨hP, h⟩
    · rw [lq_r h]
      exact Or.inr ⟨j, by omega, hP, rfl⟩
    · rw [lq_l h]
      rcases ih (j + 1) (by omega) with ⟨a, c⟩ | a
      · refine Or.inl ⟨a, fun q h1 h2 => ?_⟩
        by_cases cq : q = j
        · rw [cq]; exact hP
        · exact c q (by omega) h2
      · exact Or.inr a
section
variable {M m : PM} {g : Nat}
theorem handAt_or (M : PM) (g r p : Nat) : (v_X2_handAt M g (nI r) (nI p) = -1 ∧ ∀ h, h < 8 → ¬ (cl M g 1 h = nI r ∧ cl M g 3 h = nI p)) ∨ ∃ h, h < 8 ∧ (cl M g 1 h = nI r ∧ cl M g 3 h = nI p) ∧ v_X2_handAt M g (nI r) (nI p) = nI h := by
  have hb : ∀ j, j < 8 → ((cl M g 1 j = nI r ∧ cl M g 3 j = nI p) ∧ b_X2_handAt_1 M g (nI r) (nI p) j () = .inr (nI j)) ∨ (¬ (cl M g 1 j = nI r ∧ cl M g 3 j = nI p) ∧ b_X2_handAt_1 M g (nI r) (nI p) j () = .inl ()) := by
    intro j hj
    unfold b_X2_handAt_1
    rw [at_in (k := 1) (show j < 8 from hj), at_in (k := 3) (show j < 8 from hj)]
    by_cases c1 : cl M g 1 j = nI r
    · rw [if_neg (show ¬ ¬ cl M g 1 j = nI r from fun q => q c1)]
      by_cases c2 : cl M g 3 j = nI p
      · rw [if_neg (show ¬ ¬ cl M g 3 j = nI p from fun q => q c2)]
        exact Or.inl ⟨⟨c1, c2⟩, rfl⟩
      · rw [if_pos c2]
        exact Or.inr ⟨fun q => c2 q.2, rfl⟩
    · rw [if_pos c1]
      exact Or.inr ⟨fun q => c1 q.1, rfl⟩
  unfold v_X2_handAt
  rcases lq_first (b_X2_handAt_1 M g (nI r) (nI p)) (fun h => cl M g 1 h = nI r ∧ cl M g 3 h = nI p) 8 hb 8 0 rfl with ⟨a, b⟩ | a
  · exact Or.inl ⟨a, fun h hh => b h (Nat.zero_le _) hh⟩
  · exact Or.inr a
theorem handAt_R (hR : RG M m g) {r p : Nat} (hr : r < 12) (hp : p < 8) : v_X2_handAt M g (nI r) (nI p) = if p < qn m r then zz m (137 + 8 * r + p) else -1 := by
  obtain ⟨n, hn, en, kn⟩ := hR.2.1 r hr
  have eq : qn m r = n := by unfold qn; rw [en]; exact nI_clamp (by omega)
  rw [eq]
  rcases handAt_or M g r p with ⟨a, b⟩ | ⟨h, hh, ⟨c1, c2⟩, e⟩
  · rw [a]
    by_cases c : p < n
    · obtain ⟨h, hh, _, f2, f3, _⟩ := kn p c
      exact absurd ⟨f2, f3⟩ (b h hh)
    · rw [if_neg c]
  · rw [e]
    rcases hR.2.2 h hh with ⟨a, _⟩ | ⟨r2, n2, p2, h1, h2, h3, h4, h5, h6, h7⟩
    · rw [c1] at a; exact absurd a (nI_nm1 (by omega))
    · rw [c1] at h5
      obtain rfl := (nI_eq (by omega) (by omega)).mp h5
      rw [c2] at h6
      obtain rfl := (nI_eq (by omega) (by omega)).mp h6
      rw [en] at h2
      obtain rfl := (nI_eq (by omega) (by omega)).mp h2
      rw [if_pos h4, h7]
end
