/-! at the start both sides agree -/
section
def z0F : Nat → Int32 := upd (upd (upd (fun _ => 0) 0 60) 1 1) 2 2
/-- the row of numbers at the start -/
def g0 : PM := (fun t k _ i => if t = 8 then (if k = 0 then z0F i else 0) else 0, fun _ _ _ _ => 0)
theorem z0_ge {i : Nat} (h : 3 ≤ i) : z0F i = 0 := by
  unfold z0F upd
  rw [if_neg (by omega), if_neg (by omega), if_neg (by omega)]
theorem cl_0m {L9 : Nat} {xs : Nat → Int32} {k i : Nat} (h : k < 11) : clT (m0 L9 xs) 0 k i = c0 k i := by
  unfold clT
  rw [if_pos h]
  show (if k < 11 then c0 k i else 0) = _
  rw [if_pos h]
theorem zz_0m (i : Nat) : zz g0 i = z0F i := rfl
theorem c0_z {k : Nat} (h : ¬ k = 1) (h2 : ¬ k = 10) (i : Nat) : c0 k i = 0 := by
  unfold c0
  split
  · exact absurd rfl h
  · exact absurd rfl h2
  · rfl
theorem c0_1 {i : Nat} (h : i < 8) : c0 1 i = -1 := if_pos h
theorem slr_0 {L9 : Nat} {xs : Nat → Int32} : SLR (clT (m0 L9 xs) 0) (zz g0) 0 := by
  refine ⟨⟨?_, ⟨?_, ?_⟩, ⟨?_, ?_, ?_⟩, ?_⟩, ⟨⟨60, by omega, ?_⟩, ⟨1, by omega, ?_⟩, ⟨2, by omega, ?_⟩, ?_⟩, ?_⟩
  · intro h r hh hr
    rw [zz_0m, z0_ge (by omega), cl_0m (by omega), c0_z (by omega) (by omega)]
    exact ⟨rfl, Or.inl rfl⟩
  · intro r hr
    exact ⟨0, by omega, by rw [zz_0m, z0_ge (by omega)]; rfl, fun p hp => absurd hp (Nat.not_lt_zero p)⟩
  · intro h hh
    left
    rw [cl_0m (by omega), cl_0m (by omega), c0_1 hh, c0_z (by omega) (by omega)]
    exact ⟨rfl, rfl⟩
  · intro k i h4 h10 hi
    rw [zz_0m, cl_0m (by omega)]
    by_cases hk : k = 10
    · subst hk
      show upd (upd (upd (fun _ => 0) 0 60) 1 1) 2 2 i = z0F (zof 10 + i)
      rw [show zof 10 + i = i from Nat.zero_add i]
      rfl
    · rw [c0_z (by omega) hk, z0_ge]
      rcases (show k = 4 ∨ k = 5 ∨ k = 6 ∨ k = 7 ∨ k = 8 ∨ k = 9 by omega) with rfl | rfl | rfl | rfl | rfl | rfl <;> exact Nat.le_trans (by decide) (Nat.le_add_right _ i)
  · rw [zz_0m, z0_ge (by omega)]
    rfl
  · rw [zz_0m, z0_ge (by omega)]
    have e : clT (m0 L9 xs) 0 6 = fun _ => 0 := by
      funext i
      rw [cl_0m (by omega), c0_z (by omega) (by omega)]
    rw [e]
    decide +kernel
  · intro r n p q hr hn h8 hp hq
    rw [zz_0m, z0_ge (by omega)] at hn
    have : n = 0 := (nI_eq (a := n) (b := 0) (by omega) (by omega)).1 hn.symm
    omega
  · rw [cl_0m (by omega)]; rfl
  · rw [cl_0m (by omega)]; rfl
  · rw [cl_0m (by omega)]; rfl
  · intro r hr
    exact ⟨0, by omega, by rw [cl_0m (by omega), c0_z (by omega) (by omega)]; rfl⟩
  · intro h hh
    refine ⟨0, 0, by rw [cl_0m (by omega), c0_z (by omega) (by omega)]; rfl, by rw [cl_0m (by omega), c0_z (by omega) (by omega)]; rfl, ?_, Nat.le_refl _⟩
    rw [cl_0m (by omega), c0_1 hh, if_pos rfl]
    exact Nat.le_refl _
theorem wr_0 {L9 : Nat} {xs : Nat → Int32} : WR (m0 L9 xs) g0 0 0 0 := ⟨slr_0, by omega, rfl, rfl, ⟨0, by omega, rfl, fun j hj => absurd hj (Nat.not_lt_zero j)⟩, by omega, rfl, rfl, fun i hi => absurd hi (Nat.not_lt_zero i)⟩
theorem sA_0 {L9 : Nat} {xs : Nat → Int32} : setA (m0 L9 xs) (fun _ _ => 0) = m0 L9 xs := by
  unfold setA
  refine Prod.ext ?_ rfl
  funext t k g i
  dsimp only
  by_cases c : t = 8 ∧ k < 9 ∧ g = 0
  · rw [if_pos c]
    obtain ⟨rfl, -, -⟩ := c
    rfl
  · rw [if_neg c]
theorem wr_s {L9 : Nat} {xs : Nat → Int32} : WR (setA (m0 L9 xs) (aS (fun _ _ => 0))) g0 0 0 0 := by
  have k : WR (setA (m0 L9 xs) (fun _ _ => 0)) g0 0 0 0 := by rw [sA_0]; exact wr_0
  exact wr_A k _
theorem la_0 : LA (aS (fun _ _ => 0)) (zz g0) (0, 0) := by
  have a1 : ∀ k i, ¬ k = 0 → aS (fun _ _ => 0) k i = 0 := fun k i h => by
    unfold aS
    rw [up2_o _ _ _ _ h, up2_o _ _ _ _ h, up2_o _ _ _ _ h]
  refine ⟨⟨fun h r hh hr => ?_, fun h r hh hr _ => ?_⟩, ⟨fun r hr => ⟨0, by omega, ?_, a1 3 r (by decide), fun p hp => absurd hp (Nat.not_lt_zero p)⟩, fun r g1 g2 => ?_⟩, fun k hk => ⟨fun h hh => ?_, fun h g1 g2 => ?_⟩, ⟨fun r hr => ?_, ?_, ?_, rfl, rfl, rfl, rfl, ?_⟩⟩
  · rw [a1 1 _ (by decide), zz_0m, z0_ge (by omega)]
  · rw [zz_0m, z0_ge (by omega)]
  · rw [zz_0m, z0_ge (by omega)]; rfl
  · rw [zz_0m, z0_ge (by omega)]
  · rw [a1 (5 + k) _ (by omega), zz_0m, z0_ge (by omega)]
  · rw [zz_0m, z0_ge (by omega)]
  · rw [a1 4 _ (by decide), zz_0m, z0_ge (by omega)]
  · rfl
  · rfl
  · decide +kernel
end
