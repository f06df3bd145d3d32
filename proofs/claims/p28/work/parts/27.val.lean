/-! values of the model that hang on a row or place found -/
theorem lp_inv {σ : Type} (f : Nat → σ → σ) (N : Nat) (P : Nat → σ → Prop) (step : ∀ j s, j < N → P j s → P (j + 1) (f j s)) : ∀ n j s, n + j = N → P j s → P N (lp f n j s) := by
  intro n
  induction n with
  | zero =>
    intro j s h k
    obtain rfl : j = N := by omega
    rw [lp_0]; exact k
  | succ n ih =>
    intro j s h k
    rw [lp_s]
    exact ih (j + 1) _ (by omega) (step j s (by omega) k)
theorem placeIn_or (m : PM) (a : Int32) (r : Nat) : v_X5_placeIn m a r = -1 ∨ ∃ p, p < (zz m (125 + r)).toNatClampNeg ∧ v_X5_placeIn m a r = nI p ∧ zz m (137 + 8 * r + p) = a := by
  unfold v_X5_placeIn
  refine lp_inv (b_X5_placeIn_1 m a r) (zz m (125 + r)).toNatClampNeg (fun _ s => s = -1 ∨ ∃ p, p < (zz m (125 + r)).toNatClampNeg ∧ s = nI p ∧ zz m (137 + 8 * r + p) = a) ?_ _ 0 _ (Nat.add_zero _) (Or.inl rfl)
  intro j s hj hs
  unfold b_X5_placeIn_1
  by_cases hc : v_X5_whoAt m r j = a
  · rw [if_neg (fun q => q hc)]
    exact Or.inr ⟨j, hj, rfl, hc⟩
  · rw [if_pos hc]
    exact hs
theorem rowOf_or (m : PM) (a : Int32) : v_X5_rowOf m a = -1 ∨ ∃ r, r < 12 ∧ v_X5_rowOf m a = nI r ∧ ¬ v_X5_placeIn m a r = -1 := by
  unfold v_X5_rowOf
  refine lp_inv (b_X5_rowOf_1 m a) 12 (fun _ s => s = -1 ∨ ∃ r, r < 12 ∧ s = nI r ∧ ¬ v_X5_placeIn m a r = -1) ?_ 12 0 _ rfl (Or.inl rfl)
  intro j s hj hs
  unfold b_X5_rowOf_1
  by_cases hc : v_X5_placeIn m a j = -1
  · rw [if_neg (fun q => q hc)]
    exact hs
  · rw [if_pos hc]
    exact Or.inr ⟨j, hj, rfl, hc⟩
/-- the place found in the row found, as a number -/
def rowN (m : PM) (a : Int32) : Nat := (v_X5_rowOf m a).toNatClampNeg
def plcN (m : PM) (a : Int32) (r : Nat) : Nat := (v_X5_placeIn m a r).toNatClampNeg
theorem row_N {m : PM} {a : Int32} (h : ¬ v_X5_rowOf m a = -1) : v_X5_rowOf m a = nI (rowN m a) ∧ rowN m a < 12 ∧ ¬ v_X5_placeIn m a (rowN m a) = -1 := by
  rcases rowOf_or m a with h1 | ⟨r, h1, h2, h3⟩
  · exact absurd h1 h
  · have e : rowN m a = r := by unfold rowN; rw [h2]; exact nI_clamp (by omega)
    rw [e]; exact ⟨h2, h1, h3⟩
theorem plc_N {m : PM} {a : Int32} {r : Nat} (hQ : QL m) (hr : r < 12) (h : ¬ v_X5_placeIn m a r = -1) : v_X5_placeIn m a r = nI (plcN m a r) ∧ plcN m a r < 8 ∧ plcN m a r < (zz m (125 + r)).toNatClampNeg ∧ zz m (137 + 8 * r + plcN m a r) = a := by
  have q : (zz m (125 + r)).toNatClampNeg ≤ 8 := hQ r hr
  rcases placeIn_or m a r with h1 | ⟨p, h1, h2, h3⟩
  · exact absurd h1 h
  · have e : plcN m a r = p := by unfold plcN; rw [h2]; exact nI_clamp (by omega)
    rw [e]; exact ⟨h2, by omega, h1, h3⟩
def b_X5_waitsNow_1 (m : PM) (r : Nat) (j : Nat) (s : Int32) : Int32 := s ||| ((1 : Int32) <<< ((v_X5_whoAt m r j) &&& (31 : Int32)))
def v_X5_waitsNow (m : PM) (a : Int32) : Int32 := if v_X5_rowOf m a = -1 then 0 else lp (b_X5_waitsNow_1 m (rowN m a)) (plcN m a (rowN m a)) 0 (v_X5_clashing m (rowN m a) (v_X5_modeAt m (rowN m a) (plcN m a (rowN m a))) a)
