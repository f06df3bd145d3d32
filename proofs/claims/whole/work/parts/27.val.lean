/-! values of the model that hang on a row or place found -/
theorem lp_inv {σ : Type} (f : Nat → σ → σ) (N : Nat) (P : Nat → σ → Prop) (step : ∀ j s, j < N → P j s → P (j + 1) (f j s)) : ∀ n j s, n + j = N → P j s → P N (lp f n j s) := by
  intro n
  induction n with
  | zero =>
    intro j s h k
    obtain rfl : j = N := by omega
    rw [lp_0]; exact k
  | succ n ih =>
    intro j s h k
    rw [lp_s]
    exact ih (j + 1) _ (by omega) (step j s (by omega) k)
theorem placeIn_or (m : PM) (a : Int32) (r : Nat) : v_X5_placeIn m a r = -1 ∨ ∃ p, p < (zz m (125 + r)).toNatClampNeg ∧ v_X5_placeIn m a r = nI p ∧ zz m (137 + 8 * r + p) = a := by
  unfold v_X5_placeIn
  refine lp_inv (b_X5_placeIn_1 m a r) (zz m (125 + r)).toNatClampNeg (fun _ s => s = -1 ∨ ∃ p, p < (zz m (125 + r)).toNatClampNeg ∧ s = nI p ∧ zz m (137 + 8 * r + p) = a) ?_ _ 0 _ (Nat.add_zero _) (Or.inl rfl)
  intro j s hj hs
  unfold b_X5_placeIn_1
  by_cases hc : v_X5_whoAt m r j = a
  · rw [if_neg (fun q => q hc)]
    exact Or.inr ⟨j, hj, rfl, hc⟩
  · rw [if_pos hc]
    exact hs
theorem rowOf_or (m : PM) (a : Int32) : v_X5_rowOf m a = -1 ∨ ∃ r, r < 12 ∧ v_X5_rowOf m a = nI r ∧ ¬ v_X5_placeIn m a r = -1 := by
  unfold v_X5_rowOf
  refine lp_inv (b_X5_rowOf_1 m a) 12 (fun _ s => s = -1 ∨ ∃ r, r < 12 ∧ s = nI r ∧ ¬ v_X5_placeIn m a r = -1) ?_ 12 0 _ rfl (Or.inl rfl)
  intro j s hj hs
  unfold b_X5_rowOf_1
  by_cases hc : v_X5_placeIn m a j = -1
  · rw [if_neg (fun q => q hc)]
    exact hs
  · rw [if_pos hc]
    exact Or.inr ⟨j, hj, rfl, hc⟩
/-- the place found in the row found, as a number -/
def rowN (m : PM) (a : Int32) : Nat := (v_X5_rowOf m a).toNatClampNeg
def plcN (m : PM) (a : Int32) (r : Nat) : Nat := (v_X5_placeIn m a r).toNatClampNeg
theorem row_N {m : PM} {a : Int32} (h : ¬ v_X5_rowOf m a = -1) : v_X5_rowOf m a = nI (rowN m a) ∧ rowN m a < 12 ∧ ¬ v_X5_placeIn m a (rowN m a) = -1 := by
  rcases rowOf_or m a with h1 | ⟨r, h1, h2, h3⟩
  · exact absurd h1 h
  · have e : rowN m a = r := by unfold rowN; rw [h2]; exact nI_clamp (by omega)
    rw [e]; exact ⟨h2, h1, h3⟩
theorem plc_N {m : PM} {a : Int32} {r : Nat} (hQ : QL m) (hr : r < 12) (h : ¬ v_X5_placeIn m a r = -1) : v_X5_placeIn m a r = nI (plcN m a r) ∧ plcN m a r < 8 ∧ plcN m a r < (zz m (125 + r)).toNatClampNeg ∧ zz m (137 + 8 * r + plcN m a r) = a := by
  have q : (zz m (125 + r)).toNatClampNeg ≤ 8 := hQ r hr
  rcases placeIn_or m a r with h1 | ⟨p, h1, h2, h3⟩
  · exact absurd h1 h
  · have e : plcN m a r = p := by unfold plcN; rw [h2]; exact nI_clamp (by omega)
    rw [e]; exact ⟨h2, by omega, h1, h3⟩
def b_X5_waitsNow_1 (m : PM) (r : Nat) (j : Nat) (s : Int32) : Int32 := s ||| ((1 : Int32) <<< ((v_X5_whoAt m r j) &&& (31 : Int32)))
def v_X5_waitsNow (m : PM) (a : Int32) : Int32 := if v_X5_rowOf m a = -1 then 0 else lp (b_X5_waitsNow_1 m (rowN m a)) (plcN m a (rowN m a)) 0 (v_X5_clashing m (rowN m a) (v_X5_modeAt m (rowN m a) (plcN m a (rowN m a))) a)
theorem r_X5_waitsNow (m : PM) (a1 : Int32) (hQ : QL m) : Rn MX5_waitsNow [vR 7 0 0, vI a1] m (some (vI (v_X5_waitsNow m a1))) m := by
  refine rn_of [some (vR 7 0 0), some (vI a1), none, none, none, none] rfl ?_
  refine an_b 2 (pc2 := 2) (L2 := [some (vR 7 0 0), some (vI a1), none, none, none, none]) (st2 := [vI a1, vR 7 0 0]) (m1 := m) rfl ?_
  refine an_call (r_X5_rowOf m a1 hQ) rfl rfl rfl rfl ?_
  refine an_b 4 (pc2 := if ¬ v_X5_rowOf m a1 = (-1 : Int32) then 13 else 11) (L2 := [some (vR 7 0 0), some (vI a1), some (vI (v_X5_rowOf m a1)), none, none, none]) (st2 := []) (m1 := m) rfl ?_
  unfold v_X5_waitsNow
  by_cases h : v_X5_rowOf m a1 = -1
  · rw [if_pos h]
    refine an_f (fun q => q h) ?_
    refine an_b 1 (pc2 := 12) (L2 := [some (vR 7 0 0), some (vI a1), some (vI (v_X5_rowOf m a1)), none, none, none]) (st2 := [vI (0 : Int32)]) (m1 := m) rfl ?_
    exact an_ret rfl rfl rfl rfl rfl
  · rw [if_neg h]
    refine an_t h ?_
    obtain ⟨e1, hr, hp0⟩ := row_N h
    obtain ⟨e2, hp, _, _⟩ := plc_N hQ hr hp0
    rw [e1]
    generalize rowN m a1 = r at *
    refine an_b 3 (pc2 := 16) (L2 := [some (vR 7 0 0), some (vI a1), some (vI (nI r)), none, none, none]) (st2 := [vI (nI r), vI a1, vR 7 0 0]) (m1 := m) rfl ?_
    refine an_call (r_X5_placeIn m a1 r hr hQ) rfl rfl rfl rfl ?_
    rw [e2]
    generalize plcN m a1 r = p at *
    refine an_b 6 (pc2 := 25) (L2 := [some (vR 7 0 0), some (vI a1), some (vI (nI r)), some (vI (nI p)), none, none]) (st2 := [vI (nI p), vI (nI r), vR 7 0 0, vI (nI r), vR 7 0 0]) (m1 := m) rfl ?_
    refine an_call (r_X5_modeAt m r p hr hp) rfl rfl rfl rfl ?_
    refine an_b 1 (pc2 := 29) (L2 := [some (vR 7 0 0), some (vI a1), some (vI (nI r)), some (vI (nI p)), none, none]) (st2 := [vI a1, vI (v_X5_modeAt m r p), vI (nI r), vR 7 0 0]) (m1 := m) rfl ?_
    refine an_call (r_X5_clashing m r (v_X5_modeAt m r p) a1 hr) rfl rfl rfl rfl ?_
    refine an_b 3 (pc2 := 37) (L2 := [some (vR 7 0 0), some (vI a1), some (vI (nI r)), some (vI (nI p)), some (vI (v_X5_clashing m r (v_X5_modeAt m r p) a1)), some (vI 0)]) (st2 := []) (m1 := m) rfl ?_
    refine re_lp (σ := Int32) (b_X5_waitsNow_1 m r) (fun j s => (37, [some (vR 7 0 0), some (vI a1), some (vI (nI r)), some (vI (nI p)), some (vI s), some (vI (nI j))], [], m)) p (fun s => (63, [some (vR 7 0 0), some (vI a1), some (vI (nI r)), some (vI (nI p)), some (vI s), some (vI (nI p))], [], m)) (fun j s hj v9 m9 K => ?_) (fun s v9 m9 K => ?_) p 0 _ (Nat.add_zero _) _ _ ?_
    · show An MX5_waitsNow 37 [some (vR 7 0 0), some (vI a1), some (vI (nI r)), some (vI (nI p)), some (vI s), some (vI (nI j))] [] m v9 m9
      refine an_b 3 (pc2 := if nI p ≤ nI j then 63 else 43) (L2 := [some (vR 7 0 0), some (vI a1), some (vI (nI r)), some (vI (nI p)), some (vI s), some (vI (nI j))]) (st2 := []) (m1 := m) rfl ?_
      refine an_f (nI_ge (by omega) (by omega)) ?_
      refine an_b 5 (pc2 := 50) (L2 := [some (vR 7 0 0), some (vI a1), some (vI (nI r)), some (vI (nI p)), some (vI s), some (vI (nI j))]) (st2 := [vI (nI j), vI (nI r), vR 7 0 0, vI 1, vI s]) (m1 := m) rfl ?_
      refine an_call (r_X5_whoAt m r j hr (by omega)) rfl rfl rfl rfl ?_
      refine an_b 5 (pc2 := 37) (L2 := [some (vR 7 0 0), some (vI a1), some (vI (nI r)), some (vI (nI p)), some (vI (b_X5_waitsNow_1 m r j s)), some (vI (nI j + 1))]) (st2 := []) (m1 := m) rfl ?_
      rw [nI_1]
      exact K
    · show An MX5_waitsNow 37 [some (vR 7 0 0), some (vI a1), some (vI (nI r)), some (vI (nI p)), some (vI s), some (vI (nI p))] [] m v9 m9
      refine an_b 3 (pc2 := if nI p ≤ nI p then 63 else 43) (L2 := [some (vR 7 0 0), some (vI a1), some (vI (nI r)), some (vI (nI p)), some (vI s), some (vI (nI p))]) (st2 := []) (m1 := m) rfl ?_
      refine an_t (nI_le (Nat.le_refl _) (by omega)) ?_
      exact K
    show An MX5_waitsNow 63 [some (vR 7 0 0), some (vI a1), some (vI (nI r)), some (vI (nI p)), some (vI _), some (vI (nI p))] [] m _ _
    refine an_b 1 (pc2 := 65) (L2 := [some (vR 7 0 0), some (vI a1), some (vI (nI r)), some (vI (nI p)), some (vI _), some (vI (nI p))]) (st2 := [vI _]) (m1 := m) rfl ?_
    exact an_ret rfl rfl rfl rfl rfl
