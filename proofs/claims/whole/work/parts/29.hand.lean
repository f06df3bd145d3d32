/-! canHandOn, loserFor -/
theorem re_lpi {σ : Type} {M : MI} (f : Nat → σ → σ) (I : Nat → σ → Prop) (P : Nat → σ → PS) (N : Nat) (E : σ → PS) (hI : ∀ j s, j < N → I j s → I (j + 1) (f j s)) (step : ∀ j s, j < N → I j s → Re M (P j s) (P (j + 1) (f j s))) (exit : ∀ s, I N s → Re M (P N s) (E s)) : ∀ n j s, n + j = N → I j s → Re M (P j s) (E (lp f n j s)) := by
  intro n
  induction n with
  | zero =>
    intro j s h hi
    obtain rfl : j = N := by omega
    rw [lp_0]; exact exit s hi
  | succ n ih =>
    intro j s h hi v m2 k
    rw [lp_s] at k
    exact step j s (by omega) hi v m2 (ih (j + 1) (f j s) (by omega) (hI j s (by omega) hi) v m2 k)
def v_X5_canHandOn (m : PM) (a1 a2 : Nat) (a3 : Int32) : Int32 := if v_X5_canRelease m a1 a2 = 0 then 0 else if nI a1 = a3 then 0 else if ¬ v_X5_placeIn m a3 a2 = (-1 : Int32) then (if ¬ (v_X5_clashing m a2 (v_X5_modeAt m a2 (plcN m a3 a2)) a3) &&& (((1 : Int32) <<< (nI a1 &&& (31 : Int32))) ^^^ (-1 : Int32)) = 0 then 0 else 1) else 0
theorem z_X5_canHandOn (m : PM) (a1 a2 : Nat) (a3 : Int32) : v_X5_canHandOn m a1 a2 a3 = 0 ∨ v_X5_canHandOn m a1 a2 a3 = 1 := by
  unfold v_X5_canHandOn
  (repeat' split) <;> first | exact Or.inl rfl | exact Or.inr rfl
theorem r_X5_canHandOn (m : PM) (a1 a2 : Nat) (a3 : Int32) (h1 : a1 < 8) (h2 : a2 < 12) (hQ : QL m) : Rn MX5_canHandOn [vR 7 0 0, vI (nI a1), vI (nI a2), vI a3] m (some (vI (v_X5_canHandOn m a1 a2 a3))) m := by
  refine rn_of [some (vR 7 0 0), some (vI (nI a1)), some (vI (nI a2)), some (vI a3), none] rfl ?_
  have no : An MX5_canHandOn 24 [some (vR 7 0 0), some (vI (nI a1)), some (vI (nI a2)), some (vI a3), none] [] m (.inl (some (vI 0))) m := by
    refine an_b 1 (pc2 := 25) (L2 := [some (vR 7 0 0), some (vI (nI a1)), some (vI (nI a2)), some (vI a3), none]) (st2 := [vI 0]) (m1 := m) rfl ?_
    exact an_ret rfl rfl rfl rfl rfl
  unfold v_X5_canHandOn
  refine an_b 3 (pc2 := 3) (L2 := [some (vR 7 0 0), some (vI (nI a1)), some (vI (nI a2)), some (vI a3), none]) (st2 := [vI (nI a2), vI (nI a1), vR 7 0 0]) (m1 := m) rfl ?_
  refine an_call (r_X5_canRelease m a1 a2 h1 h2 hQ) rfl rfl rfl rfl ?_
  refine an_b 1 (pc2 := if v_X5_canRelease m a1 a2 = 0 then 24 else 9) (L2 := [some (vR 7 0 0), some (vI (nI a1)), some (vI (nI a2)), some (vI a3), none]) (st2 := []) (m1 := m) rfl ?_
  by_cases c1 : v_X5_canRelease m a1 a2 = 0
  · refine an_t c1 ?_
    rw [if_pos c1]; exact no
  refine an_f c1 ?_
  rw [if_neg c1]
  refine an_b 3 (pc2 := if nI a1 = a3 then 24 else 14) (L2 := [some (vR 7 0 0), some (vI (nI a1)), some (vI (nI a2)), some (vI a3), none]) (st2 := []) (m1 := m) rfl ?_
  by_cases c2 : nI a1 = a3
  · refine an_t c2 ?_
    rw [if_pos c2]; exact no
  refine an_f c2 ?_
  rw [if_neg c2]
  refine an_b 3 (pc2 := 17) (L2 := [some (vR 7 0 0), some (vI (nI a1)), some (vI (nI a2)), some (vI a3), none]) (st2 := [vI (nI a2), vI a3, vR 7 0 0]) (m1 := m) rfl ?_
  refine an_call (r_X5_placeIn m a3 a2 h2 hQ) rfl rfl rfl rfl ?_
  refine an_b 2 (pc2 := if ¬ v_X5_placeIn m a3 a2 = (-1 : Int32) then 26 else 24) (L2 := [some (vR 7 0 0), some (vI (nI a1)), some (vI (nI a2)), some (vI a3), none]) (st2 := []) (m1 := m) rfl ?_
  by_cases c3 : v_X5_placeIn m a3 a2 = -1
  · refine an_f (fun q => q c3) ?_
    rw [if_neg (fun q => q c3)]; exact no
  refine an_t c3 ?_
  rw [if_pos c3]
  obtain ⟨e2, hp, _, _⟩ := plc_N hQ h2 c3
  refine an_b 7 (pc2 := 33) (L2 := [some (vR 7 0 0), some (vI (nI a1)), some (vI (nI a2)), some (vI a3), none]) (st2 := [vI (nI a2), vI a3, vR 7 0 0, vI (nI a2), vR 7 0 0, vI (nI a2), vR 7 0 0]) (m1 := m) rfl ?_
  refine an_call (r_X5_placeIn m a3 a2 h2 hQ) rfl rfl rfl rfl ?_
  rw [e2]
  generalize plcN m a3 a2 = p at *
  refine an_call (r_X5_modeAt m a2 p h2 hp) rfl rfl rfl rfl ?_
  refine an_b 1 (pc2 := 40) (L2 := [some (vR 7 0 0), some (vI (nI a1)), some (vI (nI a2)), some (vI a3), none]) (st2 := [vI a3, vI (v_X5_modeAt m a2 p), vI (nI a2), vR 7 0 0]) (m1 := m) rfl ?_
  refine an_call (r_X5_clashing m a2 (v_X5_modeAt m a2 p) a3 h2) rfl rfl rfl rfl ?_
  refine an_b 9 (pc2 := if ¬ (v_X5_clashing m a2 (v_X5_modeAt m a2 p) a3) &&& (((1 : Int32) <<< (nI a1 &&& (31 : Int32))) ^^^ (-1 : Int32)) = 0 then 60 else 56) (L2 := [some (vR 7 0 0), some (vI (nI a1)), some (vI (nI a2)), some (vI a3), some (vI (v_X5_clashing m a2 (v_X5_modeAt m a2 p) a3))]) (st2 := []) (m1 := m) rfl ?_
  by_cases c4 : (v_X5_clashing m a2 (v_X5_modeAt m a2 p) a3) &&& (((1 : Int32) <<< (nI a1 &&& (31 : Int32))) ^^^ (-1 : Int32)) = 0
  · refine an_f (fun q => q c4) ?_
    rw [if_neg (fun q => q c4)]
    refine an_b 2 (pc2 := 61) (L2 := [some (vR 7 0 0), some (vI (nI a1)), some (vI (nI a2)), some (vI a3), some (vI (v_X5_clashing m a2 (v_X5_modeAt m a2 p) a3))]) (st2 := [vI 1]) (m1 := m) rfl ?_
    exact an_ret rfl rfl rfl rfl rfl
  · refine an_t c4 ?_
    rw [if_pos c4]
    refine an_b 1 (pc2 := 61) (L2 := [some (vR 7 0 0), some (vI (nI a1)), some (vI (nI a2)), some (vI a3), some (vI (v_X5_clashing m a2 (v_X5_modeAt m a2 p) a3))]) (st2 := [vI 0]) (m1 := m) rfl ?_
    exact an_ret rfl rfl rfl rfl rfl
/-- the ring's loser, hand by hand -/
def b_X5_loserFor_1 (m : PM) (a : Int32) (j : Nat) (s : Int32) : Int32 := if (v_X5_waitsOver m a >>> (nI j &&& (31 : Int32))) &&& (1 : Int32) = 1 then (if (v_X5_waitsOver m (nI j) >>> (a &&& (31 : Int32))) &&& (1 : Int32) = 1 then (if s = -1 then nI j else if v_X5_workOf m s.toNatClampNeg < v_X5_workOf m j then s else nI j) else s) else s
def v_X5_loserFor (m : PM) (a : Int32) : Int32 := lp (b_X5_loserFor_1 m a) 8 0 (-1)
theorem loserFor_i (m : PM) (a : Int32) (j : Nat) (s : Int32) (hj : j < 8) (hs : s = -1 ∨ ∃ h, h < 8 ∧ s = nI h) : b_X5_loserFor_1 m a j s = -1 ∨ ∃ h, h < 8 ∧ b_X5_loserFor_1 m a j s = nI h := by
  unfold b_X5_loserFor_1
  (repeat' split) <;> first | exact hs | exact Or.inr ⟨j, hj, rfl⟩
theorem loserFor_or (m : PM) (a : Int32) : v_X5_loserFor m a = -1 ∨ ∃ h, h < 8 ∧ v_X5_loserFor m a = nI h := lp_inv (b_X5_loserFor_1 m a) 8 (fun _ s => s = -1 ∨ ∃ h, h < 8 ∧ s = nI h) (fun j s hj hs => loserFor_i m a j s hj hs) 8 0 _ rfl (Or.inl rfl)
theorem r_X5_loserFor (m : PM) (a : Int32) (hQ : QL m) : Rn MX5_loserFor [vR 7 0 0, vI a] m (some (vI (v_X5_loserFor m a))) m := by
  refine rn_of [some (vR 7 0 0), some (vI a), none, none, none, none] rfl ?_
  refine an_b 2 (pc2 := 2) (L2 := [some (vR 7 0 0), some (vI a), none, none, none, none]) (st2 := [vI a, vR 7 0 0]) (m1 := m) rfl ?_
  refine an_call (r_X5_waitsOver m a hQ) rfl rfl rfl rfl ?_
  refine an_b 5 (pc2 := 11) (L2 := [some (vR 7 0 0), some (vI a), some (vI (v_X5_waitsOver m a)), some (vI (-1)), some (vI 0), none]) (st2 := []) (m1 := m) rfl ?_
  refine re_lpi (σ := Int32) (b_X5_loserFor_1 m a) (fun _ s => s = -1 ∨ ∃ h, h < 8 ∧ s = nI h) (fun j s => (11, [some (vR 7 0 0), some (vI a), some (vI (v_X5_waitsOver m a)), some (vI s), some (vI (nI j)), none], [], m)) 8 (fun s => (86, [some (vR 7 0 0), some (vI a), some (vI (v_X5_waitsOver m a)), some (vI s), some (vI (nI 8)), none], [], m)) (fun j s hj hs => loserFor_i m a j s hj hs) (fun j s hj hs v9 m9 K => ?_) (fun s hs v9 m9 K => ?_) 8 0 _ rfl (Or.inl rfl) _ _ ?_
  · show An MX5_loserFor 11 [some (vR 7 0 0), some (vI a), some (vI (v_X5_waitsOver m a)), some (vI s), some (vI (nI j)), none] [] m v9 m9
    have K : An MX5_loserFor 11 [some (vR 7 0 0), some (vI a), some (vI (v_X5_waitsOver m a)), some (vI (b_X5_loserFor_1 m a j s)), some (vI (nI (j + 1))), none] [] m v9 m9 := K
    refine an_b 3 (pc2 := if (8 : Int32) ≤ nI j then 86 else 18) (L2 := [some (vR 7 0 0), some (vI a), some (vI (v_X5_waitsOver m a)), some (vI s), some (vI (nI j)), none]) (st2 := []) (m1 := m) rfl ?_
    refine an_f (nI_ge (a := j) (b := 8) (by omega) (by omega)) ?_
    have out : ∀ x, b_X5_loserFor_1 m a j s = x → ∀ z : Option PV, An MX5_loserFor 79 [some (vR 7 0 0), some (vI a), some (vI (v_X5_waitsOver m a)), some (vI s), some (vI (nI j)), z] [vI x] m v9 m9 := by
      intro x hx z
      refine an_b 3 (pc2 := 11) (L2 := [some (vR 7 0 0), some (vI a), some (vI (v_X5_waitsOver m a)), some (vI x), some (vI (nI j + 1)), z]) (st2 := []) (m1 := m) rfl ?_
      rw [nI_1, ← hx]
      exact an_weak (L := [some (vR 7 0 0), some (vI a), some (vI (v_X5_waitsOver m a)), some (vI (b_X5_loserFor_1 m a j s)), some (vI (nI (j + 1))), none]) (⟨rfl, rfl, rfl, rfl, rfl, trivial⟩) K
    have no : b_X5_loserFor_1 m a j s = s → An MX5_loserFor 46 [some (vR 7 0 0), some (vI a), some (vI (v_X5_waitsOver m a)), some (vI s), some (vI (nI j)), none] [] m v9 m9 := by
      intro hx
      refine an_b 5 (pc2 := 79) (L2 := [some (vR 7 0 0), some (vI a), some (vI (v_X5_waitsOver m a)), some (vI s), some (vI (nI j)), some (vI 0)]) (st2 := [vI s]) (m1 := m) rfl ?_
      exact out s hx _
    refine an_b 7 (pc2 := if ¬ (v_X5_waitsOver m a >>> (nI j &&& (31 : Int32))) &&& (1 : Int32) = 1 then 46 else 28) (L2 := [some (vR 7 0 0), some (vI a), some (vI (v_X5_waitsOver m a)), some (vI s), some (vI (nI j)), none]) (st2 := []) (m1 := m) rfl ?_
    by_cases c1 : (v_X5_waitsOver m a >>> (nI j &&& (31 : Int32))) &&& (1 : Int32) = 1
    · refine an_f (fun q => q c1) ?_
      refine an_b 2 (pc2 := 31) (L2 := [some (vR 7 0 0), some (vI a), some (vI (v_X5_waitsOver m a)), some (vI s), some (vI (nI j)), none]) (st2 := [vI (nI j), vR 7 0 0]) (m1 := m) rfl ?_
      refine an_call (r_X5_waitsOver m (nI j) hQ) rfl rfl rfl rfl ?_
      refine an_b 6 (pc2 := if ¬ (v_X5_waitsOver m (nI j) >>> (a &&& (31 : Int32))) &&& (1 : Int32) = 1 then 46 else 42) (L2 := [some (vR 7 0 0), some (vI a), some (vI (v_X5_waitsOver m a)), some (vI s), some (vI (nI j)), none]) (st2 := []) (m1 := m) rfl ?_
      by_cases c2 : (v_X5_waitsOver m (nI j) >>> (a &&& (31 : Int32))) &&& (1 : Int32) = 1
      · refine an_f (fun q => q c2) ?_
        refine an_b 8 (pc2 := if s = (-1 : Int32) then 73 else 59) (L2 := [some (vR 7 0 0), some (vI a), some (vI (v_X5_waitsOver m a)), some (vI s), some (vI (nI j)), some (vI 1)]) (st2 := []) (m1 := m) rfl ?_
        have yes : b_X5_loserFor_1 m a j s = nI j → An MX5_loserFor 73 [some (vR 7 0 0), some (vI a), some (vI (v_X5_waitsOver m a)), some (vI s), some (vI (nI j)), some (vI 1)] [] m v9 m9 := by
          intro hx
          refine an_b 2 (pc2 := 79) (L2 := [some (vR 7 0 0), some (vI a), some (vI (v_X5_waitsOver m a)), some (vI s), some (vI (nI j)), some (vI 1)]) (st2 := [vI (nI j)]) (m1 := m) rfl ?_
          exact out _ hx _
        by_cases c3 : s = -1
        · refine an_t c3 (yes ?_)
          unfold b_X5_loserFor_1; rw [if_pos c1, if_pos c2, if_pos c3]
        · refine an_f c3 ?_
          rcases hs with hs | ⟨h, hh, rfl⟩
          · exact absurd hs c3
          refine an_b 2 (pc2 := 62) (L2 := [some (vR 7 0 0), some (vI a), some (vI (v_X5_waitsOver m a)), some (vI (nI h)), some (vI (nI j)), some (vI 1)]) (st2 := [vI (nI j), vR 7 0 0]) (m1 := m) rfl ?_
          refine an_call (r_X5_workOf m j hj) rfl rfl rfl rfl ?_
          refine an_b 2 (pc2 := 67) (L2 := [some (vR 7 0 0), some (vI a), some (vI (v_X5_waitsOver m a)), some (vI (nI h)), some (vI (nI j)), some (vI 1)]) (st2 := [vI (nI h), vR 7 0 0, vI (v_X5_workOf m j)]) (m1 := m) rfl ?_
          refine an_call (r_X5_workOf m h hh) rfl rfl rfl rfl ?_
          refine an_b 1 (pc2 := if v_X5_workOf m h < v_X5_workOf m j then 78 else 73) (L2 := [some (vR 7 0 0), some (vI a), some (vI (v_X5_waitsOver m a)), some (vI (nI h)), some (vI (nI j)), some (vI 1)]) (st2 := []) (m1 := m) rfl ?_
          have eh : (nI h).toNatClampNeg = h := nI_clamp (by omega)
          by_cases c4 : v_X5_workOf m h < v_X5_workOf m j
          · refine an_t c4 ?_
            refine an_b 1 (pc2 := 79) (L2 := [some (vR 7 0 0), some (vI a), some (vI (v_X5_waitsOver m a)), some (vI (nI h)), some (vI (nI j)), some (vI 1)]) (st2 := [vI (nI h)]) (m1 := m) rfl ?_
            refine out _ ?_ _
            unfold b_X5_loserFor_1; rw [if_pos c1, if_pos c2, if_neg c3, eh, if_pos c4]
          · refine an_f c4 (yes ?_)
            unfold b_X5_loserFor_1; rw [if_pos c1, if_pos c2, if_neg c3, eh, if_neg c4]
      · refine an_t c2 (no ?_)
        unfold b_X5_loserFor_1; rw [if_pos c1, if_neg c2]
    · refine an_t c1 (no ?_)
      unfold b_X5_loserFor_1; rw [if_neg c1]
  · show An MX5_loserFor 11 [some (vR 7 0 0), some (vI a), some (vI (v_X5_waitsOver m a)), some (vI s), some (vI (nI 8)), none] [] m v9 m9
    refine an_b 3 (pc2 := if (8 : Int32) ≤ nI 8 then 86 else 18) (L2 := [some (vR 7 0 0), some (vI a), some (vI (v_X5_waitsOver m a)), some (vI s), some (vI (nI 8)), none]) (st2 := []) (m1 := m) rfl ?_
    refine an_t (by decide) ?_
    exact K
  show An MX5_loserFor 86 [some (vR 7 0 0), some (vI a), some (vI (v_X5_waitsOver m a)), some (vI (v_X5_loserFor m a)), some (vI (nI 8)), none] [] m _ _
  refine an_b 1 (pc2 := 87) (L2 := [some (vR 7 0 0), some (vI a), some (vI (v_X5_waitsOver m a)), some (vI (v_X5_loserFor m a)), some (vI (nI 8)), none]) (st2 := [vI (v_X5_loserFor m a)]) (m1 := m) rfl ?_
  exact an_ret rfl rfl rfl rfl rfl
