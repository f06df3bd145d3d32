/-! History: which slot; to save; to restore -/
theorem one_aald {M : MI} {pc : Nat} {L : List (Option PV)} {r : List PV} {m m2 : PM} {j : Int32} {v : OC} (h : asc (mT M) pc = some (.aaload, 1)) (hj : ¬ (j < 0 ∨ 6 ≤ j.toNatClampNeg)) (kk : An M (pc + 1) L (vR 0 0 (2 + j.toNatClampNeg) :: r) m v m2) : An M pc L (vI j :: vR 5 0 0 :: r) m v m2 := by
  refine an_b 1 (pc2 := pc + 1) (L2 := L) (st2 := vR 0 0 (2 + j.toNatClampNeg) :: r) (m1 := m) ?_ kk
  have e : sm_one M pc L (vI j :: vR 5 0 0 :: r) m = some (pc + 1, L, vR 0 0 (2 + j.toNatClampNeg) :: r, m) := by
    unfold sm_one
    rw [h]
    have e2 : sm_e (mO M) .aaload 1 pc L (vI j :: vR 5 0 0 :: r) m = some (pc + 1, L, vR 0 0 (2 + j.toNatClampNeg) :: r, m) := by
      unfold sm_e
      simp only [if_neg hj]
    exact e2
  show (match sm_one M pc L (vI j :: vR 5 0 0 :: r) m with | some s2 => sm_many 0 M s2 | none => none) = _
  rw [e]
  rfl
theorem in_of6 {i : Int32} (h1 : ¬ i < 0) (h2 : ¬ 6 ≤ i) : ¬ (i < 0 ∨ 6 ≤ i.toNatClampNeg) := by
  rintro (q | q)
  · exact h1 q
  · apply h2
    obtain ⟨j, hj, rfl⟩ := nI_of h1
    rw [nI_clamp hj] at q
    exact nI_le q hj
theorem r_slot_out (m : PM) (i : Int32) (h : i < 0 ∨ 6 ≤ i) : Rn MX0_slotAt [vR 4 0 0, vI i] m (some vN) m := by
  refine rn_of [some (vR 4 0 0), some (vI i)] rfl ?_
  refine an_b 2 (pc2 := if i < 0 then 22 else 4) (L2 := [some (vR 4 0 0), some (vI i)]) (st2 := []) (m1 := m) rfl ?_
  have last : An MX0_slotAt 22 [some (vR 4 0 0), some (vI i)] [] m (.inl (some vN)) m := by
    refine an_b 1 (pc2 := 23) (L2 := [some (vR 4 0 0), some (vI i)]) (st2 := [vN]) (m1 := m) rfl ?_
    exact an_ret rfl rfl rfl rfl rfl
  refine an_if (fun h1 => last) (fun h1 => ?_)
  refine an_b 5 (pc2 := if (6 : Int32) ≤ i then 22 else 13) (L2 := [some (vR 4 0 0), some (vI i)]) (st2 := []) (m1 := m) rfl ?_
  exact an_t (h.resolve_left h1) last
theorem r_slot_in (m : PM) (i : Int32) (h1 : ¬ i < 0) (h2 : ¬ 6 ≤ i) : Rn MX0_slotAt [vR 4 0 0, vI i] m (some (vR 0 0 (2 + i.toNatClampNeg))) m := by
  refine rn_of [some (vR 4 0 0), some (vI i)] rfl ?_
  refine an_b 2 (pc2 := if i < 0 then 22 else 4) (L2 := [some (vR 4 0 0), some (vI i)]) (st2 := []) (m1 := m) rfl ?_
  refine an_f h1 ?_
  refine an_b 5 (pc2 := if (6 : Int32) ≤ i then 22 else 13) (L2 := [some (vR 4 0 0), some (vI i)]) (st2 := []) (m1 := m) rfl ?_
  refine an_f h2 ?_
  refine an_b 3 (pc2 := 18) (L2 := [some (vR 4 0 0), some (vI i)]) (st2 := [vI i, vR 5 0 0]) (m1 := m) rfl ?_
  refine one_aald rfl (in_of6 h1 h2) ?_
  refine an_b 1 (pc2 := 23) (L2 := [some (vR 4 0 0), some (vI i)]) (st2 := [vR 0 0 (2 + i.toNatClampNeg)]) (m1 := m) rfl ?_
  exact an_ret rfl rfl rfl rfl rfl
def sv_1 (m : PM) (g : Nat) : PM := w_X2_copyFrom m (2 + (m.1 4 0 0 1).toNatClampNeg) g
def sv_2 (m : PM) : PM := wI m 4 0 0 1 (if 6 ≤ m.1 4 0 0 1 + 1 then 0 else m.1 4 0 0 1 + 1)
def sv_3 (m : PM) : PM := wI m 4 0 0 2 (if m.1 4 0 0 2 + 1 < 6 then m.1 4 0 0 2 + 1 else 6)
def w_X0_save (m : PM) (g : Nat) : PM := if m.1 4 0 0 1 < 0 then m else if 6 ≤ m.1 4 0 0 1 then m else sv_3 (sv_2 (sv_1 m g))
theorem r_X0_save (m : PM) (g : Nat) : Rn MX0_save [vR 4 0 0, vR 0 0 g] m none (w_X0_save m g) := by
  refine rn_of [some (vR 4 0 0), some (vR 0 0 g), none] rfl ?_
  refine an_b 3 (pc2 := 5) (L2 := [some (vR 4 0 0), some (vR 0 0 g), none]) (st2 := [vI (m.1 4 0 0 1), vR 4 0 0]) (m1 := m) rfl ?_
  have out : (m.1 4 0 0 1 < 0 ∨ 6 ≤ m.1 4 0 0 1) → An MX0_save 5 [some (vR 4 0 0), some (vR 0 0 g), none] [vI (m.1 4 0 0 1), vR 4 0 0] m (.inl none) m := by
    intro h
    refine an_call (r_slot_out m _ h) rfl rfl rfl rfl ?_
    refine an_b 3 (pc2 := 13) (L2 := [some (vR 4 0 0), some (vR 0 0 g), some vN]) (st2 := []) (m1 := m) rfl ?_
    exact an_ret rfl rfl rfl rfl rfl
  unfold w_X0_save
  by_cases h1 : m.1 4 0 0 1 < 0
  · rw [if_pos h1]; exact out (Or.inl h1)
  rw [if_neg h1]
  by_cases h2 : 6 ≤ m.1 4 0 0 1
  · rw [if_pos h2]; exact out (Or.inr h2)
  rw [if_neg h2]
  refine an_call (r_slot_in m _ h1 h2) rfl rfl rfl rfl ?_
  refine an_b 5 (pc2 := 16) (L2 := [some (vR 4 0 0), some (vR 0 0 g), some (vR 0 0 (2 + (m.1 4 0 0 1).toNatClampNeg))]) (st2 := [vR 0 0 g, vR 0 0 (2 + (m.1 4 0 0 1).toNatClampNeg)]) (m1 := m) rfl ?_
  refine an_call (r_X2_copyFrom m _ _) rfl rfl rfl rfl ?_
  show An MX0_save 19 [some (vR 4 0 0), some (vR 0 0 g), some (vR 0 0 (2 + (m.1 4 0 0 1).toNatClampNeg))] [] (sv_1 m g) _ _
  refine an_b 7 (pc2 := if 6 ≤ (sv_1 m g).1 4 0 0 1 + 1 then 40 else 31) (L2 := [some (vR 4 0 0), some (vR 0 0 g), some (vR 0 0 (2 + (m.1 4 0 0 1).toNatClampNeg))]) (st2 := [vR 4 0 0]) (m1 := sv_1 m g) rfl ?_
  refine re_if1 (c := 6 ≤ (sv_1 m g).1 4 0 0 1 + 1) (a := (0 : Int32)) (b := (sv_1 m g).1 4 0 0 1 + 1) (fun x => (41, [some (vR 4 0 0), some (vR 0 0 g), some (vR 0 0 (2 + (m.1 4 0 0 1).toNatClampNeg))], [vI x, vR 4 0 0], sv_1 m g)) (fun h v9 m9 K => ?_) (fun h v9 m9 K => ?_) _ _ ?_
  · refine an_b 1 (pc2 := 41) (L2 := [some (vR 4 0 0), some (vR 0 0 g), some (vR 0 0 (2 + (m.1 4 0 0 1).toNatClampNeg))]) (st2 := [vI 0, vR 4 0 0]) (m1 := sv_1 m g) rfl ?_
    exact K
  · refine an_b 5 (pc2 := 41) (L2 := [some (vR 4 0 0), some (vR 0 0 g), some (vR 0 0 (2 + (m.1 4 0 0 1).toNatClampNeg))]) (st2 := [vI ((sv_1 m g).1 4 0 0 1 + 1), vR 4 0 0]) (m1 := sv_1 m g) rfl ?_
    exact K
  refine an_b 1 (pc2 := 44) (L2 := [some (vR 4 0 0), some (vR 0 0 g), some (vR 0 0 (2 + (m.1 4 0 0 1).toNatClampNeg))]) (st2 := []) (m1 := sv_2 (sv_1 m g)) rfl ?_
  refine an_b 8 (pc2 := 59) (L2 := [some (vR 4 0 0), some (vR 0 0 g), some (vR 0 0 (2 + (m.1 4 0 0 1).toNatClampNeg))]) (st2 := []) (m1 := sv_3 (sv_2 (sv_1 m g))) rfl ?_
  exact an_ret rfl rfl rfl rfl rfl
