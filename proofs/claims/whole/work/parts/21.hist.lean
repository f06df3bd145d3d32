/-! History: which slot; to save; to restore -/
theorem one_aald {M : MI} {pc : Nat} {L : List (Option PV)} {r : List PV} {m m2 : PM} {j : Int32} {v : OC} (h : asc (mT M) pc = some (.aaload, 1)) (hj : ¬ (j < 0 ∨ 6 ≤ j.toNatClampNeg)) (kk : An M (pc + 1) L (vR 0 0 (2 + j.toNatClampNeg) :: r) m v m2) : An M pc L (vI j :: vR 5 0 0 :: r) m v m2 := by
  refine an_b 1 (pc2 := pc + 1) (L2 := L) (st2 := vR 0 0 (2 + j.toNatClampNeg) :: r) (m1 := m) ?_ kk
  have e : sm_one M pc L (vI j :: vR 5 0 0 :: r) m = some (pc + 1, L, vR 0 0 (2 + j.toNatClampNeg) :: r, m) := by
    unfold sm_one
    rw [h]
    have e2 : sm_e (mO M) .aaload 1 pc L (vI j :: vR 5 0 0 :: r) m = some (pc + 1, L, vR 0 0 (2 + j.toNatClampNeg) :: r, m) := by
      unfold sm_e
      simp only [if_neg hj]
    exact e2
  show (match sm_one M pc L (vI j :: vR 5 0 0 :: r) m with | some s2 => sm_many 0 M s2 | none => none) = _
  rw [e]
  rfl
theorem in_of6 {i : Int32} (h1 : ¬ i < 0) (h2 : ¬ 6 ≤ i) : ¬ (i < 0 ∨ 6 ≤ i.toNatClampNeg) := by
  rintro (q | q)
  · exact h1 q
  · apply h2
    obtain ⟨j, hj, rfl⟩ := nI_of h1
    rw [nI_clamp hj] at q
    exact nI_le q hj
theorem r_slot_out (m : PM) (i : Int32) (h : i < 0 ∨ 6 ≤ i) : Rn MX0_slotAt [vR 4 0 0, vI i] m (some vN) m := by
  refine rn_of [some (vR 4 0 0), some (vI i)] rfl ?_
  refine an_b 2 (pc2 := if i < 0 then 22 else 4) (L2 := [some (vR 4 0 0), some (vI i)]) (st2 := []) (m1 := m) rfl ?_
  have last : An MX0_slotAt 22 [some (vR 4 0 0), some (vI i)] [] m (.inl (some vN)) m := by
    refine an_b 1 (pc2 := 23) (L2 := [some (vR 4 0 0), some (vI i)]) (st2 := [vN]) (m1 := m) rfl ?_
    exact an_ret rfl rfl rfl rfl rfl
  refine an_if (fun h1 => last) (fun h1 => ?_)
  refine an_b 5 (pc2 := if (6 : Int32) ≤ i then 22 else 13) (L2 := [some (vR 4 0 0), some (vI i)]) (st2 := []) (m1 := m) rfl ?_
  exact an_t (h.resolve_left h1) last
theorem r_slot_in (m : PM) (i : Int32) (h1 : ¬ i < 0) (h2 : ¬ 6 ≤ i) : Rn MX0_slotAt [vR 4 0 0, vI i] m (some (vR 0 0 (2 + i.toNatClampNeg))) m := by
  refine rn_of [some (vR 4 0 0), some (vI i)] rfl ?_
  refine an_b 2 (pc2 := if i < 0 then 22 else 4) (L2 := [some (vR 4 0 0), some (vI i)]) (st2 := []) (m1 := m) rfl ?_
  refine an_f h1 ?_
  refine an_b 5 (pc2 := if (6 : Int32) ≤ i then 22 else 13) (L2 := [some (vR 4 0 0), some (vI i)]) (st2 := []) (m1 := m) rfl ?_
  refine an_f h2 ?_
  refine an_b 3 (pc2 := 18) (L2 := [some (vR 4 0 0), some (vI i)]) (st2 := [vI i, vR 5 0 0]) (m1 := m) rfl ?_
  refine one_aald rfl (in_of6 h1 h2) ?_
  refine an_b 1 (pc2 := 23) (L2 := [some (vR 4 0 0), some (vI i)]) (st2 := [vR 0 0 (2 + i.toNatClampNeg)]) (m1 := m) rfl ?_
  exact an_ret rfl rfl rfl rfl rfl
def sv_1 (m : PM) (g : Nat) : PM := w_X2_copyFrom m (2 + (m.1 4 0 0 1).toNatClampNeg) g
def sv_2 (m : PM) : PM := wI m 4 0 0 1 (if 6 ≤ m.1 4 0 0 1 + 1 then 0 else m.1 4 0 0 1 + 1)
def sv_3 (m : PM) : PM := wI m 4 0 0 2 (if m.1 4 0 0 2 + 1 < 6 then m.1 4 0 0 2 + 1 else 6)
def w_X0_save (m : PM) (g : Nat) : PM := if m.1 4 0 0 1 < 0 then m else if 6 ≤ m.1 4 0 0 1 then m else sv_3 (sv_2 (sv_1 m g))
theorem r_X0_save (m : PM) (g : Nat) : Rn MX0_save [vR 4 0 0, vR 0 0 g] m none (w_X0_save m g) := by
  refine rn_of [some (vR 4 0 0), some (vR 0 0 g), none] rfl ?_
  refine an_b 3 (pc2 := 5) (L2 := [some (vR 4 0 0), some (vR 0 0 g), none]) (st2 := [vI (m.1 4 0 0 1), vR 4 0 0]) (m1 := m) rfl ?_
  have out : (m.1 4 0 0 1 < 0 ∨ 6 ≤ m.1 4 0 0 1) → An MX0_save 5 [some (vR 4 0 0), some (vR 0 0 g), none] [vI (m.1 4 0 0 1), vR 4 0 0] m (.inl none) m := by
    intro h
    refine an_call (r_slot_out m _ h) rfl rfl rfl rfl ?_
    refine an_b 3 (pc2 := 13) (L2 := [some (vR 4 0 0), some (vR 0 0 g), some vN]) (st2 := []) (m1 := m) rfl ?_
    exact an_ret rfl rfl rfl rfl rfl
  unfold w_X0_save
  by_cases h1 : m.1 4 0 0 1 < 0
  · rw [if_pos h1]; exact out (Or.inl h1)
  rw [if_neg h1]
  by_cases h2 : 6 ≤ m.1 4 0 0 1
  · rw [if_pos h2]; exact out (Or.inr h2)
  rw [if_neg h2]
  refine an_call (r_slot_in m _ h1 h2) rfl rfl rfl rfl ?_
  refine an_b 5 (pc2 := 16) (L2 := [some (vR 4 0 0), some (vR 0 0 g), some (vR 0 0 (2 + (m.1 4 0 0 1).toNatClampNeg))]) (st2 := [vR 0 0 g, vR 0 0 (2 + (m.1 4 0 0 1).toNatClampNeg)]) (m1 := m) rfl ?_
  refine an_call (r_X2_copyFrom m _ _) rfl rfl rfl rfl ?_
  show An MX0_save 19 [some (vR 4 0 0), some (vR 0 0 g), some (vR 0 0 (2 + (m.1 4 0 0 1).toNatClampNeg))] [] (sv_1 m g) _ _
  refine an_b 7 (pc2 := if 6 ≤ (sv_1 m g).1 4 0 0 1 + 1 then 40 else 31) (L2 := [some (vR 4 0 0), some (vR 0 0 g), some (vR 0 0 (2 + (m.1 4 0 0 1).toNatClampNeg))]) (st2 := [vR 4 0 0]) (m1 := sv_1 m g) rfl ?_
  refine re_if1 (c := 6 ≤ (sv_1 m g).1 4 0 0 1 + 1) (a := (0 : Int32)) (b := (sv_1 m g).1 4 0 0 1 + 1) (fun x => (41, [some (vR 4 0 0), some (vR 0 0 g), some (vR 0 0 (2 + (m.1 4 0 0 1).toNatClampNeg))], [vI x, vR 4 0 0], sv_1 m g)) (fun h v9 m9 K => ?_) (fun h v9 m9 K => ?_) _ _ ?_
  · refine an_b 1 (pc2 := 41) (L2 := [some (vR 4 0 0), some (vR 0 0 g), some (vR 0 0 (2 + (m.1 4 0 0 1).toNatClampNeg))]) (st2 := [vI 0, vR 4 0 0]) (m1 := sv_1 m g) rfl ?_
    exact K
  · refine an_b 5 (pc2 := 41) (L2 := [some (vR 4 0 0), some (vR 0 0 g), some (vR 0 0 (2 + (m.1 4 0 0 1).toNatClampNeg))]) (st2 := [vI ((sv_1 m g).1 4 0 0 1 + 1), vR 4 0 0]) (m1 := sv_1 m g) rfl ?_
    exact K
  refine an_b 1 (pc2 := 44) (L2 := [some (vR 4 0 0), some (vR 0 0 g), some (vR 0 0 (2 + (m.1 4 0 0 1).toNatClampNeg))]) (st2 := []) (m1 := sv_2 (sv_1 m g)) rfl ?_
  refine an_b 8 (pc2 := 59) (L2 := [some (vR 4 0 0), some (vR 0 0 g), some (vR 0 0 (2 + (m.1 4 0 0 1).toNatClampNeg))]) (st2 := []) (m1 := sv_3 (sv_2 (sv_1 m g))) rfl ?_
  exact an_ret rfl rfl rfl rfl rfl
/-- which slot is the latest -/
def rs_l (m : PM) : Int32 := if m.1 4 0 0 1 ≤ 0 then 5 else m.1 4 0 0 1 - 1
def rs_1 (m : PM) (g : Nat) : PM := wI (w_X2_copyFrom m g (2 + (rs_l m).toNatClampNeg)) 4 0 0 1 (rs_l m)
def rs_2 (m : PM) : PM := wI m 4 0 0 2 (m.1 4 0 0 2 - 1)
def w_X0_restore (m : PM) (g : Nat) : PM := if rs_l m < 0 then m else if 6 ≤ rs_l m then m else if m.1 4 0 0 2 ≤ 0 then m else rs_2 (rs_1 m g)
def v_X0_restore (m : PM) (g : Nat) : Int32 := (w_X0_restore m g).1 4 0 0 2
theorem r_X0_restore (m : PM) (g : Nat) : Rn MX0_restore [vR 4 0 0, vR 0 0 g] m (some (vI (v_X0_restore m g))) (w_X0_restore m g) := by
  refine rn_of [some (vR 4 0 0), some (vR 0 0 g), none, none] rfl ?_
  unfold v_X0_restore
  have last : ∀ (X : List (Option PV)) (q : PM) (x y : PV), An MX0_restore 59 [some (vR 4 0 0), some (vR 0 0 g), some x, some y] [] q (.inl (some (vI (q.1 4 0 0 2)))) q := by
    intro X q x y
    refine an_b 2 (pc2 := 63) (L2 := [some (vR 4 0 0), some (vR 0 0 g), some x, some y]) (st2 := [vI (q.1 4 0 0 2)]) (m1 := q) rfl ?_
    exact an_ret rfl rfl rfl rfl rfl
  refine an_b 3 (pc2 := if m.1 4 0 0 1 ≤ 0 then 16 else 7) (L2 := [some (vR 4 0 0), some (vR 0 0 g), none, none]) (st2 := []) (m1 := m) rfl ?_
  refine re_if1 (c := m.1 4 0 0 1 ≤ 0) (a := (5 : Int32)) (b := m.1 4 0 0 1 - 1) (fun x => (17, [some (vR 4 0 0), some (vR 0 0 g), none, none], [vI x], m)) (fun h v9 m9 K => ?_) (fun h v9 m9 K => ?_) _ _ ?_
  · refine an_b 1 (pc2 := 17) (L2 := [some (vR 4 0 0), some (vR 0 0 g), none, none]) (st2 := [vI 5]) (m1 := m) rfl ?_
    exact K
  · refine an_b 5 (pc2 := 17) (L2 := [some (vR 4 0 0), some (vR 0 0 g), none, none]) (st2 := [vI (m.1 4 0 0 1 - 1)]) (m1 := m) rfl ?_
    exact K
  show An MX0_restore 17 [some (vR 4 0 0), some (vR 0 0 g), none, none] [vI (rs_l m)] m _ _
  refine an_b 3 (pc2 := 20) (L2 := [some (vR 4 0 0), some (vR 0 0 g), some (vI (rs_l m)), none]) (st2 := [vI (rs_l m), vR 4 0 0]) (m1 := m) rfl ?_
  have out : (rs_l m < 0 ∨ 6 ≤ rs_l m) → An MX0_restore 20 [some (vR 4 0 0), some (vR 0 0 g), some (vI (rs_l m)), none] [vI (rs_l m), vR 4 0 0] m (.inl (some (vI (m.1 4 0 0 2)))) m := by
    intro h
    refine an_call (r_slot_out m _ h) rfl rfl rfl rfl ?_
    refine an_b 3 (pc2 := 59) (L2 := [some (vR 4 0 0), some (vR 0 0 g), some (vI (rs_l m)), some vN]) (st2 := []) (m1 := m) rfl ?_
    exact last [] m _ _
  unfold w_X0_restore
  by_cases h1 : rs_l m < 0
  · rw [if_pos h1]; exact out (Or.inl h1)
  rw [if_neg h1]
  by_cases h2 : 6 ≤ rs_l m
  · rw [if_pos h2]; exact out (Or.inr h2)
  rw [if_neg h2]
  refine an_call (r_slot_in m _ h1 h2) rfl rfl rfl rfl ?_
  refine an_b 8 (pc2 := if m.1 4 0 0 2 ≤ 0 then 59 else 39) (L2 := [some (vR 4 0 0), some (vR 0 0 g), some (vI (rs_l m)), some (vR 0 0 (2 + (rs_l m).toNatClampNeg))]) (st2 := []) (m1 := m) rfl ?_
  by_cases h3 : m.1 4 0 0 2 ≤ 0
  · rw [if_pos h3, if_pos h3]; exact last [] m _ _
  rw [if_neg h3, if_neg h3]
  refine an_b 2 (pc2 := 41) (L2 := [some (vR 4 0 0), some (vR 0 0 g), some (vI (rs_l m)), some (vR 0 0 (2 + (rs_l m).toNatClampNeg))]) (st2 := [vR 0 0 (2 + (rs_l m).toNatClampNeg), vR 0 0 g]) (m1 := m) rfl ?_
  refine an_call (r_X2_copyFrom m _ _) rfl rfl rfl rfl ?_
  refine an_b 3 (pc2 := 49) (L2 := [some (vR 4 0 0), some (vR 0 0 g), some (vI (rs_l m)), some (vR 0 0 (2 + (rs_l m).toNatClampNeg))]) (st2 := []) (m1 := rs_1 m g) rfl ?_
  refine an_b 6 (pc2 := 59) (L2 := [some (vR 4 0 0), some (vR 0 0 g), some (vI (rs_l m)), some (vR 0 0 (2 + (rs_l m).toNatClampNeg))]) (st2 := []) (m1 := rs_2 (rs_1 m g)) rfl ?_
  exact last [] _ _ _
/-- the letter's mode -/
def v_X4_modeOf (m : PM) (a1 : Int32) : Int32 := if a1 = 104 then 3 else if a1 = 112 then 1 else if a1 = 115 then 2 else 0
theorem r_X4_modeOf (m : PM) (a1 : Int32) : Rn MX4_modeOf [vI a1] m (some (vI (v_X4_modeOf m a1))) m := by
  refine rn_of [some (vI a1)] rfl ?_
  unfold v_X4_modeOf
  refine an_b 1 (pc2 := 1) (L2 := [some (vI a1)]) (st2 := [vI a1]) (m1 := m) rfl ?_
  by_cases h1 : a1 = 104
  · subst h1
    refine an_b 2 (pc2 := 41) (L2 := [some (vI 104)]) (st2 := [vI 3]) (m1 := m) rfl ?_
    exact an_ret rfl rfl rfl rfl rfl
  rw [if_neg h1]
  by_cases h2 : a1 = 112
  · subst h2
    refine an_b 2 (pc2 := 37) (L2 := [some (vI 112)]) (st2 := [vI 1]) (m1 := m) rfl ?_
    exact an_ret rfl rfl rfl rfl rfl
  rw [if_neg h2]
  by_cases h3 : a1 = 115
  · subst h3
    refine an_b 2 (pc2 := 39) (L2 := [some (vI 115)]) (st2 := [vI 2]) (m1 := m) rfl ?_
    exact an_ret rfl rfl rfl rfl rfl
  rw [if_neg h3]
  have g1 : ¬ a1.toInt = 104 := fun q => h1 (Int32.toInt_inj.mp q)
  have g2 : ¬ a1.toInt = 112 := fun q => h2 (Int32.toInt_inj.mp q)
  have g3 : ¬ a1.toInt = 115 := fun q => h3 (Int32.toInt_inj.mp q)
  refine an_b 1 (pc2 := 42) (L2 := [some (vI a1)]) (st2 := []) (m1 := m) ?_ ?_
  · have e : sm_one MX4_modeOf 1 [some (vI a1)] [vI a1] m = some (42, [some (vI a1)], [], m) := by
      have e2 : sm_d (.lookupswitch 41 #[(104, 39), (112, 35), (115, 37)]) 35 1 [some (vI a1)] [vI a1] m = some (42, [some (vI a1)], [], m) := by
        unfold sm_d
        dsimp only
        have eo : Op.lookupswitch.offset #[((104 : Int), (39 : Int)), (112, 35), (115, 37)].toList 41 a1.toInt = 41 := by
          simp [Op.lookupswitch.offset, g1, g2, g3, Ne.symm g1, Ne.symm g2, Ne.symm g3]
        rw [if_pos (by decide), eo]
        rfl
      have e3 : sm_ins 4 (.lookupswitch 41 #[(104, 39), (112, 35), (115, 37)]) 35 1 [some (vI a1)] [vI a1] m = some (42, [some (vI a1)], [], m) := by
        unfold sm_ins
        rw [show sm_a (.lookupswitch 41 #[(104, 39), (112, 35), (115, 37)]) 35 1 [some (vI a1)] [vI a1] m = none from rfl, show sm_b (.lookupswitch 41 #[(104, 39), (112, 35), (115, 37)]) 35 1 [some (vI a1)] [vI a1] m = none from rfl, show sm_c (.lookupswitch 41 #[(104, 39), (112, 35), (115, 37)]) 35 1 [some (vI a1)] [vI a1] m = none from rfl, e2]
      exact e3
    show (match sm_one MX4_modeOf 1 [some (vI a1)] [vI a1] m with | some s2 => sm_many 0 MX4_modeOf s2 | none => none) = _
    rw [e]
    rfl
  · refine an_b 1 (pc2 := 43) (L2 := [some (vI a1)]) (st2 := [vI 0]) (m1 := m) rfl ?_
    exact an_ret rfl rfl rfl rfl rfl
/-- how far it is from i to B -/
def bdist (B i : Int32) : Nat := (B.toInt - i.toInt).toNat
theorem bd_add {B i : Int32} {j : Nat} (h : j ≤ bdist B i) : (i + nI j).toInt = i.toInt + j ∨ (j = 0 ∧ (i + nI j).toInt = i.toInt) := by
  unfold bdist at h
  have h1 : B.toInt < 2 ^ 31 := Int32.toInt_lt B
  have h2 : -2 ^ 31 ≤ i.toInt := Int32.le_toInt i
  have h3 : i.toInt < 2 ^ 31 := Int32.toInt_lt i
  by_cases hj : j = 0
  · subst hj
    right
    exact ⟨rfl, by rw [nI_0, Int32.add_zero]⟩
  · left
    have hn : (nI j).toInt = ((j : Int)).bmod (2 ^ 32) := by
      unfold nI
      rw [Int32.toInt_ofNat']
    rw [Int32.toInt_add, hn, Int.add_bmod_bmod]
    rw [Int.bmod_eq_of_le]
    · omega
    · omega
theorem bd_lt {B i : Int32} {j : Nat} (h : j < bdist B i) : ¬ B ≤ i + nI j := by
  rw [Int32.le_iff_toInt_le]
  have h2 := bd_add (Nat.le_of_lt h)
  unfold bdist at h
  omega
theorem bd_ge {B i : Int32} {j : Nat} (h : j = bdist B i) : B ≤ i + nI j := by
  rw [Int32.le_iff_toInt_le]
  have h2 := bd_add (Nat.le_of_eq h)
  unfold bdist at h
  omega
