/-! the bits of a share -/
section
/-- the bits of a share, taken apart -/
theorem gsh_E {x : UInt64} (h : gsh x) (h0 : ¬ x = 0) : ∃ c q, x = UInt64.ofNat (fxE false c q) ∧ 4503599627370496 ≤ c ∧ c < 9007199254740992 ∧ -1074 ≤ q ∧ q ≤ -52 ∧ x.toNat = (q + 1075).toNat * 4503599627370496 + (c - 4503599627370496) := by
  rcases h with h | ⟨h1, h2⟩
  · exact absurd h h0
  · have key : fxE false (4503599627370496 + x.toNat % 4503599627370496) ((x.toNat / 4503599627370496 : Nat) - 1075) = x.toNat := by
      unfold fxE
      rw [show false.toNat = 0 from rfl]
      omega
    refine ⟨4503599627370496 + x.toNat % 4503599627370496, (x.toNat / 4503599627370496 : Nat) - 1075, ?_, by omega, by omega, by omega, by omega, by omega⟩
    rw [key, UInt64.ofNat_toNat]
end
/-! doubles: the bits of a share, by doubling -/
section
theorem fx_one : FP.Core.decode FP.Core.b64 FP.dconst1.toNat = .fin false 4503599627370496 (-52) := by decide
theorem fx_nil : FP.Core.decode FP.Core.b64 FP.dconst0.toNat = .fin false 0 (-1074) := by decide
theorem fx_two : FP.Core.decode FP.Core.b64 (4611686018427387904 : UInt64).toNat = .fin false 4503599627370496 (-51) := by decide
theorem fx_big : FP.Core.decode FP.Core.b64 (4841369599423283200 : UInt64).toNat = .fin false 4503599627370496 0 := by decide
variable {c : Nat} {q : Int}
theorem fx_decN (h1 : 4503599627370496 ≤ c) (h2 : c < 9007199254740992) (q1 : -1074 ≤ q) (q2 : q ≤ 971) : FP.Core.decode FP.Core.b64 (UInt64.ofNat (fxE false c q)).toNat = .fin false c q := by
  rw [fx_ofNat h1 h2 q1 q2, fx_dec h1 h2 q1 q2]
theorem fx_gt0 (h1 : 4503599627370496 ≤ c) (h2 : c < 9007199254740992) (q1 : -1074 ≤ q) (q2 : q ≤ 971) : FP.dcmp (UInt64.ofNat (fxE false c q)) FP.dconst0 = some .gt := by
  show FP.Core.order (FP.Core.decode FP.Core.b64 _) (FP.Core.decode FP.Core.b64 _) = _
  rw [fx_decN h1 h2 q1 q2, fx_nil]
  show some (compare (FP.Core.signed false (FP.Core.inUnits c q (min q (-1074)))) (FP.Core.signed false (FP.Core.inUnits 0 (-1074) (min q (-1074))))) = _
  congr 1
  unfold FP.Core.signed FP.Core.inUnits
  rw [Int.compare_eq_gt]
  simp only [Bool.false_eq_true, if_false, Nat.zero_mul]
  have : 0 < c * 2 ^ (q - min q (-1074)).toNat := Nat.mul_pos (by omega) (Nat.two_pow_pos _)
  omega
theorem fx_lt1 (h1 : 4503599627370496 ≤ c) (h2 : c < 9007199254740992) (q1 : -1074 ≤ q) (q2 : q ≤ -53) : FP.dcmp (UInt64.ofNat (fxE false c q)) FP.dconst1 = some .lt := by
  show FP.Core.order (FP.Core.decode FP.Core.b64 _) (FP.Core.decode FP.Core.b64 _) = _
  rw [fx_decN h1 h2 q1 (by omega), fx_one]
  show some (compare (FP.Core.signed false (FP.Core.inUnits c q (min q (-52)))) (FP.Core.signed false (FP.Core.inUnits 4503599627370496 (-52) (min q (-52))))) = _
  congr 1
  unfold FP.Core.signed FP.Core.inUnits
  rw [Int.compare_eq_lt]
  simp only [Bool.false_eq_true, if_false]
  rw [show min q (-52) = q by omega, show (q - q).toNat = 0 by omega, Nat.pow_zero, Nat.mul_one]
  have : 2 ^ 1 ≤ 2 ^ (-52 - q).toNat := Nat.pow_le_pow_right (by omega) (by omega)
  have := Nat.mul_le_mul_left 4503599627370496 this
  omega
theorem fx_ge1 (h1 : 4503599627370496 ≤ c) (h2 : c < 9007199254740992) : ¬ FP.dcmp (UInt64.ofNat (fxE false c (-52))) FP.dconst1 = some .lt ∧ ¬ FP.dcmp (UInt64.ofNat (fxE false c (-52))) FP.dconst1 = none := by
  have e : FP.dcmp (UInt64.ofNat (fxE false c (-52))) FP.dconst1 = some (compare (FP.Core.signed false (FP.Core.inUnits c (-52) (min (-52) (-52)))) (FP.Core.signed false (FP.Core.inUnits 4503599627370496 (-52) (min (-52) (-52))))) := by
    show FP.Core.order (FP.Core.decode FP.Core.b64 _) (FP.Core.decode FP.Core.b64 _) = _
    rw [fx_decN h1 h2 (by omega) (by omega), fx_one]
    rfl
  rw [e]
  refine ⟨fun k => ?_, fun k => by cases k⟩
  have k := Option.some.inj k
  rw [Int.compare_eq_lt] at k
  unfold FP.Core.signed FP.Core.inUnits at k
  simp only [Bool.false_eq_true, if_false] at k
  rw [show min (-52 : Int) (-52) = -52 by omega, show ((-52 : Int) - (-52)).toNat = 0 by omega, Nat.pow_zero, Nat.mul_one, Nat.mul_one] at k
  omega
/-- times a power of two -/
theorem fx_mul {y : UInt64} {r : Int} (hy : FP.Core.decode FP.Core.b64 y.toNat = .fin false 4503599627370496 r) (h1 : 4503599627370496 ≤ c) (h2 : c < 9007199254740992) (q1 : -1074 ≤ q) (q2 : q ≤ 0) (r1 : -52 ≤ r) (r2 : r ≤ 0) : FP.dmul (UInt64.ofNat (fxE false c q)) y = UInt64.ofNat (fxE false c (q + r + 52)) := by
  show UInt64.ofNat (FP.Core.encode FP.Core.b64 (FP.Core.round FP.Core.b64 (FP.Core.exactProduct (FP.Core.decode FP.Core.b64 _) (FP.Core.decode FP.Core.b64 _)))) = _
  rw [fx_decN h1 h2 q1 (by omega), hy]
  show UInt64.ofNat (FP.Core.encode FP.Core.b64 (FP.Core.roundRatio FP.Core.b64 false (c * 4503599627370496) 1 (q + r))) = _
  rw [fx_round (a := 52) (b := 0) (c := c) (q := q + r + 52) (Or.inr rfl) (by rw [Nat.pow_zero, Nat.mul_one]) h1 h2 (by omega) (by omega) (by omega), fx_enc h1]
theorem fx_sub (h1 : 4503599627370496 ≤ c) (h2 : c < 9007199254740992) : FP.dsub (UInt64.ofNat (fxE false c (-52))) FP.dconst1 = if c = 4503599627370496 then 0 else UInt64.ofNat (fxE false ((c - 4503599627370496) * 2 ^ (52 - (c - 4503599627370496).log2)) (-52 - (52 - (c - 4503599627370496).log2 : Nat))) := by
  show UInt64.ofNat (FP.Core.encode FP.Core.b64 (FP.Core.round FP.Core.b64 (FP.Core.exactSum (FP.Core.decode FP.Core.b64 _) (FP.Core.negate (FP.Core.decode FP.Core.b64 _))))) = _
  rw [fx_decN h1 h2 (by omega) (by omega), fx_one]
  show UInt64.ofNat (FP.Core.encode FP.Core.b64 (FP.Core.round FP.Core.b64 (.fin (FP.Core.sumSign false true (FP.Core.sumUnits false c (-52) true 4503599627370496 (-52) (min (-52) (-52)))) (FP.Core.sumUnits false c (-52) true 4503599627370496 (-52) (min (-52) (-52))).natAbs (min (-52) (-52))))) = _
  have e : FP.Core.sumUnits false c (-52) true 4503599627370496 (-52) (min (-52) (-52)) = ((c - 4503599627370496 : Nat) : Int) := by
    unfold FP.Core.sumUnits FP.Core.signed FP.Core.inUnits
    rw [show min (-52 : Int) (-52) = -52 by omega, show ((-52 : Int) - (-52)).toNat = 0 by omega, Nat.pow_zero, Nat.mul_one, Nat.mul_one]
    simp only [Bool.false_eq_true, if_false, if_true]
    omega
  rw [e, show min (-52 : Int) (-52) = -52 by omega, Int.natAbs_natCast]
  show UInt64.ofNat (FP.Core.encode FP.Core.b64 (FP.Core.roundRatio FP.Core.b64 _ (c - 4503599627370496) 1 (-52))) = _
  by_cases k : c = 4503599627370496
  · subst k
    decide
  · rw [if_neg k]
    have hs : FP.Core.sumSign false true ((c - 4503599627370496 : Nat) : Int) = false := by
      unfold FP.Core.sumSign
      rw [if_neg (by omega)]
      exact decide_eq_false (by omega)
    rw [hs]
    have hl := (Nat.log2_lt (n := c - 4503599627370496) (k := 52) (by omega)).2 (by omega)
    have a1 := Nat.log2_self_le (n := c - 4503599627370496) (by omega)
    have a2 := Nat.lt_log2_self (n := c - 4503599627370496)
    have d1 := Nat.mul_le_mul_right (2 ^ (52 - (c - 4503599627370496).log2)) a1
    rw [← Nat.pow_add, show (c - 4503599627370496).log2 + (52 - (c - 4503599627370496).log2) = 52 by omega] at d1
    have d2 := Nat.mul_lt_mul_of_pos_right a2 (Nat.two_pow_pos (52 - (c - 4503599627370496).log2))
    rw [← Nat.pow_add, show (c - 4503599627370496).log2 + 1 + (52 - (c - 4503599627370496).log2) = 53 by omega] at d2
    rw [fx_round (a := 0) (b := 52 - (c - 4503599627370496).log2) (c := (c - 4503599627370496) * 2 ^ (52 - (c - 4503599627370496).log2)) (q := -52 - (52 - (c - 4503599627370496).log2 : Nat)) (Or.inl rfl) (by rw [Nat.pow_zero, Nat.mul_one]) d1 d2 (by omega) (by omega) (by omega), fx_enc d1]
theorem fx_toL {c2 T l : Nat} (d1 : 4503599627370496 ≤ c2) (d2 : c2 < 9007199254740992) (hl : l ≤ 52) (e4 : c2 / 2 ^ l = T) (hT : T < 4503599627370496) : FP.d2l (UInt64.ofNat (fxE false c2 (-52 - (l : Int) + 0 + 52))) = Int64.ofNat T := by
  show FP.Core.toL (FP.Core.decode FP.Core.b64 _) = _
  rw [fx_decN d1 d2 (by omega) (by omega)]
  have e : FP.Core.toInt (-2 ^ 63) (2 ^ 63 - 1) (.fin false c2 (-52 - (l : Int) + 0 + 52)) = (T : Int) := by
    unfold FP.Core.toInt FP.Core.truncate FP.Core.signed
    dsimp only
    rw [show (-52 - (l : Int) + 0 + 52).toNat = 0 by omega, show (-(-52 - (l : Int) + 0 + 52)).toNat = l by omega, Nat.pow_zero, Nat.mul_one, e4]
    simp only [Bool.false_eq_true, if_false]
    omega
  unfold FP.Core.toL
  rw [e]
  rfl
/-- the digits behind the leading one -/
def FRAC (c : Nat) : Prop := FP.dsub (UInt64.ofNat (fxE false c (-52))) FP.dconst1 &&& 0x7fffffffffffffff ≤ 0x7ff0000000000000 ∧ FP.dmul (FP.dsub (UInt64.ofNat (fxE false c (-52))) FP.dconst1) (4841369599423283200 : UInt64) &&& 0x7fffffffffffffff ≤ 0x7ff0000000000000 ∧ FP.d2l (FP.dmul (FP.dsub (UInt64.ofNat (fxE false c (-52))) FP.dconst1) (4841369599423283200 : UInt64)) = Int64.ofNat (c - 4503599627370496)
theorem fx_frac0 : FRAC 4503599627370496 := by
  unfold FRAC
  rw [fx_sub (by omega) (by omega), if_pos rfl, Nat.sub_self]
  exact ⟨by decide, by decide, by decide +kernel⟩
theorem fx_frac (h1 : 4503599627370496 ≤ c) (h2 : c < 9007199254740992) : FRAC c := by
  by_cases k : c = 4503599627370496
  · rw [k]
    exact fx_frac0
  · unfold FRAC
    rw [fx_sub h1 h2, if_neg k]
    have hl := (Nat.log2_lt (n := c - 4503599627370496) (k := 52) (by omega)).2 (by omega)
    have a1 := Nat.log2_self_le (n := c - 4503599627370496) (by omega)
    have a2 := Nat.lt_log2_self (n := c - 4503599627370496)
    have d1 := Nat.mul_le_mul_right (2 ^ (52 - (c - 4503599627370496).log2)) a1
    rw [← Nat.pow_add, show (c - 4503599627370496).log2 + (52 - (c - 4503599627370496).log2) = 52 by omega] at d1
    have d2 := Nat.mul_lt_mul_of_pos_right a2 (Nat.two_pow_pos (52 - (c - 4503599627370496).log2))
    rw [← Nat.pow_add, show (c - 4503599627370496).log2 + 1 + (52 - (c - 4503599627370496).log2) = 53 by omega] at d2
    have e4 : (c - 4503599627370496) * 2 ^ (52 - (c - 4503599627370496).log2) / 2 ^ (52 - (c - 4503599627370496).log2) = c - 4503599627370496 := Nat.mul_div_cancel _ (Nat.two_pow_pos _)
    rw [fx_mul fx_big d1 d2 (by omega) (by omega) (by omega) (by omega)]
    exact ⟨fx_maskE d1 d2 (by omega) (by omega), fx_maskE d1 d2 (by omega) (by omega), fx_toL d1 d2 (by omega) e4 (by omega)⟩
theorem fx_join {E T : Nat} (hE : E < 1024) (hT : T < 4503599627370496) : (Int64.ofNat E <<< ((52 : Int32).toInt64 &&& 63)) + Int64.ofNat T = (UInt64.ofNat (E * 4503599627370496 + T)).toInt64 := by
  refine Int64.toBitVec_inj.1 ?_
  have e : ((Int64.ofNat E <<< ((52 : Int32).toInt64 &&& 63)) + Int64.ofNat T).toBitVec = BitVec.ofNat 64 E <<< 52 + BitVec.ofNat 64 T := rfl
  rw [e]
  show _ = BitVec.ofNat 64 (E * 4503599627370496 + T)
  refine BitVec.eq_of_toNat_eq ?_
  rw [BitVec.toNat_add, BitVec.toNat_shiftLeft, BitVec.toNat_ofNat, BitVec.toNat_ofNat, BitVec.toNat_ofNat, Nat.shiftLeft_eq]
  omega
end
/-! the bits of a share, run -/
section
theorem one_dmul {M : MI} {pc : Nat} {L : List (Option PV)} {r : List PV} {m m2 : PM} {x y : UInt64} {v : OC} (h : asc (mT M) pc = some (.dmul, 1)) (hn : FP.dmul x y &&& 0x7fffffffffffffff ≤ 0x7ff0000000000000) (kk : An M (pc + 1) L (vD (FP.dmul x y) :: r) m v m2) : An M pc L (vD y :: vD x :: r) m v m2 := by
  refine an_b 1 (pc2 := pc + 1) (L2 := L) (st2 := vD (FP.dmul x y) :: r) (m1 := m) ?_ kk
  have e : sm_one M pc L (vD y :: vD x :: r) m = some (pc + 1, L, vD (FP.dmul x y) :: r, m) := by
    unfold sm_one
    rw [h]
    have e2 : sm_c .dmul 1 pc L (vD y :: vD x :: r) m = some (pc + 1, L, vD (FP.dmul x y) :: r, m) := by
      unfold sm_c
      simp only [if_pos hn]
    show sm_ins _ _ _ _ _ _ _ = _
    unfold sm_ins
    rw [show sm_a .dmul 1 pc L (vD y :: vD x :: r) m = none from rfl, show sm_b .dmul 1 pc L (vD y :: vD x :: r) m = none from rfl, e2]
  show (match sm_one M pc L (vD y :: vD x :: r) m with | some s2 => sm_many 0 M s2 | none => none) = _
  rw [e]
  rfl
theorem one_dsub {M : MI} {pc : Nat} {L : List (Option PV)} {r : List PV} {m m2 : PM} {x y : UInt64} {v : OC} (h : asc (mT M) pc = some (.dsub, 1)) (hn : FP.dsub x y &&& 0x7fffffffffffffff ≤ 0x7ff0000000000000) (kk : An M (pc + 1) L (vD (FP.dsub x y) :: r) m v m2) : An M pc L (vD y :: vD x :: r) m v m2 := by
  refine an_b 1 (pc2 := pc + 1) (L2 := L) (st2 := vD (FP.dsub x y) :: r) (m1 := m) ?_ kk
  have e : sm_one M pc L (vD y :: vD x :: r) m = some (pc + 1, L, vD (FP.dsub x y) :: r, m) := by
    unfold sm_one
    rw [h]
    have e2 : sm_c .dsub 1 pc L (vD y :: vD x :: r) m = some (pc + 1, L, vD (FP.dsub x y) :: r, m) := by
      unfold sm_c
      simp only [if_pos hn]
    show sm_ins _ _ _ _ _ _ _ = _
    unfold sm_ins
    rw [show sm_a .dsub 1 pc L (vD y :: vD x :: r) m = none from rfl, show sm_b .dsub 1 pc L (vD y :: vD x :: r) m = none from rfl, e2]
  show (match sm_one M pc L (vD y :: vD x :: r) m with | some s2 => sm_many 0 M s2 | none => none) = _
  rw [e]
  rfl
theorem r_X4_bitsOfShare (m : PM) (x : UInt64) (hx : gsh x) : Rn MX4_bitsOfShare [vD x] m (some (vL (v_X4_bitsOfShare m x))) m := by
  refine rn_of [some (vD x), none, none, none, none, none, none, none] rfl ?_
  unfold v_X4_bitsOfShare
  refine an_b 4 (pc2 := if 0 < Op.cmpValue (FP.dcmp x FP.dconst0) .l then 8 else 6) (L2 := [some (vD x), none, none, none, none, none, none, none]) (st2 := []) (m1 := m) rfl ?_
  by_cases h0 : x = 0
  · subst h0
    refine an_f (by decide) ?_
    refine an_b 1 (pc2 := 7) (L2 := [some (vD 0), none, none, none, none, none, none, none]) (st2 := [vL 0]) (m1 := m) rfl ?_
    exact an_ret rfl rfl rfl rfl rfl
  obtain ⟨c, q, e, h1, h2, q1, q2, e2⟩ := gsh_E hx h0
  have hr : x.toInt64 = (Int64.ofNat (q + 1075).toNat <<< ((52 : Int32).toInt64 &&& 63)) + Int64.ofNat (c - 4503599627370496) := by
    rw [fx_join (by omega) (by omega), ← e2, UInt64.ofNat_toNat]
  have hg : FP.dcmp x FP.dconst0 = some .gt := by rw [e]; exact fx_gt0 h1 h2 q1 (by omega)
  refine an_t (by rw [hg]; decide) ?_
  refine an_b 6 (pc2 := 18) (L2 := [some (vD x), none, some (vD x), none, some (vL 1023), none, some (vI (nI 0)), none]) (st2 := []) (m1 := m) rfl ?_
  rw [hr]
  generalize hE : (q + 1075).toNat = E
  suffices K : ∀ (n j : Nat) (p : Int), p + n = -52 → -1074 ≤ p → j + n ≤ 1022 → An MX4_bitsOfShare 18 [some (vD x), none, some (vD (UInt64.ofNat (fxE false c p))), none, some (vL (Int64.ofNat (E + n))), none, some (vI (nI j)), none] [] m (.inl (some (vL ((Int64.ofNat E <<< ((52 : Int32).toInt64 &&& 63)) + Int64.ofNat (c - 4503599627370496))))) m by
    have k := K (-52 - q).toNat 0 q (by omega) q1 (by omega)
    rw [← e, show E + (-52 - q).toNat = 1023 by omega] at k
    exact k
  have last : ∀ j : Nat, An MX4_bitsOfShare 50 [some (vD x), none, some (vD (UInt64.ofNat (fxE false c (-52)))), none, some (vL (Int64.ofNat E)), none, some (vI (nI j)), none] [] m (.inl (some (vL ((Int64.ofNat E <<< ((52 : Int32).toInt64 &&& 63)) + Int64.ofNat (c - 4503599627370496))))) m := by
    intro j
    obtain ⟨f1, f2, f3⟩ := fx_frac h1 h2
    generalize UInt64.ofNat (fxE false c (-52)) = y at *
    refine an_b 2 (pc2 := 52) (L2 := [some (vD x), none, some (vD y), none, some (vL (Int64.ofNat E)), none, some (vI (nI j)), none]) (st2 := [vD FP.dconst1, vD y]) (m1 := m) rfl ?_
    refine one_dsub rfl f1 ?_
    generalize FP.dsub y FP.dconst1 = y2 at *
    refine an_b 1 (pc2 := 56) (L2 := [some (vD x), none, some (vD y), none, some (vL (Int64.ofNat E)), none, some (vI (nI j)), none]) (st2 := [vD 4841369599423283200, vD y2]) (m1 := m) rfl ?_
    refine one_dmul rfl f2 ?_
    rw [← f3]
    refine an_b 7 (pc2 := 68) (L2 := [some (vD x), none, some (vD y), none, some (vL (Int64.ofNat E)), none, some (vL (FP.d2l (FP.dmul y2 4841369599423283200))), none]) (st2 := [vL ((Int64.ofNat E <<< ((52 : Int32).toInt64 &&& 63)) + FP.d2l (FP.dmul y2 4841369599423283200))]) (m1 := m) rfl ?_
    exact an_ret rfl rfl rfl rfl rfl
  intro n
  induction n with
  | zero =>
    intro j p hp hp2 hj
    have hp : p = -52 := by omega
    subst hp
    have hc : ¬ Op.cmpValue (FP.dcmp (UInt64.ofNat (fxE false c (-52))) FP.dconst1) .g < 0 := by
      obtain ⟨k1, k2⟩ := fx_ge1 h1 h2
      revert k1 k2
      generalize FP.dcmp (UInt64.ofNat (fxE false c (-52))) FP.dconst1 = d
      intro k1 k2
      cases d with
      | none => exact absurd rfl k2
      | some d =>
        cases d
        · exact absurd rfl k1
        · decide
        · decide
    rw [Nat.add_zero]
    generalize hy : UInt64.ofNat (fxE false c (-52)) = y at *
    refine an_b 3 (pc2 := if (1022 : Int32) ≤ nI j then 50 else 26) (L2 := [some (vD x), none, some (vD y), none, some (vL (Int64.ofNat E)), none, some (vI (nI j)), none]) (st2 := []) (m1 := m) rfl ?_
    by_cases k : (1022 : Int32) ≤ nI j
    · rw [if_pos k]
      exact last j
    · rw [if_neg k]
      refine an_b 4 (pc2 := if 0 ≤ Op.cmpValue (FP.dcmp y FP.dconst1) .g then 50 else 32) (L2 := [some (vD x), none, some (vD y), none, some (vL (Int64.ofNat E)), none, some (vI (nI j)), none]) (st2 := []) (m1 := m) rfl ?_
      exact an_t (Int32.not_lt.1 hc) (last j)
  | succ n ih =>
    intro j p hp hp2 hj
    have hl : FP.dcmp (UInt64.ofNat (fxE false c p)) FP.dconst1 = some .lt := fx_lt1 h1 h2 hp2 (by omega)
    have hm := fx_mul (c := c) (q := p) fx_two h1 h2 hp2 (by omega) (by omega) (by omega)
    rw [show p + -51 + 52 = p + 1 by omega] at hm
    have hk : FP.dmul (UInt64.ofNat (fxE false c p)) 4611686018427387904 &&& 0x7fffffffffffffff ≤ 0x7ff0000000000000 := by
      rw [hm]
      exact fx_maskE h1 h2 (by omega) (by omega)
    have hn := ih (j + 1) (p + 1) (by omega) (by omega) (by omega)
    rw [← hm] at hn
    generalize UInt64.ofNat (fxE false c p) = y at *
    refine an_b 3 (pc2 := if (1022 : Int32) ≤ nI j then 50 else 26) (L2 := [some (vD x), none, some (vD y), none, some (vL (Int64.ofNat (E + (n + 1)))), none, some (vI (nI j)), none]) (st2 := []) (m1 := m) rfl ?_
    refine an_f (nI_ge (a := j) (b := 1022) (by omega) (by omega)) ?_
    refine an_b 4 (pc2 := if 0 ≤ Op.cmpValue (FP.dcmp y FP.dconst1) .g then 50 else 32) (L2 := [some (vD x), none, some (vD y), none, some (vL (Int64.ofNat (E + (n + 1)))), none, some (vI (nI j)), none]) (st2 := []) (m1 := m) rfl ?_
    refine an_f (by rw [hl]; decide) ?_
    refine an_b 2 (pc2 := 36) (L2 := [some (vD x), none, some (vD y), none, some (vL (Int64.ofNat (E + (n + 1)))), none, some (vI (nI j)), none]) (st2 := [vD 4611686018427387904, vD y]) (m1 := m) rfl ?_
    refine one_dmul rfl hk ?_
    refine an_b 7 (pc2 := 18) (L2 := [some (vD x), none, some (vD (FP.dmul y 4611686018427387904)), none, some (vL (Int64.ofNat (E + (n + 1)) - 1)), none, some (vI (nI j + 1)), none]) (st2 := []) (m1 := m) rfl ?_
    rw [nI_1, show Int64.ofNat (E + (n + 1)) - 1 = Int64.ofNat (E + n) from by rw [← Nat.add_assoc, Int64.ofNat_add]; exact Int64.add_sub_cancel _ _]
    exact hn
end
