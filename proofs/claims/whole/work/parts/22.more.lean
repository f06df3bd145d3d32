/-! doubles: what is wanted of them -/
theorem one_ddiv {M : MI} {pc : Nat} {L : List (Option PV)} {r : List PV} {m m2 : PM} {x y : UInt64} {v : OC} (h : asc (mT M) pc = some (.ddiv, 1)) (hn : FP.ddiv x y &&& 0x7fffffffffffffff ≤ 0x7ff0000000000000) (kk : An M (pc + 1) L (vD (FP.ddiv x y) :: r) m v m2) : An M pc L (vD y :: vD x :: r) m v m2 := by
  refine an_b 1 (pc2 := pc + 1) (L2 := L) (st2 := vD (FP.ddiv x y) :: r) (m1 := m) ?_ kk
  have e : sm_one M pc L (vD y :: vD x :: r) m = some (pc + 1, L, vD (FP.ddiv x y) :: r, m) := by
    unfold sm_one
    rw [h]
    have e2 : sm_c .ddiv 1 pc L (vD y :: vD x :: r) m = some (pc + 1, L, vD (FP.ddiv x y) :: r, m) := by
      unfold sm_c
      simp only [if_pos hn]
    show sm_ins _ _ _ _ _ _ _ = _
    unfold sm_ins
    rw [show sm_a .ddiv 1 pc L (vD y :: vD x :: r) m = none from rfl, show sm_b .ddiv 1 pc L (vD y :: vD x :: r) m = none from rfl, e2]
  show (match sm_one M pc L (vD y :: vD x :: r) m with | some s2 => sm_many 0 M s2 | none => none) = _
  rw [e]
  rfl
def v_X2_shareGranted (m : PM) (g : Nat) : UInt64 := if ¬ (v_X1_sum m 9 g) = 0 then FP.ddiv (FP.i2d (v_X1_sum m 8 g)) (FP.i2d (v_X1_sum m 9 g)) else FP.dconst1
theorem r_X2_shareGranted (m : PM) (g : Nat) : Rn MX2_shareGranted [vR 0 0 g] m (some (vD (v_X2_shareGranted m g))) m := by
  refine rn_of [some (vR 0 0 g), none] rfl ?_
  unfold v_X2_shareGranted
  refine an_b 2 (pc2 := 4) (L2 := [some (vR 0 0 g), none]) (st2 := [vR 1 9 g]) (m1 := m) rfl ?_
  refine an_call (r_X1_sum m 9 g) rfl rfl rfl rfl ?_
  refine an_b 3 (pc2 := if ¬ (v_X1_sum m 9 g) = 0 then 16 else 12) (L2 := [some (vR 0 0 g), some (vI (v_X1_sum m 9 g))]) (st2 := []) (m1 := m) rfl ?_
  refine an_ifd (fun h => ?_) (fun h => ?_)
  · refine an_b 2 (pc2 := 20) (L2 := [some (vR 0 0 g), some (vI (v_X1_sum m 9 g))]) (st2 := [vR 1 8 g]) (m1 := m) rfl ?_
    refine an_call (r_X1_sum m 8 g) rfl rfl rfl rfl ?_
    refine an_b 3 (pc2 := 26) (L2 := [some (vR 0 0 g), some (vI (v_X1_sum m 9 g))]) (st2 := [vD (FP.i2d (v_X1_sum m 9 g)), vD (FP.i2d (v_X1_sum m 8 g))]) (m1 := m) rfl ?_
    refine one_ddiv rfl (fp_div_ok _ _ h) ?_
    exact an_ret rfl rfl rfl rfl rfl
  · refine an_b 2 (pc2 := 27) (L2 := [some (vR 0 0 g), some (vI (v_X1_sum m 9 g))]) (st2 := [vD FP.dconst1]) (m1 := m) rfl ?_
    exact an_ret rfl rfl rfl rfl rfl
/-- how many digits stand from i on, of n characters -/
def dgc (m : PM) : Nat → Int32 → Nat
  | 0, _ => 0
  | n + 1, i => if v_X3_isDigit m (v_X1_at m 11 0 i) = 0 then 0 else dgc m n (i + 1) + 1
def v_X3_deedFrom (m : PM) (a1 : Int32) : Int32 := a1 + 1 + nI (dgc m (bdist (m.1 6 0 0 1) (a1 + 1)) (a1 + 1))
theorem bd_next {B i : Int32} {n : Nat} (h : bdist B i = n + 1) : bdist B (i + 1) = n := by
  have h2 := bd_add (B := B) (i := i) (j := 1) (by omega)
  unfold bdist at h ⊢
  have e : i + 1 = i + nI 1 := rfl
  rw [e]
  omega
theorem r_X3_deedFrom (m : PM) (a1 : Int32) : Rn MX3_deedFrom [vR 6 0 0, vI a1] m (some (vI (v_X3_deedFrom m a1))) m := by
  refine rn_of [some (vR 6 0 0), some (vI a1), none] rfl ?_
  unfold v_X3_deedFrom
  refine an_b 4 (pc2 := 4) (L2 := [some (vR 6 0 0), some (vI a1), some (vI (a1 + 1))]) (st2 := []) (m1 := m) rfl ?_
  suffices K : ∀ (n : Nat) (i : Int32), bdist (m.1 6 0 0 1) i = n → An MX3_deedFrom 4 [some (vR 6 0 0), some (vI a1), some (vI i)] [] m (.inl (some (vI (i + nI (dgc m n i))))) m from K _ _ rfl
  have last : ∀ i : Int32, An MX3_deedFrom 32 [some (vR 6 0 0), some (vI a1), some (vI i)] [] m (.inl (some (vI (i + nI 0)))) m := by
    intro i
    rw [nI_0, Int32.add_zero]
    refine an_b 1 (pc2 := 33) (L2 := [some (vR 6 0 0), some (vI a1), some (vI i)]) (st2 := [vI i]) (m1 := m) rfl ?_
    exact an_ret rfl rfl rfl rfl rfl
  intro n
  induction n with
  | zero =>
    intro i h
    refine an_b 4 (pc2 := if m.1 6 0 0 1 ≤ i then 32 else 12) (L2 := [some (vR 6 0 0), some (vI a1), some (vI i)]) (st2 := []) (m1 := m) rfl ?_
    have h2 := bd_ge (B := m.1 6 0 0 1) (i := i) (j := 0) h.symm
    rw [nI_0, Int32.add_zero] at h2
    exact an_t h2 (last i)
  | succ n ih =>
    intro i h
    refine an_b 4 (pc2 := if m.1 6 0 0 1 ≤ i then 32 else 12) (L2 := [some (vR 6 0 0), some (vI a1), some (vI i)]) (st2 := []) (m1 := m) rfl ?_
    have h2 := bd_lt (B := m.1 6 0 0 1) (i := i) (j := 0) (by omega)
    rw [nI_0, Int32.add_zero] at h2
    refine an_f h2 ?_
    refine an_b 3 (pc2 := 17) (L2 := [some (vR 6 0 0), some (vI a1), some (vI i)]) (st2 := [vI i, vR 1 11 0]) (m1 := m) rfl ?_
    refine an_call (r_X1_at m 11 0 i) rfl rfl rfl rfl ?_
    refine an_call (r_X3_isDigit m (v_X1_at m 11 0 i)) rfl rfl rfl rfl ?_
    refine an_b 1 (pc2 := if v_X3_isDigit m (v_X1_at m 11 0 i) = 0 then 32 else 26) (L2 := [some (vR 6 0 0), some (vI a1), some (vI i)]) (st2 := []) (m1 := m) rfl ?_
    show An _ _ _ _ _ (.inl (some (vI (i + nI (if v_X3_isDigit m (v_X1_at m 11 0 i) = 0 then 0 else dgc m n (i + 1) + 1))))) _
    by_cases h3 : v_X3_isDigit m (v_X1_at m 11 0 i) = 0
    · rw [if_pos h3, if_pos h3]; exact last i
    · rw [if_neg h3, if_neg h3]
      refine an_b 2 (pc2 := 4) (L2 := [some (vR 6 0 0), some (vI a1), some (vI (i + 1))]) (st2 := []) (m1 := m) rfl ?_
      have e : i + nI (dgc m n (i + 1) + 1) = i + 1 + nI (dgc m n (i + 1)) := by
        rw [← nI_1, Int32.add_assoc, Int32.add_comm 1]
      rw [e]
      exact ih (i + 1) (bd_next h)
/-- a share: zero, or a number with a leading digit, at most one -/
def gsh (x : UInt64) : Prop := x = 0 ∨ (4503599627370496 ≤ x.toNat ∧ x.toNat ≤ 4607182418800017408)
def v_X4_bitsOfShare (_ : PM) (x : UInt64) : Int64 := x.toInt64
theorem gsh_one : gsh FP.dconst1 := Or.inr ⟨by decide, by decide⟩
