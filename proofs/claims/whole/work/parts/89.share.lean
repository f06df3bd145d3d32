/-! shares -/
section
/-- a share of some of a number -/
theorem fx_gsh {g a : Nat} (h : g ≤ a) (ha : a < 2 ^ 31) (h0 : ¬ nI a = 0) : gsh (FP.ddiv (FP.i2d (nI g)) (FP.i2d (nI a))) := by
  have eg := nI_toInt (n := g) (by omega)
  have ea := nI_toInt (n := a) (by omega)
  rcases fx_ddiv (nI g) (nI a) h0 with ⟨_, s, hs, e⟩ | ⟨s, c, q, e, h1, h2, h3, h4, h5, h6⟩
  · left
    rw [e, hs (fun k => by have := Int32.lt_iff_toInt_lt.1 k; rw [ea] at this; have e0 : (0 : Int32).toInt = 0 := rfl; omega)]
    rfl
  · right
    have hs := h6 (by omega) (by omega)
    subst hs
    rw [e, fx_ofNat h1 h2 (by omega) (by omega)]
    have := h5 (by rw [eg, ea]; omega)
    unfold fxE
    rw [show false.toNat = 0 from rfl]
    omega
theorem gsh_nan {x : UInt64} (h : gsh x) : v_isNaN x = 0 := by
  unfold v_isNaN
  by_cases h0 : x = 0
  · subst h0
    decide
  · obtain ⟨c, q, e, h1, h2, h3, h4, _⟩ := gsh_E h h0
    have e2 : FP.dcmp x x = some (compare (FP.Core.signed false (FP.Core.inUnits c q (min q q))) (FP.Core.signed false (FP.Core.inUnits c q (min q q)))) := by
      show FP.Core.order (FP.Core.decode FP.Core.b64 x.toNat) (FP.Core.decode FP.Core.b64 x.toNat) = _
      rw [e, fx_ofNat h1 h2 (by omega) (by omega), fx_dec h1 h2 (by omega) (by omega)]
      rfl
    rw [e2, show ∀ z : Int, compare z z = Ordering.eq from fun z => by simp [compare, compareOfLessAndEq]]
    rfl
theorem gsh_dtl {x : UInt64} (h : gsh x) : v_dtl x = x.toInt64 := by
  unfold v_dtl
  rw [if_neg (fun q => q (gsh_nan h))]
/-- sums of what was granted and of what was asked -/
theorem gsh_sums {c : Nat → Nat → Int32} {K : Nat} (H : CN c K) : ∃ g a : Nat, lp (fun j s => s + c 8 j) 8 0 (0 : Int32) = nI g ∧ lp (fun j s => s + c 9 j) 8 0 (0 : Int32) = nI a ∧ g ≤ a ∧ a ≤ 8 * K := by
  have k := lp_rel (fun j s => s + c 8 j) (fun j s => s + c 9 j) 8 (fun j x t => ∃ g a : Nat, x = nI g ∧ t = nI a ∧ g ≤ a ∧ a ≤ j * K) (fun j x t hj hs => by
    obtain ⟨g, a, rfl, rfl, h1, h2⟩ := hs
    obtain ⟨a2, g2, e1, e2, h3, h4⟩ := H j hj
    refine ⟨g + g2, a + a2, ?_, ?_, by omega, ?_⟩
    · show nI g + c 8 j = _
      rw [e2, nI_add]
    · show nI a + c 9 j = _
      rw [e1, nI_add]
    · rw [Nat.add_mul]
      omega) 8 0 0 0 rfl ⟨0, 0, rfl, rfl, by omega, by omega⟩
  exact k
theorem gsh_R {M m : PM} {s len K : Nat} (H : WR M m s len K) (hK : K ≤ 100000000) : gsh (v_X2_shareGranted M 0) := by
  obtain ⟨g, a, e1, e2, h1, h2⟩ := gsh_sums H.1.2.2
  have e1 : v_X1_sum M 8 0 = nI g := by
    rw [← e1]
    rfl
  have e2 : v_X1_sum M 9 0 = nI a := by
    rw [← e2]
    rfl
  unfold v_X2_shareGranted
  rw [e1, e2]
  by_cases k : nI a = 0
  · rw [if_neg (fun q => q k)]
    exact gsh_one
  · rw [if_pos k]
    exact fx_gsh h1 (by omega) k
end
