/-! held rows -/
theorem low_nn {x : Int32} (h : low x) : x ≤ 0 ↔ x = 0 := by
  constructor
  · intro q
    have hm : x.toBitVec.msb = false := by
      rw [BitVec.msb_eq_getLsbD_last]
      cases c : x.toBitVec.getLsbD (32 - 1)
      · rfl
      · have := h 31 (by omega) c
        omega
    rw [Int32.le_iff_toInt_le] at q
    have z : (0 : Int32).toInt = 0 := rfl
    rw [z] at q
    have n : 0 ≤ x.toBitVec.toInt := BitVec.toInt_nonneg_of_msb_false hm
    have e : x.toInt = x.toBitVec.toInt := rfl
    apply Int32.toInt_inj.mp
    rw [z]
    omega
  · intro q
    rw [q]
    decide
section
variable {M m : PM} {g : Nat}
theorem low_holders (m : PM) (r : Nat) : low (v_X5_holders m r) := by
  refine lp_inv (b_X5_holders_1 m r) 8 (fun _ s => low s) (fun j s hj hs => ?_) 8 0 0 rfl (fun i hi q => by rw [bit_0] at q; exact absurd q (by decide))
  unfold b_X5_holders_1
  refine low_or hs ?_
  split
  · intro i hi q
    rw [bit_0] at q; exact absurd q (by decide)
  · intro i hi q
    rw [bit_1 hi (by omega), decide_eq_true_eq] at q
    omega
theorem heldRows_R (hR : RG M m g) : v_X2_heldRows M g = v_X5_heldRows m := by
  unfold v_X2_heldRows v_X5_heldRows
  refine lp_cong 12 (fun j s hj => ?_) 12 0 0 rfl
  unfold b_X2_heldRows_1 b_X5_heldRows_1
  rw [holders_R hR hj]
  by_cases c : v_X5_holders m j = 0
  · rw [if_pos c, if_pos ((low_nn (low_holders m j)).mpr c), Int32.add_zero]
  · rw [if_neg c, if_neg (show ¬ _ from fun q => c ((low_nn (low_holders m j)).mp q))]
end
