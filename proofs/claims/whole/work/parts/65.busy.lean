/-! how many wait for a hand -/
section
variable {M m : PM} {g : Nat}
theorem waiters_R (hR : RG M m g) {h : Nat} (hh : h < 8) (s0 : Int32 × Int32) : v_X2_waitersFor M g (nI h) = lp (b_X5_busiestNow_2 m h s0) 8 0 0 := by
  unfold v_X2_waitersFor
  refine lp_cong 8 (fun j s hj => ?_) 8 0 0 rfl
  unfold b_X2_waitersFor_1 b_X5_busiestNow_2
  rw [reach_R hR hj, bit_q (show h < 32 by omega)]
  by_cases c : bit (v_X5_waitsOver m (nI j)) h = true
  · rw [if_neg (fun q => (has_bit M _ (show h < 32 by omega)).mp q c), if_pos c]
  · rw [if_pos ((has_bit M _ (show h < 32 by omega)).mpr c), if_neg c, Int32.add_zero]
end
