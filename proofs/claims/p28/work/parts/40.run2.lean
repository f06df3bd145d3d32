/-! the parts read are requests; run -/
theorem nI_le2 {x : Int32} {a b : Nat} (ha : a < 2 ^ 31) (hb : b < 2 ^ 31) (h : ¬ x < nI a) (h2 : ¬ nI b < x) : ∃ j, a ≤ j ∧ j ≤ b ∧ x = nI j := by
  rw [Int32.lt_iff_toInt_lt, nI_toInt ha] at h
  rw [Int32.lt_iff_toInt_lt, nI_toInt hb] at h2
  refine ⟨x.toInt.toNat, by omega, by omega, ?_⟩
  apply Int32.toInt_inj.mp
  rw [nI_toInt (by omega)]
  omega
theorem nI_sub2 {j a : Nat} (h : a ≤ j) : nI j - nI a = nI (j - a) := by
  have e : nI j = nI (j - a) + nI a := by rw [nI_add]; congr 1; omega
  rw [e]
  exact Int32.add_sub_cancel _ _
theorem zz_save (m : PM) (s : Nat) : zz (w_X5_save m s) = zz m := by
  funext i
  exact sets_z _ _ _ _
