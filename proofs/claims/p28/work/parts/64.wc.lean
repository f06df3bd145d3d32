/-! a row's getters -/
section
variable {M m : PM} {g : Nat}
theorem cool_R (hR : RG M m g) {r : Nat} (hr : r < 12) : v_X2_holders M g (nI r) = 0 ↔ v_X5_holders m r = 0 := by rw [holders_R hR hr]
theorem first_R (hR : RG M m g) {r : Nat} (hr : r < 12) : v_X2_handAt M g (nI r) 0 = if ¬ zz m (125 + r) = 0 then v_X5_whoAt m r 0 else -1 := by
  have k := handAt_R hR hr (p := 0) (by omega)
  have q := (queueLength_R hR hr).2
  have hn : qn m r ≤ 8 := (rq_qa hR.2 r hr).2.1
  rw [show (0 : Int32) = nI 0 from rfl, k]
  by_cases c : qn m r = 0
  · rw [c] at q ⊢
    rw [if_neg (Nat.lt_irrefl 0), q, if_neg (fun e => e rfl)]
  · rw [if_pos (by omega), q, if_pos]
    · rfl
    · exact nI_ne0 (by omega) (by omega)
end
