/-! a queue's length -/
section
variable {M m : PM} {g : Nat}
theorem queueLength_R (hR : RG M m g) {r : Nat} (hr : r < 12) : v_X2_queueLength M g (nI r) = nI (qn m r) ∧ zz m (125 + r) = nI (qn m r) := by
  obtain ⟨n, hn, en, kn⟩ := hR.2.1 r hr
  have eq : qn m r = n := by unfold qn; rw [en]; exact nI_clamp (by omega)
  rw [eq]
  refine ⟨?_, en⟩
  have k := lp_inv (b_X2_queueLength_1 M g (nI r)) 8 (fun j s => s = nI (cntP (fun h => decide (cl M g 1 h = nI r)) j)) (fun j s hj hs => ?_) 8 0 0 rfl rfl
  · have c : cntP (fun h => decide (cl M g 1 h = nI r)) 8 = n := by
      refine cntP_n 8 n _ (fun p => (zz m (137 + 8 * r + p)).toNatClampNeg) (fun p hp => ?_) (fun p q hp hq e => ?_) (fun h hh hP => ?_)
      · obtain ⟨h, hh, f1, f2, _⟩ := kn p hp
        have e : (zz m (137 + 8 * r + p)).toNatClampNeg = h := by rw [f1]; exact nI_clamp (by omega)
        show (zz m (137 + 8 * r + p)).toNatClampNeg < 8 ∧ _
        rw [e]
        exact ⟨hh, decide_eq_true f2⟩
      · obtain ⟨h, hh, f1, f2, f3, _⟩ := kn p hp
        obtain ⟨h2, hh2, g1, g2, g3, _⟩ := kn q hq
        have e : (zz m (137 + 8 * r + p)).toNatClampNeg = (zz m (137 + 8 * r + q)).toNatClampNeg := e
        rw [f1, g1, nI_clamp (by omega), nI_clamp (by omega)] at e
        subst e
        rw [f3] at g3
        exact (nI_eq (by omega) (by omega)).mp g3
      · have hP : cl M g 1 h = nI r := of_decide_eq_true hP
        rcases hR.2.2 h hh with ⟨a, _⟩ | ⟨r2, n2, p2, h1, h2, h3, h4, h5, h6, h7⟩
        · rw [hP] at a; exact absurd a (nI_nm1 (by omega))
        · rw [hP] at h5
          obtain rfl := (nI_eq (by omega) (by omega)).mp h5
          rw [en] at h2
          obtain rfl := (nI_eq (by omega) (by omega)).mp h2
          refine ⟨p2, h4, ?_⟩
          show (zz m (137 + 8 * r + p2)).toNatClampNeg = h
          rw [h7]
          exact nI_clamp (by omega)
    unfold v_X2_queueLength
    rw [k, c]
  · unfold b_X2_queueLength_1 cntP
    rw [at_in (k := 1) (show j < 8 from hj), hs]
    by_cases c : cl M g 1 j = nI r
    · rw [if_neg (show ¬ ¬ cl M g 1 j = nI r from fun q => q c), nI_1, if_pos (decide_eq_true c)]
    · rw [if_pos c, if_neg (show ¬ decide (cl M g 1 j = nI r) = true from fun q => c (of_decide_eq_true q))]
      rfl
end
