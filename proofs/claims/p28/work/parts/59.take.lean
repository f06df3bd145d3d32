/-! takers -/
section
variable {M m : PM} {g : Nat}
theorem placeIn_0 (hR : RG M m g) {h r : Nat} (hh : h < 8) (hr : r < 12) : v_X5_placeIn m (nI h) r = -1 ↔ ¬ cl M g 1 h = nI r := by
  rw [placeIn_R hR.2 hh hr]
  by_cases c : cl M g 1 h = nI r
  · rw [if_pos c]
    exact ⟨fun q => absurd q (rp_nn hR.2 hh c hr), fun q => absurd c q⟩
  · rw [if_neg c]
    exact ⟨fun _ => c, fun _ => rfl⟩
/-- the mode of the request of a hand that waits for row r -/
theorem mode_R (hR : RG M m g) {h r : Nat} (hh : h < 8) (hr : r < 12) (c : cl M g 1 h = nI r) : v_X5_modeAt m r (plcN m (nI h) r) = cl M g 2 h ∧ MO (cl M g 2 h) := by
  rcases hR.2.2 h hh with ⟨a, _⟩ | ⟨r2, n, p, h1, h2, h3, h4, h5, h6, h7⟩
  · rw [c] at a; exact absurd a (nI_nm1 (by omega))
  · rw [c] at h5
    obtain rfl := (nI_eq (by omega) (by omega)).mp h5
    have eP : plcN m (nI h) r = p := by unfold plcN; rw [placeIn_R hR.2 hh hr, if_pos c, h6]; exact nI_clamp (by omega)
    rw [eP]
    obtain ⟨n2, hn2, en2, kn⟩ := hR.2.1 r hr
    rw [h2] at en2
    obtain rfl := (nI_eq (by omega) (by omega)).mp en2
    obtain ⟨h8, hh8, f1, f2, f3, f4, f5⟩ := kn p h4
    rw [h7] at f1
    obtain rfl := (nI_eq (by omega) (by omega)).mp f1
    exact ⟨f4.symm, f5⟩
theorem canHandOn_R (hR : RG M m g) {h r o : Nat} (hh : h < 8) (hr : r < 12) (ho : o < 8) : v_X2_canPassOver M g (nI h) (nI r) (nI o) = v_X5_canHandOn m h r (nI o) := by
  unfold v_X2_canPassOver v_X5_canHandOn
  rw [canRelease_R hR hh hr, at_in (k := 1) (show o < 8 from ho), at_in (k := 2) (show o < 8 from ho)]
  by_cases c1 : v_X5_canRelease m h r = 0
  · rw [if_pos c1, if_pos c1]
  · rw [if_neg c1, if_neg c1]
    by_cases c2 : nI h = nI o
    · rw [if_pos c2, if_pos c2]
    · rw [if_neg c2, if_neg c2]
      by_cases c3 : cl M g 1 o = nI r
      · rw [if_neg (show ¬ ¬ cl M g 1 o = nI r from fun q => q c3), if_pos (show ¬ v_X5_placeIn m (nI o) r = -1 from fun q => (placeIn_0 hR ho hr).mp q c3)]
        obtain ⟨e, hm⟩ := mode_R hR ho hr c3
        rw [e]
        by_cases c4 : v_X2_clashes M g (nI r) (cl M g 2 o) (nI h) (nI o) = 0
        · rw [if_neg (show ¬ ¬ _ from fun q => q c4), if_neg (show ¬ ¬ _ from fun q => q ((clash_R2 hR hr hh ho hm).mp c4))]
        · rw [if_pos c4, if_pos (show ¬ _ from fun q => c4 ((clash_R2 hR hr hh ho hm).mpr q))]
      · rw [if_pos c3, if_neg (show ¬ ¬ _ from fun q => q ((placeIn_0 hR ho hr).mpr c3))]
theorem takers_R (hR : RG M m g) {h r : Nat} (hh : h < 8) (hr : r < 12) : v_X2_takersOf M g (nI h) (nI r) = v_X5_takersNow m h r := by
  unfold v_X2_takersOf v_X5_takersNow
  refine lp_cong 8 (fun j s hj => ?_) 8 0 0 rfl
  unfold b_X2_takersOf_1 b_X5_takersNow_1
  rw [canHandOn_R hR hh hr hj]
  split
  · exact Int32.or_zero.symm
  · rfl
end
