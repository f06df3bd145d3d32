/-! the class's memory and the model's row z: locks and queues -/
/-- the numbers k of state g -/
def cl (M : PM) (g k : Nat) (i : Nat) : Int32 := M.1 2 k g i
theorem at_in {M : PM} {k g i : Nat} (hi : i < nlen k) : v_X1_at M k g (nI i) = cl M g k i := by
  have hl := nlen_lt k
  unfold v_X1_at
  rw [if_neg (nI_pos (by omega)), if_neg (nI_ge hi hl), nI_clamp (by omega)]
  rfl
theorem put_in {M : PM} {k g i : Nat} {x : Int32} (hi : i < nlen k) : w_X1_put M k g (nI i) x = wI M 2 k g i x := by
  have hl := nlen_lt k
  unfold w_X1_put
  rw [if_neg (nI_pos (by omega)), if_neg (nI_ge hi hl), nI_clamp (by omega)]
theorem cell_in (M : PM) (h r : Nat) : v_X4_cell M (nI h) (nI r) = nI (h * 12 + r) := by
  unfold v_X4_cell
  rw [← nI_add]
  congr 1
  have e : (12 : Int32) = nI 12 := rfl
  rw [e, Int32.mul_comm, Nat.mul_comm]
  exact pk_mul 12 h
theorem lk_in {M : PM} {g h r : Nat} (hh : h < 8) (hr : r < 12) : v_X1_at M 0 g (v_X4_cell M (nI h) (nI r)) = cl M g 0 (h * 12 + r) := by
  rw [cell_in]
  exact at_in (show h * 12 + r < 96 by omega)
/-- a mode -/
def MO (x : Int32) : Prop := x = 1 ∨ x = 2 ∨ x = 3
/-- locks lk, and each hand's row rr, mode rm and place rp in a queue, against z -/
def RK (lk z : Nat → Int32) : Prop := ∀ h r, h < 8 → r < 12 → lk (h * 12 + r) = z (5 + 12 * h + r) ∧ (z (5 + 12 * h + r) = 0 ∨ MO (z (5 + 12 * h + r)))
def RQ (rr rm rp z : Nat → Int32) : Prop := (∀ r, r < 12 → ∃ n, n ≤ 8 ∧ z (125 + r) = nI n ∧ ∀ p, p < n → ∃ h, h < 8 ∧ z (137 + 8 * r + p) = nI h ∧ rr h = nI r ∧ rp h = nI p ∧ rm h = z (233 + 8 * r + p) ∧ MO (rm h)) ∧ ∀ h, h < 8 → (rr h = -1 ∧ rm h = 0) ∨ ∃ r n p, r < 12 ∧ z (125 + r) = nI n ∧ n ≤ 8 ∧ p < n ∧ rr h = nI r ∧ rp h = nI p ∧ z (137 + 8 * r + p) = nI h
theorem rq_qa {rr rm rp z : Nat → Int32} (h : RQ rr rm rp z) : QA z := by
  refine qa_i fun r hr => ?_
  obtain ⟨n, hn, e, k⟩ := h.1 r hr
  refine ⟨n, e, hn, fun p hp => ?_⟩
  obtain ⟨h0, a, b, _⟩ := k p hp
  exact ⟨h0, a, b⟩
theorem placeIn_R {m : PM} {rr rm rp : Nat → Int32} (hR : RQ rr rm rp (zz m)) {h r : Nat} (hh : h < 8) (hr : r < 12) : v_X5_placeIn m (nI h) r = if rr h = nI r then rp h else -1 := by
  obtain ⟨n, hn, en, kn⟩ := hR.1 r hr
  have eN : (m.1 8 0 0 (125 + r)).toNatClampNeg = n := by
    rw [show m.1 8 0 0 (125 + r) = nI n from en]
    exact nI_clamp (by omega)
  unfold v_X5_placeIn
  rw [eN]
  by_cases c : rr h = nI r
  · rw [if_pos c]
    obtain ⟨p0, hp0, ep0, ew0⟩ : ∃ p0, p0 < n ∧ rp h = nI p0 ∧ zz m (137 + 8 * r + p0) = nI h := by
      rcases hR.2 h hh with ⟨a, _⟩ | ⟨r2, n2, p2, h1, h2, h3, h4, h5, h6, h7⟩
      · rw [c] at a; exact absurd a (nI_nm1 (by omega))
      · rw [c] at h5
        obtain rfl := (nI_eq (by omega) (by omega)).mp h5
        rw [en] at h2
        obtain rfl := (nI_eq (by omega) (by omega)).mp h2
        exact ⟨p2, h4, h6, h7⟩
    have k := lp_inv (b_X5_placeIn_1 m (nI h) r) n (fun j s => s = if p0 < j then nI p0 else -1) (fun j s hj hs => ?_) n 0 (-1) (Nat.add_zero _) (by rw [if_neg (by omega)])
    · rw [k, if_pos hp0, ep0]
    · unfold b_X5_placeIn_1 v_X5_whoAt
      by_cases cj : j = p0
      · subst cj
        rw [if_neg (fun q => q ew0), if_pos (by omega)]
      · have hw : ¬ m.1 8 0 0 (137 + 8 * r + j) = nI h := by
          intro e
          obtain ⟨h1, a1, a2, _, a4, _⟩ := kn j hj
          rw [show zz m (137 + 8 * r + j) = nI h from e] at a2
          obtain rfl := (nI_eq (by omega) (by omega)).mp a2
          rw [ep0] at a4
          exact cj ((nI_eq (by omega) (by omega)).mp a4).symm
        rw [if_pos hw, hs]
        by_cases cl : p0 < j
        · rw [if_pos cl, if_pos (by omega)]
        · rw [if_neg cl, if_neg (by omega)]
  · rw [if_neg c]
    refine lp_inv (b_X5_placeIn_1 m (nI h) r) n (fun j s => s = -1) (fun j s hj hs => ?_) n 0 (-1) (Nat.add_zero _) rfl
    unfold b_X5_placeIn_1 v_X5_whoAt
    have hw : ¬ m.1 8 0 0 (137 + 8 * r + j) = nI h := by
      intro e
      obtain ⟨h1, a1, a2, a3, _⟩ := kn j hj
      rw [show zz m (137 + 8 * r + j) = nI h from e] at a2
      obtain rfl := (nI_eq (by omega) (by omega)).mp a2
      exact c a3
    rw [if_pos hw, hs]
theorem rp_nn {rr rm rp z : Nat → Int32} (hR : RQ rr rm rp z) {h r : Nat} (hh : h < 8) (c : rr h = nI r) (hr : r < 12) : ¬ rp h = -1 := by
  rcases hR.2 h hh with ⟨a, _⟩ | ⟨r2, n2, p2, h1, h2, h3, h4, h5, h6, h7⟩
  · rw [c] at a; exact absurd a (nI_nm1 (by omega))
  · rw [h6]; exact nI_nm1 (by omega)
theorem rowOf_R {m : PM} {rr rm rp : Nat → Int32} (hR : RQ rr rm rp (zz m)) {h : Nat} (hh : h < 8) : v_X5_rowOf m (nI h) = rr h := by
  unfold v_X5_rowOf
  rcases hR.2 h hh with ⟨a, _⟩ | ⟨r0, n2, p2, h1, h2, h3, h4, h5, h6, h7⟩
  · rw [a]
    refine lp_inv (b_X5_rowOf_1 m (nI h)) 12 (fun j s => s = -1) (fun j s hj hs => ?_) 12 0 (-1) rfl rfl
    unfold b_X5_rowOf_1
    have e : v_X5_placeIn m (nI h) j = -1 := by
      rw [placeIn_R hR hh hj, if_neg]
      rw [a]
      exact fun q => nI_nm1 (show j < 2 ^ 31 by omega) q.symm
    rw [if_neg (fun q => q e), hs]
  · have k := lp_inv (b_X5_rowOf_1 m (nI h)) 12 (fun j s => s = if r0 < j then nI r0 else -1) (fun j s hj hs => ?_) 12 0 (-1) rfl (by rw [if_neg (by omega)])
    · rw [k, if_pos h1, h5]
    · unfold b_X5_rowOf_1
      rw [placeIn_R hR hh hj]
      by_cases cj : j = r0
      · subst cj
        rw [if_pos h5, if_pos (rp_nn hR hh h5 hj), if_pos (by omega)]
      · have hw : ¬ rr h = nI j := by
          rw [h5]
          intro e
          exact cj ((nI_eq (by omega) (by omega)).mp e).symm
        rw [if_neg hw, if_neg (fun q => q rfl), hs]
        by_cases cl : r0 < j
        · rw [if_pos cl, if_pos (by omega)]
        · rw [if_neg cl, if_neg (by omega)]
theorem waits_R {M m : PM} {g : Nat} {rm rp : Nat → Int32} (hR : RQ (cl M g 1) rm rp (zz m)) {h : Nat} (hh : h < 8) : v_X5_waits m (nI h) = v_X2_isWaiting M g (nI h) := by
  unfold v_X5_waits v_X2_isWaiting
  rw [rowOf_R hR hh, at_in (k := 1) (show h < 8 from hh)]

