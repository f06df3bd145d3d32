/-! handNow, counted -/
def v_X5_handNow (m : PM) (h w : Nat) : Int32 := if nI w = nI 0 then v_X5_locksOf m h else if nI w = nI 1 then v_X5_workOf m h else if nI w = nI 2 then v_X5_rowOf m (nI h) else if nI w = nI 3 then (if ¬ v_X5_rowOf m (nI h) = (-1 : Int32) then v_X5_modeAt m (rowN m (nI h)) (plcN m (nI h) (rowN m (nI h))) else 0) else if nI w = nI 4 then v_X5_waitsNow m (nI h) else m.1 8 0 0 (329 + 8 * (w - 5) + h)
theorem r_X5_handNow (m : PM) (h w : Nat) (hh : h < 8) (hw : w < 9) (hQ : QL m) : Rn MX5_handNow [vR 7 0 0, vI (nI h), vI (nI w)] m (some (vI (v_X5_handNow m h w))) m := by
  refine rn_of [some (vR 7 0 0), some (vI (nI h)), some (vI (nI w)), none] rfl ?_
  unfold v_X5_handNow
  refine an_b 2 (pc2 := 2) (L2 := [some (vR 7 0 0), some (vI (nI h)), some (vI (nI w)), none]) (st2 := [vI (nI h), vR 7 0 0]) (m1 := m) rfl ?_
  refine an_call (r_X5_rowOf m (nI h) hQ) rfl rfl rfl rfl ?_
  refine an_b 2 (pc2 := 7) (L2 := [some (vR 7 0 0), some (vI (nI h)), some (vI (nI w)), some (vI (v_X5_rowOf m (nI h)))]) (st2 := [vI (nI w)]) (m1 := m) rfl ?_
  refine an_tsw [40, 46, 52, 54, 75] 81 rfl rfl rfl (by decide) ?_
  refine an_ifi (c := nI w = nI 0) (fun h1 => ?_) (fun h1 => ?_)
  · refine an_b 2 (pc2 := 42) (L2 := [some (vR 7 0 0), some (vI (nI h)), some (vI (nI w)), some (vI (v_X5_rowOf m (nI h)))]) (st2 := [vI (nI h), vR 7 0 0]) (m1 := m) rfl ?_
    refine an_call (r_X5_locksOf m h hh) rfl rfl rfl rfl ?_
    exact an_ret rfl rfl rfl rfl rfl
  · refine an_ifi (c := nI w = nI 1) (fun h2 => ?_) (fun h2 => ?_)
    · refine an_b 2 (pc2 := 48) (L2 := [some (vR 7 0 0), some (vI (nI h)), some (vI (nI w)), some (vI (v_X5_rowOf m (nI h)))]) (st2 := [vI (nI h), vR 7 0 0]) (m1 := m) rfl ?_
      refine an_call (r_X5_workOf m h hh) rfl rfl rfl rfl ?_
      exact an_ret rfl rfl rfl rfl rfl
    · refine an_ifi (c := nI w = nI 2) (fun h3 => ?_) (fun h3 => ?_)
      · refine an_b 1 (pc2 := 53) (L2 := [some (vR 7 0 0), some (vI (nI h)), some (vI (nI w)), some (vI (v_X5_rowOf m (nI h)))]) (st2 := [vI (v_X5_rowOf m (nI h))]) (m1 := m) rfl ?_
        exact an_ret rfl rfl rfl rfl rfl
      · refine an_ifi (c := nI w = nI 3) (fun h4 => ?_) (fun h4 => ?_)
        · refine an_b 3 (pc2 := if ¬ v_X5_rowOf m (nI h) = (-1 : Int32) then 63 else 59) (L2 := [some (vR 7 0 0), some (vI (nI h)), some (vI (nI w)), some (vI (v_X5_rowOf m (nI h)))]) (st2 := []) (m1 := m) rfl ?_
          refine an_ifi (c := ¬ v_X5_rowOf m (nI h) = (-1 : Int32)) (fun c => ?_) (fun c => ?_)
          · obtain ⟨e1, hr, hp0⟩ := row_N c
            obtain ⟨e2, hp, _, _⟩ := plc_N hQ hr hp0
            rw [e1]
            generalize rowN m (nI h) = r at *
            refine an_b 5 (pc2 := 68) (L2 := [some (vR 7 0 0), some (vI (nI h)), some (vI (nI w)), some (vI (nI r))]) (st2 := [vI (nI r), vI (nI h), vR 7 0 0, vI (nI r), vR 7 0 0]) (m1 := m) rfl ?_
            refine an_call (r_X5_placeIn m (nI h) r hr hQ) rfl rfl rfl rfl ?_
            rw [e2]
            refine an_call (r_X5_modeAt m r (plcN m (nI h) r) hr hp) rfl rfl rfl rfl ?_
            exact an_ret rfl rfl rfl rfl rfl
          · refine an_b 2 (pc2 := 74) (L2 := [some (vR 7 0 0), some (vI (nI h)), some (vI (nI w)), some (vI (v_X5_rowOf m (nI h)))]) (st2 := [vI 0]) (m1 := m) rfl ?_
            exact an_ret rfl rfl rfl rfl rfl
        · refine an_ifi (c := nI w = nI 4) (fun h5 => ?_) (fun h5 => ?_)
          · refine an_b 2 (pc2 := 77) (L2 := [some (vR 7 0 0), some (vI (nI h)), some (vI (nI w)), some (vI (v_X5_rowOf m (nI h)))]) (st2 := [vI (nI h), vR 7 0 0]) (m1 := m) rfl ?_
            refine an_call (r_X5_waitsNow m (nI h) hQ) rfl rfl rfl rfl ?_
            exact an_ret rfl rfl rfl rfl rfl
          · rw [nI_eq (by omega) (by omega)] at h1 h2 h3 h4 h5
            have e : nI w - 5 = nI (w - 5) := nI_sub2 (a := 5) (by omega)
            refine an_b 11 (pc2 := 97) (L2 := [some (vR 7 0 0), some (vI (nI h)), some (vI (nI w)), some (vI (v_X5_rowOf m (nI h)))]) (st2 := [vI ((329 : Int32) + (8 : Int32) * (nI w - 5) + nI h), vR 8 0 0]) (m1 := m) rfl ?_
            rw [e]
            refine an_ald (329 + 8 * (w - 5) + h) 361 rfl rfl (by simp only [ix_lit, pk_mul, nI_add]) (by omega) (by omega) ?_
            exact an_ret rfl rfl rfl rfl rfl
def v_X5_counted (m : PM) (w : Nat) : Int32 := if nI w = nI 0 then v_X5_allLocks m else if nI w = nI 1 then v_X5_sumFrom m 125 12 else if nI w = nI 2 then m.1 8 0 0 3 else if nI w = nI 3 then m.1 8 0 0 4 else if nI w = nI 4 then v_X5_sumFrom m 337 8 else if nI w = nI 5 then v_X5_sumFrom m 113 12 else if nI w = nI 6 then v_X5_sumFrom m 345 8 else if nI w = nI 7 then v_X5_sumFrom m 353 8 else if nI w = nI 8 then v_X5_heldRows m else sts m
theorem r_X5_counted (m : PM) (w : Nat) (hw : w < 10) : Rn MX5_counted [vR 7 0 0, vI (nI w)] m (some (vI (v_X5_counted m w))) m := by
  refine rn_of [some (vR 7 0 0), some (vI (nI w))] rfl ?_
  unfold v_X5_counted
  refine an_b 1 (pc2 := 1) (L2 := [some (vR 7 0 0), some (vI (nI w))]) (st2 := [vI (nI w)]) (m1 := m) rfl ?_
  refine an_tsw [52, 57, 66, 66, 77, 87, 96, 106, 116] 121 rfl rfl rfl (by decide) ?_
  refine an_ifi (c := nI w = nI 0) (fun h1 => ?_) (fun h1 => ?_)
  · refine an_b 1 (pc2 := 53) (L2 := [some (vR 7 0 0), some (vI (nI w))]) (st2 := [vR 7 0 0]) (m1 := m) rfl ?_
    refine an_call (r_X5_allLocks m) rfl rfl rfl rfl ?_
    exact an_ret rfl rfl rfl rfl rfl
  refine an_ifi (c := nI w = nI 1) (fun h1 => ?_) (fun h1 => ?_)
  · refine an_b 3 (pc2 := 62) (L2 := [some (vR 7 0 0), some (vI (nI w))]) (st2 := [vI (nI 12), vI (nI 125), vR 7 0 0]) (m1 := m) rfl ?_
    refine an_call (r_X5_sumFrom m 125 12 (by decide) (by decide)) rfl rfl rfl rfl ?_
    exact an_ret rfl rfl rfl rfl rfl
  refine an_ifi (c := nI w = nI 2) (fun h1 => ?_) (fun h1 => ?_)
  · refine an_b 7 (pc2 := 75) (L2 := [some (vR 7 0 0), some (vI (nI w))]) (st2 := [vI ((3 : Int32) + nI w - 2), vR 8 0 0]) (m1 := m) rfl ?_
    refine an_ald 3 361 rfl rfl (by rw [h1]; rfl) (by omega) (by omega) ?_
    exact an_ret rfl rfl rfl rfl rfl
  refine an_ifi (c := nI w = nI 3) (fun h1 => ?_) (fun h1 => ?_)
  · refine an_b 7 (pc2 := 75) (L2 := [some (vR 7 0 0), some (vI (nI w))]) (st2 := [vI ((3 : Int32) + nI w - 2), vR 8 0 0]) (m1 := m) rfl ?_
    refine an_ald 4 361 rfl rfl (by rw [h1]; rfl) (by omega) (by omega) ?_
    exact an_ret rfl rfl rfl rfl rfl
  refine an_ifi (c := nI w = nI 4) (fun h1 => ?_) (fun h1 => ?_)
  · refine an_b 3 (pc2 := 83) (L2 := [some (vR 7 0 0), some (vI (nI w))]) (st2 := [vI (nI 8), vI (nI 337), vR 7 0 0]) (m1 := m) rfl ?_
    refine an_call (r_X5_sumFrom m 337 8 (by decide) (by decide)) rfl rfl rfl rfl ?_
    exact an_ret rfl rfl rfl rfl rfl
  refine an_ifi (c := nI w = nI 5) (fun h1 => ?_) (fun h1 => ?_)
  · refine an_b 3 (pc2 := 92) (L2 := [some (vR 7 0 0), some (vI (nI w))]) (st2 := [vI (nI 12), vI (nI 113), vR 7 0 0]) (m1 := m) rfl ?_
    refine an_call (r_X5_sumFrom m 113 12 (by decide) (by decide)) rfl rfl rfl rfl ?_
    exact an_ret rfl rfl rfl rfl rfl
  refine an_ifi (c := nI w = nI 6) (fun h1 => ?_) (fun h1 => ?_)
  · refine an_b 3 (pc2 := 102) (L2 := [some (vR 7 0 0), some (vI (nI w))]) (st2 := [vI (nI 8), vI (nI 345), vR 7 0 0]) (m1 := m) rfl ?_
    refine an_call (r_X5_sumFrom m 345 8 (by decide) (by decide)) rfl rfl rfl rfl ?_
    exact an_ret rfl rfl rfl rfl rfl
  refine an_ifi (c := nI w = nI 7) (fun h1 => ?_) (fun h1 => ?_)
  · refine an_b 3 (pc2 := 112) (L2 := [some (vR 7 0 0), some (vI (nI w))]) (st2 := [vI (nI 8), vI (nI 353), vR 7 0 0]) (m1 := m) rfl ?_
    refine an_call (r_X5_sumFrom m 353 8 (by decide) (by decide)) rfl rfl rfl rfl ?_
    exact an_ret rfl rfl rfl rfl rfl
  refine an_ifi (c := nI w = nI 8) (fun h1 => ?_) (fun h1 => ?_)
  · refine an_b 1 (pc2 := 117) (L2 := [some (vR 7 0 0), some (vI (nI w))]) (st2 := [vR 7 0 0]) (m1 := m) rfl ?_
    refine an_call (r_X5_heldRows m) rfl rfl rfl rfl ?_
    exact an_ret rfl rfl rfl rfl rfl
  refine an_b 2 (pc2 := 125) (L2 := [some (vR 7 0 0), some (vI (nI w))]) (st2 := [vI (sts m)]) (m1 := m) rfl ?_
  exact an_ret rfl rfl rfl rfl rfl
