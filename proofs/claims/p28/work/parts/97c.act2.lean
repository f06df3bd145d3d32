/-! the law's act: handOn -/
section
variable {M m : PM} {a : Nat → Nat → Int32} {s len K h r o : Nat} {x y ac : Int32}
theorem bit_tak (m : PM) (h r : Nat) {i : Nat} (hi : i < 8) : bit (v_X5_takersNow m h r) i = true ↔ ¬ v_X5_canHandOn m h r (nI i) = 0 := by
  unfold v_X5_takersNow
  rw [bit_lp (b_X5_takersNow_1 m h r) (fun j => !decide (v_X5_canHandOn m h r (nI j) = 0)) 8 (by omega) (fun j s i hj hi => ?_) 8 0 0 rfl i (by omega), bit_0]
  · simp only [Bool.false_or, Nat.zero_le, true_and, Bool.and_eq_true, decide_eq_true_eq, Bool.not_eq_true', decide_eq_false_iff_not]
    exact ⟨fun q => q.2, fun q => ⟨hi, q⟩⟩
  · unfold b_X5_takersNow_1
    by_cases c : v_X5_canHandOn m h r (nI j) = 0
    · rw [if_pos c, bit_or, bit_0, decide_eq_true c]; simp
    · rw [if_neg c, bit_or, bit_1 hi (by omega), decide_eq_false c]; simp
theorem ho_0 (H : LK a (zz m)) {md : Int32} (hr : r < 6) (hh : h < 5) : (v_X5_clashing m r md (nI o)) &&& (((1 : Int32) <<< (nI h &&& (31 : Int32))) ^^^ (-1 : Int32)) = 0 ↔ ∀ j, j < 5 → ¬ clP a r md (nI o) (nI h) j := by
  have hb : ∀ i, i < 32 → bit ((v_X5_clashing m r md (nI o)) &&& (((1 : Int32) <<< (nI h &&& (31 : Int32))) ^^^ (-1 : Int32))) i = ((decide (i < 8) && clB m r md (nI o) i) && !decide (i = h)) := fun i hi => by
    rw [bit_and, bit_clash m r _ _ i hi, bit_not _ i hi, bit_1 hi (by omega)]
  constructor
  · intro e j hj c
    have k := hb j (by omega)
    rw [e, bit_0, (clB_P H hr (show j < 8 by omega) md (nI o)).mpr ⟨hj, c.1, nI_nm1 (by omega), c.2.2⟩, decide_eq_true (show j < 8 by omega), decide_eq_false (show ¬ j = h from fun q => c.2.1 (by rw [q]))] at k
    exact absurd k (by decide)
  · intro k
    refine bit_ext (fun i hi => ?_)
    rw [hb i hi, bit_0]
    by_cases c8 : i < 8
    · cases hc : clB m r md (nI o) i with
      | false => simp
      | true =>
        obtain ⟨b1, b2⟩ := (clB_P H hr c8 md (nI o)).mp hc
        by_cases q : i = h
        · rw [decide_eq_true q]; simp
        · exact absurd ⟨b2.1, fun e => q ((nI_eq (by omega) (by omega)).mp e), b2.2.2⟩ (k i b1)
    · rw [decide_eq_false c8]; rfl
set_option maxRecDepth 100000 in
theorem act_handOn (W : WR (setA M a) m s len K) (H : LA a (zz m) (s, 0)) (hh : h < 5) (hr : r < 6) : AOK len 340 [some (vR 3 0 0), some (vI x), some (vI y), some (vR 8 0 0), some (vR 8 1 0), some (vR 8 2 0), some (vR 8 3 0), some (vR 8 4 0), some (vR 8 5 0), some (vR 8 6 0), some (vR 8 7 0), some (vR 8 8 0), some (vI ac), some (vI (nI h)), some (vI (nI r)), some (vI (clT (setA M a) 0 1 h)), none, none, none, none, none, none] M a := by
  have S := W.1.1
  have s6 : s ≤ 6 := W.2.1
  have eL : a 1 (6 * h + r) = zz m (5 + 12 * h + r) := H.1.1 h r hh hr
  have hrow := rowOf_R S.2.1 (show h < 8 by omega)
  obtain ⟨o, ho, k0⟩ := r_at (setA M a) (y >>> ((6 : Int32) &&& (31 : Int32))) (n := 5) (by omega) (by omega)
  obtain ⟨n, hn5, hn, hqm, hq⟩ := H.2.1.1 r hr
  have hn' : (m.1 8 0 0 (125 + r)).toNatClampNeg = n := by
    rw [show m.1 8 0 0 (125 + r) = nI n from hn]; exact nI_clamp (by omega)
  -- to pc 394
  have top : ∀ (M2 : PM), An ML_act 394 [some (vR 3 0 0), some (vI x), some (vI y), some (vR 8 0 0), some (vR 8 1 0), some (vR 8 2 0), some (vR 8 3 0), some (vR 8 4 0), some (vR 8 5 0), some (vR 8 6 0), some (vR 8 7 0), some (vR 8 8 0), some (vI ac), some (vI (nI h)), some (vI (nI r)), some (vI (clT (setA M a) 0 1 h)), some (vI (nI o)), some (vI (v_X5_placeIn m (nI o) r)), some (vI (nI n)), none, none, none] [] (setA M a) (.inl (some (vI 1))) M2 → An ML_act 340 [some (vR 3 0 0), some (vI x), some (vI y), some (vR 8 0 0), some (vR 8 1 0), some (vR 8 2 0), some (vR 8 3 0), some (vR 8 4 0), some (vR 8 5 0), some (vR 8 6 0), some (vR 8 7 0), some (vR 8 8 0), some (vI ac), some (vI (nI h)), some (vI (nI r)), some (vI (clT (setA M a) 0 1 h)), none, none, none, none, none, none] [] (setA M a) (.inl (some (vI 1))) M2 := by
    intro M2 hk
    refine an_b 4 (pc2 := 345) (L2 := [some (vR 3 0 0), some (vI x), some (vI y), some (vR 8 0 0), some (vR 8 1 0), some (vR 8 2 0), some (vR 8 3 0), some (vR 8 4 0), some (vR 8 5 0), some (vR 8 6 0), some (vR 8 7 0), some (vR 8 8 0), some (vI ac), some (vI (nI h)), some (vI (nI r)), some (vI (clT (setA M a) 0 1 h)), none, none, none, none, none, none]) (st2 := [vI (5 : Int32), vI (y >>> ((6 : Int32) &&& (31 : Int32)))]) (m1 := (setA M a)) rfl ?_
    refine an_call k0 rfl rfl rfl rfl ?_
    refine an_b 5 (pc2 := 356) (L2 := [some (vR 3 0 0), some (vI x), some (vI y), some (vR 8 0 0), some (vR 8 1 0), some (vR 8 2 0), some (vR 8 3 0), some (vR 8 4 0), some (vR 8 5 0), some (vR 8 6 0), some (vR 8 7 0), some (vR 8 8 0), some (vI ac), some (vI (nI h)), some (vI (nI r)), some (vI (clT (setA M a) 0 1 h)), some (vI (nI o)), some (vI (-1 : Int32)), some (vI (0 : Int32)), none, none, none]) (st2 := []) (m1 := (setA M a)) rfl ?_
    refine re_lp (b_X5_placeIn_1 m (nI o) r) (fun j z => (356, [some (vR 3 0 0), some (vI x), some (vI y), some (vR 8 0 0), some (vR 8 1 0), some (vR 8 2 0), some (vR 8 3 0), some (vR 8 4 0), some (vR 8 5 0), some (vR 8 6 0), some (vR 8 7 0), some (vR 8 8 0), some (vI ac), some (vI (nI h)), some (vI (nI r)), some (vI (clT (setA M a) 0 1 h)), some (vI (nI o)), some (vI z), some (vI (nI j)), none, none, none], [], setA M a)) n (fun z => (394, [some (vR 3 0 0), some (vI x), some (vI y), some (vR 8 0 0), some (vR 8 1 0), some (vR 8 2 0), some (vR 8 3 0), some (vR 8 4 0), some (vR 8 5 0), some (vR 8 6 0), some (vR 8 7 0), some (vR 8 8 0), some (vI ac), some (vI (nI h)), some (vI (nI r)), some (vI (clT (setA M a) 0 1 h)), some (vI (nI o)), some (vI z), some (vI (nI n)), none, none, none], [], setA M a)) (fun j z hj v9 m9 K9 => ?_) (fun z v9 m9 K9 => ?_) n 0 _ (Nat.add_zero _) _ _ ?_
    · obtain ⟨w, md, w1, w2, w3, w4, w5, w6⟩ := hq j hj
      have K8 : An ML_act 356 [some (vR 3 0 0), some (vI x), some (vI y), some (vR 8 0 0), some (vR 8 1 0), some (vR 8 2 0), some (vR 8 3 0), some (vR 8 4 0), some (vR 8 5 0), some (vR 8 6 0), some (vR 8 7 0), some (vR 8 8 0), some (vI ac), some (vI (nI h)), some (vI (nI r)), some (vI (clT (setA M a) 0 1 h)), some (vI (nI o)), some (vI (b_X5_placeIn_1 m (nI o) r j z)), some (vI (nI (j + 1))), none, none, none] [] (setA M a) v9 m9 := K9
      rw [← nI_1] at K8
      show An ML_act 356 [some (vR 3 0 0), some (vI x), some (vI y), some (vR 8 0 0), some (vR 8 1 0), some (vR 8 2 0), some (vR 8 3 0), some (vR 8 4 0), some (vR 8 5 0), some (vR 8 6 0), some (vR 8 7 0), some (vR 8 8 0), some (vI ac), some (vI (nI h)), some (vI (nI r)), some (vI (clT (setA M a) 0 1 h)), some (vI (nI o)), some (vI z), some (vI (nI j)), none, none, none] [] (setA M a) v9 m9
      refine an_b 3 (pc2 := 362) (L2 := [some (vR 3 0 0), some (vI x), some (vI y), some (vR 8 0 0), some (vR 8 1 0), some (vR 8 2 0), some (vR 8 3 0), some (vR 8 4 0), some (vR 8 5 0), some (vR 8 6 0), some (vR 8 7 0), some (vR 8 8 0), some (vI ac), some (vI (nI h)), some (vI (nI r)), some (vI (clT (setA M a) 0 1 h)), some (vI (nI o)), some (vI z), some (vI (nI j)), none, none, none]) (st2 := [vI (nI r), vR 8 3 0, vI (nI j)]) (m1 := (setA M a)) rfl ?_
      refine an_la 3 r (by decide) (by show _ < 6; omega) rfl rfl ?_
      refine an_b 1 (pc2 := if (nI n) ≤ (nI j) then 394 else 366) (L2 := [some (vR 3 0 0), some (vI x), some (vI y), some (vR 8 0 0), some (vR 8 1 0), some (vR 8 2 0), some (vR 8 3 0), some (vR 8 4 0), some (vR 8 5 0), some (vR 8 6 0), some (vR 8 7 0), some (vR 8 8 0), some (vI ac), some (vI (nI h)), some (vI (nI r)), some (vI (clT (setA M a) 0 1 h)), some (vI (nI o)), some (vI z), some (vI (nI j)), none, none, none]) (st2 := []) (m1 := (setA M a)) (by rw [hqm]; rfl) ?_
      refine an_f (nI_ge hj (by omega)) ?_
      refine an_b 6 (pc2 := 375) (L2 := [some (vR 3 0 0), some (vI x), some (vI y), some (vR 8 0 0), some (vR 8 1 0), some (vR 8 2 0), some (vR 8 3 0), some (vR 8 4 0), some (vR 8 5 0), some (vR 8 6 0), some (vR 8 7 0), some (vR 8 8 0), some (vI ac), some (vI (nI h)), some (vI (nI r)), some (vI (clT (setA M a) 0 1 h)), some (vI (nI o)), some (vI z), some (vI (nI j)), none, none, none]) (st2 := [vI (((5 : Int32) * (nI r)) + (nI j)), vR 8 2 0]) (m1 := (setA M a)) rfl ?_
      refine an_la 2 ((5 * r) + j) (by decide) (by show _ < 36; omega) (by simp only [ix_lit, pk_mul, nI_add]) rfl ?_
      refine an_b 4 (pc2 := if ¬ (nI w) = (nI o) then 388 else 384) (L2 := [some (vR 3 0 0), some (vI x), some (vI y), some (vR 8 0 0), some (vR 8 1 0), some (vR 8 2 0), some (vR 8 3 0), some (vR 8 4 0), some (vR 8 5 0), some (vR 8 6 0), some (vR 8 7 0), some (vR 8 8 0), some (vI ac), some (vI (nI h)), some (vI (nI r)), some (vI (clT (setA M a) 0 1 h)), some (vI (nI o)), some (vI z), some (vI (nI j)), none, none, none]) (st2 := []) (m1 := (setA M a)) (by rw [show a 2 (5 * r + j) = nI (w + 8 * md) from w6, ← rem8 w w1 md w3]; rfl) ?_
      have ew : v_X5_whoAt m r j = nI w := w4
      unfold b_X5_placeIn_1 at K8
      rw [ew] at K8
      by_cases c : nI w = nI o
      · rw [if_neg (fun q => q c)] at K8
        refine an_f (fun q => q c) ?_
        refine an_b 2 (pc2 := 388) (L2 := [some (vR 3 0 0), some (vI x), some (vI y), some (vR 8 0 0), some (vR 8 1 0), some (vR 8 2 0), some (vR 8 3 0), some (vR 8 4 0), some (vR 8 5 0), some (vR 8 6 0), some (vR 8 7 0), some (vR 8 8 0), some (vI ac), some (vI (nI h)), some (vI (nI r)), some (vI (clT (setA M a) 0 1 h)), some (vI (nI o)), some (vI (nI j)), some (vI (nI j)), none, none, none]) (st2 := []) (m1 := (setA M a)) rfl ?_
        refine an_b 2 (pc2 := 356) (L2 := [some (vR 3 0 0), some (vI x), some (vI y), some (vR 8 0 0), some (vR 8 1 0), some (vR 8 2 0), some (vR 8 3 0), some (vR 8 4 0), some (vR 8 5 0), some (vR 8 6 0), some (vR 8 7 0), some (vR 8 8 0), some (vI ac), some (vI (nI h)), some (vI (nI r)), some (vI (clT (setA M a) 0 1 h)), some (vI (nI o)), some (vI (nI j)), some (vI ((nI j) + (1 : Int32))), none, none, none]) (st2 := []) (m1 := (setA M a)) rfl ?_
        exact K8
      · rw [if_pos c] at K8
        refine an_t c ?_
        refine an_b 2 (pc2 := 356) (L2 := [some (vR 3 0 0), some (vI x), some (vI y), some (vR 8 0 0), some (vR 8 1 0), some (vR 8 2 0), some (vR 8 3 0), some (vR 8 4 0), some (vR 8 5 0), some (vR 8 6 0), some (vR 8 7 0), some (vR 8 8 0), some (vI ac), some (vI (nI h)), some (vI (nI r)), some (vI (clT (setA M a) 0 1 h)), some (vI (nI o)), some (vI z), some (vI ((nI j) + (1 : Int32))), none, none, none]) (st2 := []) (m1 := (setA M a)) rfl ?_
        exact K8
    · show An ML_act 356 [some (vR 3 0 0), some (vI x), some (vI y), some (vR 8 0 0), some (vR 8 1 0), some (vR 8 2 0), some (vR 8 3 0), some (vR 8 4 0), some (vR 8 5 0), some (vR 8 6 0), some (vR 8 7 0), some (vR 8 8 0), some (vI ac), some (vI (nI h)), some (vI (nI r)), some (vI (clT (setA M a) 0 1 h)), some (vI (nI o)), some (vI z), some (vI (nI n)), none, none, none] [] (setA M a) v9 m9
      refine an_b 3 (pc2 := 362) (L2 := [some (vR 3 0 0), some (vI x), some (vI y), some (vR 8 0 0), some (vR 8 1 0), some (vR 8 2 0), some (vR 8 3 0), some (vR 8 4 0), some (vR 8 5 0), some (vR 8 6 0), some (vR 8 7 0), some (vR 8 8 0), some (vI ac), some (vI (nI h)), some (vI (nI r)), some (vI (clT (setA M a) 0 1 h)), some (vI (nI o)), some (vI z), some (vI (nI n)), none, none, none]) (st2 := [vI (nI r), vR 8 3 0, vI (nI n)]) (m1 := (setA M a)) rfl ?_
      refine an_la 3 r (by decide) (by show _ < 6; omega) rfl rfl ?_
      refine an_b 1 (pc2 := if (nI n) ≤ (nI n) then 394 else 366) (L2 := [some (vR 3 0 0), some (vI x), some (vI y), some (vR 8 0 0), some (vR 8 1 0), some (vR 8 2 0), some (vR 8 3 0), some (vR 8 4 0), some (vR 8 5 0), some (vR 8 6 0), some (vR 8 7 0), some (vR 8 8 0), some (vI ac), some (vI (nI h)), some (vI (nI r)), some (vI (clT (setA M a) 0 1 h)), some (vI (nI o)), some (vI z), some (vI (nI n)), none, none, none]) (st2 := []) (m1 := (setA M a)) (by rw [hqm]; rfl) ?_
      refine an_t (nI_le (Nat.le_refl n) (by omega)) ?_
      exact K9
    have e9 : lp (b_X5_placeIn_1 m (nI o) r) n 0 (-1) = v_X5_placeIn m (nI o) r := by
      unfold v_X5_placeIn
      rw [hn']
    show AnS ML_act (394, [some (vR 3 0 0), some (vI x), some (vI y), some (vR 8 0 0), some (vR 8 1 0), some (vR 8 2 0), some (vR 8 3 0), some (vR 8 4 0), some (vR 8 5 0), some (vR 8 6 0), some (vR 8 7 0), some (vR 8 8 0), some (vI ac), some (vI (nI h)), some (vI (nI r)), some (vI (clT (setA M a) 0 1 h)), some (vI (nI o)), some (vI (lp (b_X5_placeIn_1 m (nI o) r) n 0 (-1))), some (vI (nI n)), none, none, none], [], setA M a) _ _
    rw [e9]
    exact hk
  have rt : v_X5_canHandOn m h r (nI o) = 0 → An ML_act 454 [some (vR 3 0 0), some (vI x), some (vI y), some (vR 8 0 0), some (vR 8 1 0), some (vR 8 2 0), some (vR 8 3 0), some (vR 8 4 0), some (vR 8 5 0), some (vR 8 6 0), some (vR 8 7 0), some (vR 8 8 0), some (vI ac), some (vI (nI h)), some (vI (nI r)), some (vI (clT (setA M a) 0 1 h)), some (vI (nI o)), some (vI (v_X5_placeIn m (nI o) r)), some (vI (nI n)), none, none, none] [] (setA M a) (.inl (some (vI 1))) (setA M a) := by
    intro c
    refine an_b 3 (pc2 := 459) (L2 := [some (vR 3 0 0), some (vI x), some (vI y), some (vR 8 0 0), some (vR 8 1 0), some (vR 8 2 0), some (vR 8 3 0), some (vR 8 4 0), some (vR 8 5 0), some (vR 8 6 0), some (vR 8 7 0), some (vR 8 8 0), some (vI ac), some (vI (nI h)), some (vI (nI r)), some (vI (clT (setA M a) 0 1 h)), some (vI (nI o)), some (vI (v_X5_placeIn m (nI o) r)), some (vI (nI n)), none, none, none]) (st2 := [vI (nI r), vI (nI h), vR 3 0 0]) (m1 := (setA M a)) rfl ?_
    refine an_call (rc_takers W (show h < 8 by omega) (show r < 12 by omega)) rfl rfl rfl rfl ?_
    refine an_b 5 (pc2 := if ¬ (((v_X5_takersNow m h r) >>> ((nI o) &&& (31 : Int32))) &&& (1 : Int32)) = 0 then 474 else 470) (L2 := [some (vR 3 0 0), some (vI x), some (vI y), some (vR 8 0 0), some (vR 8 1 0), some (vR 8 2 0), some (vR 8 3 0), some (vR 8 4 0), some (vR 8 5 0), some (vR 8 6 0), some (vR 8 7 0), some (vR 8 8 0), some (vI ac), some (vI (nI h)), some (vI (nI r)), some (vI (clT (setA M a) 0 1 h)), some (vI (nI o)), some (vI (v_X5_placeIn m (nI o) r)), some (vI (nI n)), none, none, none]) (st2 := []) (m1 := (setA M a)) rfl ?_
    refine an_f (fun q => q ((bit_q0 (show o < 32 by omega)).mpr (Bool.eq_false_iff.mpr fun u => (bit_tak m h r (show o < 8 by omega)).mp u c))) ?_
    refine an_b 2 (pc2 := 475) (L2 := [some (vR 3 0 0), some (vI x), some (vI y), some (vR 8 0 0), some (vR 8 1 0), some (vR 8 2 0), some (vR 8 3 0), some (vR 8 4 0), some (vR 8 5 0), some (vR 8 6 0), some (vR 8 7 0), some (vR 8 8 0), some (vI ac), some (vI (nI h)), some (vI (nI r)), some (vI (clT (setA M a) 0 1 h)), some (vI (nI o)), some (vI (v_X5_placeIn m (nI o) r)), some (vI (nI n)), none, none, none]) (st2 := [vI (1 : Int32)]) (m1 := (setA M a)) rfl ?_
    exact an_ret rfl rfl rfl rfl rfl
  by_cases c1 : zz m (5 + 12 * h + r) = 0
  · have ho0 : v_X5_canHandOn m h r (nI o) = 0 := by
      unfold v_X5_canHandOn v_X5_canRelease
      rw [if_pos (show v_X5_lockOf m h r ≤ 0 by rw [show v_X5_lockOf m h r = 0 from c1]; decide), if_pos rfl]
    refine ⟨M, a, m, s, K, top _ ?_, W, H⟩
    refine an_b 6 (pc2 := 404) (L2 := [some (vR 3 0 0), some (vI x), some (vI y), some (vR 8 0 0), some (vR 8 1 0), some (vR 8 2 0), some (vR 8 3 0), some (vR 8 4 0), some (vR 8 5 0), some (vR 8 6 0), some (vR 8 7 0), some (vR 8 8 0), some (vI ac), some (vI (nI h)), some (vI (nI r)), some (vI (clT (setA M a) 0 1 h)), some (vI (nI o)), some (vI (v_X5_placeIn m (nI o) r)), some (vI (nI n)), none, none, none]) (st2 := [vI (((6 : Int32) * (nI h)) + (nI r)), vR 8 1 0]) (m1 := (setA M a)) rfl ?_
    refine an_la 1 ((6 * h) + r) (by decide) (by show _ < 30; omega) (by simp only [ix_lit, pk_mul, nI_add]) rfl ?_
    refine an_b 1 (pc2 := if (zz m (5 + 12 * h + r)) = 0 then 454 else 408) (L2 := [some (vR 3 0 0), some (vI x), some (vI y), some (vR 8 0 0), some (vR 8 1 0), some (vR 8 2 0), some (vR 8 3 0), some (vR 8 4 0), some (vR 8 5 0), some (vR 8 6 0), some (vR 8 7 0), some (vR 8 8 0), some (vI ac), some (vI (nI h)), some (vI (nI r)), some (vI (clT (setA M a) 0 1 h)), some (vI (nI o)), some (vI (v_X5_placeIn m (nI o) r)), some (vI (nI n)), none, none, none]) (st2 := []) (m1 := (setA M a)) (by rw [← eL]; rfl) ?_
    refine an_t c1 ?_
    exact rt ho0
  have c1p : ¬ v_X5_lockOf m h r ≤ 0 := fun q => c1 (mo_0 (S.1 h r (by omega) (by omega)).2 q)
  by_cases c2 : clT (setA M a) 0 1 h = nI r
  · have ho0 : v_X5_canHandOn m h r (nI o) = 0 := by
      unfold v_X5_canHandOn v_X5_canRelease
      rw [if_neg c1p, hrow, if_pos c2, if_pos rfl]
    refine ⟨M, a, m, s, K, top _ ?_, W, H⟩
    refine an_b 6 (pc2 := 404) (L2 := [some (vR 3 0 0), some (vI x), some (vI y), some (vR 8 0 0), some (vR 8 1 0), some (vR 8 2 0), some (vR 8 3 0), some (vR 8 4 0), some (vR 8 5 0), some (vR 8 6 0), some (vR 8 7 0), some (vR 8 8 0), some (vI ac), some (vI (nI h)), some (vI (nI r)), some (vI (clT (setA M a) 0 1 h)), some (vI (nI o)), some (vI (v_X5_placeIn m (nI o) r)), some (vI (nI n)), none, none, none]) (st2 := [vI (((6 : Int32) * (nI h)) + (nI r)), vR 8 1 0]) (m1 := (setA M a)) rfl ?_
    refine an_la 1 ((6 * h) + r) (by decide) (by show _ < 30; omega) (by simp only [ix_lit, pk_mul, nI_add]) rfl ?_
    refine an_b 1 (pc2 := if (zz m (5 + 12 * h + r)) = 0 then 454 else 408) (L2 := [some (vR 3 0 0), some (vI x), some (vI y), some (vR 8 0 0), some (vR 8 1 0), some (vR 8 2 0), some (vR 8 3 0), some (vR 8 4 0), some (vR 8 5 0), some (vR 8 6 0), some (vR 8 7 0), some (vR 8 8 0), some (vI ac), some (vI (nI h)), some (vI (nI r)), some (vI (clT (setA M a) 0 1 h)), some (vI (nI o)), some (vI (v_X5_placeIn m (nI o) r)), some (vI (nI n)), none, none, none]) (st2 := []) (m1 := (setA M a)) (by rw [← eL]; rfl) ?_
    refine an_f c1 ?_
    refine an_b 3 (pc2 := if (clT (setA M a) 0 1 h) = (nI r) then 454 else 415) (L2 := [some (vR 3 0 0), some (vI x), some (vI y), some (vR 8 0 0), some (vR 8 1 0), some (vR 8 2 0), some (vR 8 3 0), some (vR 8 4 0), some (vR 8 5 0), some (vR 8 6 0), some (vR 8 7 0), some (vR 8 8 0), some (vI ac), some (vI (nI h)), some (vI (nI r)), some (vI (clT (setA M a) 0 1 h)), some (vI (nI o)), some (vI (v_X5_placeIn m (nI o) r)), some (vI (nI n)), none, none, none]) (st2 := []) (m1 := (setA M a)) rfl ?_
    refine an_t c2 ?_
    exact rt ho0
  by_cases c3 : nI o = nI h
  · have ho0 : v_X5_canHandOn m h r (nI o) = 0 := by
      unfold v_X5_canHandOn
      by_cases u : v_X5_canRelease m h r = 0
      · rw [if_pos u]
      · rw [if_neg u, if_pos c3.symm]
    refine ⟨M, a, m, s, K, top _ ?_, W, H⟩
    refine an_b 6 (pc2 := 404) (L2 := [some (vR 3 0 0), some (vI x), some (vI y), some (vR 8 0 0), some (vR 8 1 0), some (vR 8 2 0), some (vR 8 3 0), some (vR 8 4 0), some (vR 8 5 0), some (vR 8 6 0), some (vR 8 7 0), some (vR 8 8 0), some (vI ac), some (vI (nI h)), some (vI (nI r)), some (vI (clT (setA M a) 0 1 h)), some (vI (nI o)), some (vI (v_X5_placeIn m (nI o) r)), some (vI (nI n)), none, none, none]) (st2 := [vI (((6 : Int32) * (nI h)) + (nI r)), vR 8 1 0]) (m1 := (setA M a)) rfl ?_
    refine an_la 1 ((6 * h) + r) (by decide) (by show _ < 30; omega) (by simp only [ix_lit, pk_mul, nI_add]) rfl ?_
    refine an_b 1 (pc2 := if (zz m (5 + 12 * h + r)) = 0 then 454 else 408) (L2 := [some (vR 3 0 0), some (vI x), some (vI y), some (vR 8 0 0), some (vR 8 1 0), some (vR 8 2 0), some (vR 8 3 0), some (vR 8 4 0), some (vR 8 5 0), some (vR 8 6 0), some (vR 8 7 0), some (vR 8 8 0), some (vI ac), some (vI (nI h)), some (vI (nI r)), some (vI (clT (setA M a) 0 1 h)), some (vI (nI o)), some (vI (v_X5_placeIn m (nI o) r)), some (vI (nI n)), none, none, none]) (st2 := []) (m1 := (setA M a)) (by rw [← eL]; rfl) ?_
    refine an_f c1 ?_
    refine an_b 3 (pc2 := if (clT (setA M a) 0 1 h) = (nI r) then 454 else 415) (L2 := [some (vR 3 0 0), some (vI x), some (vI y), some (vR 8 0 0), some (vR 8 1 0), some (vR 8 2 0), some (vR 8 3 0), some (vR 8 4 0), some (vR 8 5 0), some (vR 8 6 0), some (vR 8 7 0), some (vR 8 8 0), some (vI ac), some (vI (nI h)), some (vI (nI r)), some (vI (clT (setA M a) 0 1 h)), some (vI (nI o)), some (vI (v_X5_placeIn m (nI o) r)), some (vI (nI n)), none, none, none]) (st2 := []) (m1 := (setA M a)) rfl ?_
    refine an_f c2 ?_
    refine an_b 3 (pc2 := if (nI o) = (nI h) then 454 else 422) (L2 := [some (vR 3 0 0), some (vI x), some (vI y), some (vR 8 0 0), some (vR 8 1 0), some (vR 8 2 0), some (vR 8 3 0), some (vR 8 4 0), some (vR 8 5 0), some (vR 8 6 0), some (vR 8 7 0), some (vR 8 8 0), some (vI ac), some (vI (nI h)), some (vI (nI r)), some (vI (clT (setA M a) 0 1 h)), some (vI (nI o)), some (vI (v_X5_placeIn m (nI o) r)), some (vI (nI n)), none, none, none]) (st2 := []) (m1 := (setA M a)) rfl ?_
    refine an_t c3 ?_
    exact rt ho0
  have eP := placeIn_R S.2.1 (show o < 8 by omega) (show r < 12 by omega)
  have hcr : ¬ v_X5_canRelease m h r = 0 := by
    unfold v_X5_canRelease
    rw [if_neg c1p, hrow, if_neg c2]
    decide
  by_cases c4 : clT (setA M a) 0 1 o = nI r
  · obtain ⟨n2, p, g1, g2, hp, e2, e3, e4, _⟩ := rq_w S.2.1 (show o < 8 by omega) (show r < 12 by omega) c4
    obtain rfl : n = n2 := (nI_eq (by omega) (by omega)).mp (hn.symm.trans g1)
    rw [if_pos c4, e2] at eP
    obtain ⟨w, md, w1, w2, w3, w4, w5, w6⟩ := hq p hp
    obtain rfl : w = o := (nI_eq (by omega) (by omega)).mp (w4.symm.trans e3)
    have ed : a 2 (5 * r + p) / 8 = nI md := by rw [w6]; exact div8 w w1 md w3
    have epl : plcN m (nI w) r = p := by unfold plcN; rw [eP]; exact nI_clamp (by omega)
    have emd : v_X5_modeAt m r (plcN m (nI w) r) = nI md := by rw [epl]; exact w5
    obtain ⟨b, b1, b2, b3⟩ := r_clashes (M := M) (a := a) hr (nI md) (nI w) (nI h)
    have h0 := ho_0 (a := a) (o := w) (md := nI md) H.1 hr hh
    have hho : v_X5_canHandOn m h r (nI w) = 0 ↔ ¬ b = 0 := by
      unfold v_X5_canHandOn
      rw [if_neg hcr, if_neg (fun u => c3 u.symm), if_pos (show ¬ v_X5_placeIn m (nI w) r = -1 by rw [eP]; exact nI_nm1 (by omega)), emd]
      by_cases u : b = 0
      · rw [if_neg (fun q => q (h0.mpr (b3.mp u)))]
        exact ⟨fun q => absurd q (by decide), fun q => absurd u q⟩
      · rw [if_pos (fun q => u (b3.mpr (h0.mp q)))]
        exact ⟨fun _ => u, fun _ => rfl⟩
    rw [eP] at top rt
    by_cases c5 : b = 0
    · have hno : ¬ v_X5_canHandOn m h r (nI w) = 0 := fun u => hho.mp u c5
      -- the model's own words
      have zs0 := zz_svM m s
      have hwh : ¬ w = h := fun u => c3 (by rw [u])
      have zA : zz (hoA (svM m s) h r) = upd (zz m) (5 + 12 * h + r) 0 := by unfold hoA; rw [zz_setLock, zs0]
      have pA : plcN (hoA (svM m s) h r) (nI w) r = p := plc_of (rr := clT (setA M a) 0 1) (rm := clT (setA M a) 0 2) (rp := clT (setA M a) 0 3) (by rw [zA]; exact rq_z S.2.1 (fun i _ _ => upd_o _ _ _ (by omega))) (show w < 8 by omega) (show r < 12 by omega) c4 e2 (by omega)
      have qA : qn (hoA (svM m s) h r) r = n := by
        unfold qn
        rw [zA, upd_o _ _ _ (by omega), hn]; exact nI_clamp (by omega)
      have e7 : a 7 w = zz m (345 + w) := (H.2.2.1 2 (by omega)).1 w w1
      have zB : zz (hoB (svM m s) h r w) = uqz (upd (upd (upd (zz m) (5 + 12 * h + r) 0) (5 + 12 * w + r) (nI md)) (345 + w) (a 7 w + 1)) r p n (n - 1) := by
        unfold hoB
        rw [zz_setz, zA, pA, qA]
        unfold grz
        rw [upd_o _ _ _ (show ¬ 233 + 8 * r + p = 5 + 12 * h + r by omega), upd_o _ _ _ (show ¬ 345 + w = 5 + 12 * h + r by omega), e7, show zz m (233 + 8 * r + p) = nI md from w5]
      have LB : LA (lvK (up2 (up2 (up2 a 1 (6 * h + r) 0) 1 (6 * w + r) (nI md)) 7 w (a 7 w + 1)) r p n (n - 1)) (zz (hoB (svM m s) h r w)) (s, 0) := by
        rw [zB]
        exact la_leave (la_cnt (la_set (la_set H hh hr 0) w1 hr (nI md)) (k := 2) (by omega) w1 (a 7 w + 1)) hr (by rw [upd_o _ _ _ (by omega), upd_o _ _ _ (by omega), upd_o _ _ _ (by omega)]; exact hn) hn5 hp
      have zC : zz (hoC (svM m s) h r w) = upd (zz (hoB (svM m s) h r w)) (113 + r) (zz (hoB (svM m s) h r w) (113 + r) + 1) := by
        unfold hoC
        rw [zz_wI]
        rfl
      have LC1 : LA (lvK (up2 (up2 (up2 a 1 (6 * h + r) 0) 1 (6 * w + r) (nI md)) 7 w (a 7 w + 1)) r p n (n - 1)) (zz (hoC (svM m s) h r w)) (s, 1) := by
        rw [zC]; exact la_h LB hr
      have vC : v_X5_lockOf (hoC (svM m s) h r w) w r = nI md := by
        show zz (hoC (svM m s) h r w) (5 + 12 * w + r) = nI md
        rw [zC, upd_o _ _ _ (by omega), zB, uqz_lo _ (by omega) (by omega) (by omega), upd_o _ _ _ (by omega), upd_s]
      obtain ⟨a1, k3, H3⟩ := r_settle (M := M) LC1 hr
      have H4 := la_6 H3
      have H2 : (up2 a1 0 6 (a1 0 6 + 1)) 0 2 = nI s := H4.2.2.2.2.2.2.1
      obtain ⟨M1, k2, W2⟩ := rc_handOn (wr_A W (up2 (up2 a1 0 6 (a1 0 6 + 1)) 0 2 (nI (svN s)))) (show h < 8 by omega) (show r < 12 by omega) (show w < 8 by omega) hno
      rw [vC] at k2
      refine ⟨M1, up2 (up2 a1 0 6 (a1 0 6 + 1)) 0 2 (nI (svN s)), _, _, _, top _ ?_, W2, la_s H4 (svN s)⟩
      have nx : An ML_act 574 [some (vR 3 0 0), some (vI x), some (vI y), some (vR 8 0 0), some (vR 8 1 0), some (vR 8 2 0), some (vR 8 3 0), some (vR 8 4 0), some (vR 8 5 0), some (vR 8 6 0), some (vR 8 7 0), some (vR 8 8 0), some (vI ac), some (vI (nI h)), some (vI (nI r)), some (vI (clT (setA M a) 0 1 h)), some (vI (nI w)), some (vI (nI p)), some (vI (nI md)), some (vI (v_X5_settle (hoC (svM m s) h r w) r)), none, none] [] (setA M (up2 (up2 a1 0 6 (a1 0 6 + 1)) 0 2 (nI (svN s)))) (.inl (some (vI 1))) (setA M1 (up2 (up2 a1 0 6 (a1 0 6 + 1)) 0 2 (nI (svN s)))) := by
        refine an_b 4 (pc2 := 581) (L2 := [some (vR 3 0 0), some (vI x), some (vI y), some (vR 8 0 0), some (vR 8 1 0), some (vR 8 2 0), some (vR 8 3 0), some (vR 8 4 0), some (vR 8 5 0), some (vR 8 6 0), some (vR 8 7 0), some (vR 8 8 0), some (vI ac), some (vI (nI h)), some (vI (nI r)), some (vI (clT (setA M a) 0 1 h)), some (vI (nI w)), some (vI (nI p)), some (vI (nI md)), some (vI (v_X5_settle (hoC (svM m s) h r w) r)), none, none]) (st2 := [vI (nI w), vI (nI r), vI (nI h), vR 3 0 0]) (m1 := (setA M (up2 (up2 a1 0 6 (a1 0 6 + 1)) 0 2 (nI (svN s))))) rfl ?_
        refine an_call k2 rfl rfl rfl rfl ?_
        refine an_b 2 (pc2 := if ¬ (nI md) = (nI md) then 593 else 589) (L2 := [some (vR 3 0 0), some (vI x), some (vI y), some (vR 8 0 0), some (vR 8 1 0), some (vR 8 2 0), some (vR 8 3 0), some (vR 8 4 0), some (vR 8 5 0), some (vR 8 6 0), some (vR 8 7 0), some (vR 8 8 0), some (vI ac), some (vI (nI h)), some (vI (nI r)), some (vI (clT (setA M a) 0 1 h)), some (vI (nI w)), some (vI (nI p)), some (vI (nI md)), some (vI (v_X5_settle (hoC (svM m s) h r w) r)), none, none]) (st2 := []) (m1 := (setA M1 (up2 (up2 a1 0 6 (a1 0 6 + 1)) 0 2 (nI (svN s))))) rfl ?_
        refine an_f (fun q => q rfl) ?_
        refine an_b 2 (pc2 := 594) (L2 := [some (vR 3 0 0), some (vI x), some (vI y), some (vR 8 0 0), some (vR 8 1 0), some (vR 8 2 0), some (vR 8 3 0), some (vR 8 4 0), some (vR 8 5 0), some (vR 8 6 0), some (vR 8 7 0), some (vR 8 8 0), some (vI ac), some (vI (nI h)), some (vI (nI r)), some (vI (clT (setA M a) 0 1 h)), some (vI (nI w)), some (vI (nI p)), some (vI (nI md)), some (vI (v_X5_settle (hoC (svM m s) h r w) r)), none, none]) (st2 := [vI (1 : Int32)]) (m1 := (setA M1 (up2 (up2 a1 0 6 (a1 0 6 + 1)) 0 2 (nI (svN s))))) rfl ?_
        exact an_ret rfl rfl rfl rfl rfl
      refine an_b 6 (pc2 := 404) (L2 := [some (vR 3 0 0), some (vI x), some (vI y), some (vR 8 0 0), some (vR 8 1 0), some (vR 8 2 0), some (vR 8 3 0), some (vR 8 4 0), some (vR 8 5 0), some (vR 8 6 0), some (vR 8 7 0), some (vR 8 8 0), some (vI ac), some (vI (nI h)), some (vI (nI r)), some (vI (clT (setA M a) 0 1 h)), some (vI (nI w)), some (vI (nI p)), some (vI (nI n)), none, none, none]) (st2 := [vI (((6 : Int32) * (nI h)) + (nI r)), vR 8 1 0]) (m1 := (setA M a)) rfl ?_
      refine an_la 1 ((6 * h) + r) (by decide) (by show _ < 30; omega) (by simp only [ix_lit, pk_mul, nI_add]) rfl ?_
      refine an_b 1 (pc2 := if (zz m (5 + 12 * h + r)) = 0 then 454 else 408) (L2 := [some (vR 3 0 0), some (vI x), some (vI y), some (vR 8 0 0), some (vR 8 1 0), some (vR 8 2 0), some (vR 8 3 0), some (vR 8 4 0), some (vR 8 5 0), some (vR 8 6 0), some (vR 8 7 0), some (vR 8 8 0), some (vI ac), some (vI (nI h)), some (vI (nI r)), some (vI (clT (setA M a) 0 1 h)), some (vI (nI w)), some (vI (nI p)), some (vI (nI n)), none, none, none]) (st2 := []) (m1 := (setA M a)) (by rw [← eL]; rfl) ?_
      refine an_f c1 ?_
      refine an_b 3 (pc2 := if (clT (setA M a) 0 1 h) = (nI r) then 454 else 415) (L2 := [some (vR 3 0 0), some (vI x), some (vI y), some (vR 8 0 0), some (vR 8 1 0), some (vR 8 2 0), some (vR 8 3 0), some (vR 8 4 0), some (vR 8 5 0), some (vR 8 6 0), some (vR 8 7 0), some (vR 8 8 0), some (vI ac), some (vI (nI h)), some (vI (nI r)), some (vI (clT (setA M a) 0 1 h)), some (vI (nI w)), some (vI (nI p)), some (vI (nI n)), none, none, none]) (st2 := []) (m1 := (setA M a)) rfl ?_
      refine an_f c2 ?_
      refine an_b 3 (pc2 := if (nI w) = (nI h) then 454 else 422) (L2 := [some (vR 3 0 0), some (vI x), some (vI y), some (vR 8 0 0), some (vR 8 1 0), some (vR 8 2 0), some (vR 8 3 0), some (vR 8 4 0), some (vR 8 5 0), some (vR 8 6 0), some (vR 8 7 0), some (vR 8 8 0), some (vI ac), some (vI (nI h)), some (vI (nI r)), some (vI (clT (setA M a) 0 1 h)), some (vI (nI w)), some (vI (nI p)), some (vI (nI n)), none, none, none]) (st2 := []) (m1 := (setA M a)) rfl ?_
      refine an_f c3 ?_
      refine an_b 2 (pc2 := if (nI p) < 0 then 454 else 427) (L2 := [some (vR 3 0 0), some (vI x), some (vI y), some (vR 8 0 0), some (vR 8 1 0), some (vR 8 2 0), some (vR 8 3 0), some (vR 8 4 0), some (vR 8 5 0), some (vR 8 6 0), some (vR 8 7 0), some (vR 8 8 0), some (vI ac), some (vI (nI h)), some (vI (nI r)), some (vI (clT (setA M a) 0 1 h)), some (vI (nI w)), some (vI (nI p)), some (vI (nI n)), none, none, none]) (st2 := []) (m1 := (setA M a)) rfl ?_
      refine an_f (nI_pos (by omega)) ?_
      refine an_b 8 (pc2 := 440) (L2 := [some (vR 3 0 0), some (vI x), some (vI y), some (vR 8 0 0), some (vR 8 1 0), some (vR 8 2 0), some (vR 8 3 0), some (vR 8 4 0), some (vR 8 5 0), some (vR 8 6 0), some (vR 8 7 0), some (vR 8 8 0), some (vI ac), some (vI (nI h)), some (vI (nI r)), some (vI (clT (setA M a) 0 1 h)), some (vI (nI w)), some (vI (nI p)), some (vI (nI n)), none, none, none]) (st2 := [vI (((5 : Int32) * (nI r)) + (nI p)), vR 8 2 0, vI (nI r), vR 8 1 0]) (m1 := (setA M a)) rfl ?_
      refine an_la 2 ((5 * r) + p) (by decide) (by show _ < 36; omega) (by simp only [ix_lit, pk_mul, nI_add]) rfl ?_
      refine an_b 1 (pc2 := 443) (L2 := [some (vR 3 0 0), some (vI x), some (vI y), some (vR 8 0 0), some (vR 8 1 0), some (vR 8 2 0), some (vR 8 3 0), some (vR 8 4 0), some (vR 8 5 0), some (vR 8 6 0), some (vR 8 7 0), some (vR 8 8 0), some (vI ac), some (vI (nI h)), some (vI (nI r)), some (vI (clT (setA M a) 0 1 h)), some (vI (nI w)), some (vI (nI p)), some (vI (nI n)), none, none, none]) (st2 := [vI (8 : Int32), vI (a 2 ((5 * r) + p)), vI (nI r), vR 8 1 0]) (m1 := (setA M a)) rfl ?_
      refine an_b 1 (pc2 := 444) (L2 := [some (vR 3 0 0), some (vI x), some (vI y), some (vR 8 0 0), some (vR 8 1 0), some (vR 8 2 0), some (vR 8 3 0), some (vR 8 4 0), some (vR 8 5 0), some (vR 8 6 0), some (vR 8 7 0), some (vR 8 8 0), some (vI ac), some (vI (nI h)), some (vI (nI r)), some (vI (clT (setA M a) 0 1 h)), some (vI (nI w)), some (vI (nI p)), some (vI (nI n)), none, none, none]) (st2 := [vI ((a 2 ((5 * r) + p)) / (8 : Int32)), vI (nI r), vR 8 1 0]) (m1 := (setA M a)) rfl ?_
      rw [ed]
      refine an_b 2 (pc2 := 448) (L2 := [some (vR 3 0 0), some (vI x), some (vI y), some (vR 8 0 0), some (vR 8 1 0), some (vR 8 2 0), some (vR 8 3 0), some (vR 8 4 0), some (vR 8 5 0), some (vR 8 6 0), some (vR 8 7 0), some (vR 8 8 0), some (vI ac), some (vI (nI h)), some (vI (nI r)), some (vI (clT (setA M a) 0 1 h)), some (vI (nI w)), some (vI (nI p)), some (vI (nI n)), none, none, none]) (st2 := [vI (nI h), vI (nI w), vI (nI md), vI (nI r), vR 8 1 0]) (m1 := (setA M a)) rfl ?_
      refine an_call b1 rfl rfl rfl rfl ?_
      refine an_b 1 (pc2 := if b = 0 then 476 else 454) (L2 := [some (vR 3 0 0), some (vI x), some (vI y), some (vR 8 0 0), some (vR 8 1 0), some (vR 8 2 0), some (vR 8 3 0), some (vR 8 4 0), some (vR 8 5 0), some (vR 8 6 0), some (vR 8 7 0), some (vR 8 8 0), some (vI ac), some (vI (nI h)), some (vI (nI r)), some (vI (clT (setA M a) 0 1 h)), some (vI (nI w)), some (vI (nI p)), some (vI (nI n)), none, none, none]) (st2 := []) (m1 := (setA M a)) rfl ?_
      refine an_t c5 ?_
      refine an_b 6 (pc2 := 485) (L2 := [some (vR 3 0 0), some (vI x), some (vI y), some (vR 8 0 0), some (vR 8 1 0), some (vR 8 2 0), some (vR 8 3 0), some (vR 8 4 0), some (vR 8 5 0), some (vR 8 6 0), some (vR 8 7 0), some (vR 8 8 0), some (vI ac), some (vI (nI h)), some (vI (nI r)), some (vI (clT (setA M a) 0 1 h)), some (vI (nI w)), some (vI (nI p)), some (vI (nI n)), none, none, none]) (st2 := [vI (((5 : Int32) * (nI r)) + (nI p)), vR 8 2 0]) (m1 := (setA M a)) rfl ?_
      refine an_la 2 ((5 * r) + p) (by decide) (by show _ < 36; omega) (by simp only [ix_lit, pk_mul, nI_add]) rfl ?_
      refine an_b 1 (pc2 := 488) (L2 := [some (vR 3 0 0), some (vI x), some (vI y), some (vR 8 0 0), some (vR 8 1 0), some (vR 8 2 0), some (vR 8 3 0), some (vR 8 4 0), some (vR 8 5 0), some (vR 8 6 0), some (vR 8 7 0), some (vR 8 8 0), some (vI ac), some (vI (nI h)), some (vI (nI r)), some (vI (clT (setA M a) 0 1 h)), some (vI (nI w)), some (vI (nI p)), some (vI (nI n)), none, none, none]) (st2 := [vI (8 : Int32), vI (a 2 ((5 * r) + p))]) (m1 := (setA M a)) rfl ?_
      refine an_b 1 (pc2 := 489) (L2 := [some (vR 3 0 0), some (vI x), some (vI y), some (vR 8 0 0), some (vR 8 1 0), some (vR 8 2 0), some (vR 8 3 0), some (vR 8 4 0), some (vR 8 5 0), some (vR 8 6 0), some (vR 8 7 0), some (vR 8 8 0), some (vI ac), some (vI (nI h)), some (vI (nI r)), some (vI (clT (setA M a) 0 1 h)), some (vI (nI w)), some (vI (nI p)), some (vI (nI n)), none, none, none]) (st2 := [vI ((a 2 ((5 * r) + p)) / (8 : Int32))]) (m1 := (setA M a)) rfl ?_
      rw [ed]
      refine an_b 8 (pc2 := 502) (L2 := [some (vR 3 0 0), some (vI x), some (vI y), some (vR 8 0 0), some (vR 8 1 0), some (vR 8 2 0), some (vR 8 3 0), some (vR 8 4 0), some (vR 8 5 0), some (vR 8 6 0), some (vR 8 7 0), some (vR 8 8 0), some (vI ac), some (vI (nI h)), some (vI (nI r)), some (vI (clT (setA M a) 0 1 h)), some (vI (nI w)), some (vI (nI p)), some (vI (nI md)), none, none, none]) (st2 := [vI (0 : Int32), vI (((6 : Int32) * (nI h)) + (nI r)), vR 8 1 0]) (m1 := (setA M a)) rfl ?_
      refine an_sa 1 ((6 * h) + r) (by decide) (by show _ < 30; omega) (by simp only [ix_lit, pk_mul, nI_add]) rfl ?_
      refine an_b 7 (pc2 := 515) (L2 := [some (vR 3 0 0), some (vI x), some (vI y), some (vR 8 0 0), some (vR 8 1 0), some (vR 8 2 0), some (vR 8 3 0), some (vR 8 4 0), some (vR 8 5 0), some (vR 8 6 0), some (vR 8 7 0), some (vR 8 8 0), some (vI ac), some (vI (nI h)), some (vI (nI r)), some (vI (clT (setA M a) 0 1 h)), some (vI (nI w)), some (vI (nI p)), some (vI (nI md)), none, none, none]) (st2 := [vI (nI md), vI (((6 : Int32) * (nI w)) + (nI r)), vR 8 1 0]) (m1 := (setA M (up2 a 1 ((6 * h) + r) (0 : Int32)))) rfl ?_
      refine an_sa 1 ((6 * w) + r) (by decide) (by show _ < 30; omega) (by simp only [ix_lit, pk_mul, nI_add]) rfl ?_
      refine an_b 3 (pc2 := 521) (L2 := [some (vR 3 0 0), some (vI x), some (vI y), some (vR 8 0 0), some (vR 8 1 0), some (vR 8 2 0), some (vR 8 3 0), some (vR 8 4 0), some (vR 8 5 0), some (vR 8 6 0), some (vR 8 7 0), some (vR 8 8 0), some (vI ac), some (vI (nI h)), some (vI (nI r)), some (vI (clT (setA M a) 0 1 h)), some (vI (nI w)), some (vI (nI p)), some (vI (nI md)), none, none, none]) (st2 := [vI (nI w), vR 8 7 0, vI (nI w), vR 8 7 0]) (m1 := (setA M (up2 (up2 a 1 ((6 * h) + r) (0 : Int32)) 1 ((6 * w) + r) (nI md)))) rfl ?_
      refine an_la 7 w (by decide) (by show _ < 5; omega) rfl rfl ?_
      refine an_b 2 (pc2 := 524) (L2 := [some (vR 3 0 0), some (vI x), some (vI y), some (vR 8 0 0), some (vR 8 1 0), some (vR 8 2 0), some (vR 8 3 0), some (vR 8 4 0), some (vR 8 5 0), some (vR 8 6 0), some (vR 8 7 0), some (vR 8 8 0), some (vI ac), some (vI (nI h)), some (vI (nI r)), some (vI (clT (setA M a) 0 1 h)), some (vI (nI w)), some (vI (nI p)), some (vI (nI md)), none, none, none]) (st2 := [vI (((up2 (up2 a 1 ((6 * h) + r) (0 : Int32)) 1 ((6 * w) + r) (nI md)) 7 w) + (1 : Int32)), vI (nI w), vR 8 7 0]) (m1 := (setA M (up2 (up2 a 1 ((6 * h) + r) (0 : Int32)) 1 ((6 * w) + r) (nI md)))) rfl ?_
      rw [up2_o _ _ _ _ (show ¬ 7 = 1 by decide), up2_o _ _ _ _ (show ¬ 7 = 1 by decide)]
      refine an_sa 7 w (by decide) (by show _ < 5; omega) rfl rfl ?_
      refine an_b 4 (pc2 := 533) (L2 := [some (vR 3 0 0), some (vI x), some (vI y), some (vR 8 0 0), some (vR 8 1 0), some (vR 8 2 0), some (vR 8 3 0), some (vR 8 4 0), some (vR 8 5 0), some (vR 8 6 0), some (vR 8 7 0), some (vR 8 8 0), some (vI ac), some (vI (nI h)), some (vI (nI r)), some (vI (clT (setA M a) 0 1 h)), some (vI (nI w)), some (vI (nI p)), some (vI (nI md)), none, none, none]) (st2 := [vI (nI p), vI (nI r), vR 8 3 0, vR 8 2 0]) (m1 := (setA M (up2 (up2 (up2 a 1 ((6 * h) + r) (0 : Int32)) 1 ((6 * w) + r) (nI md)) 7 w ((a 7 w) + (1 : Int32))))) rfl ?_
      refine an_call (r_leave (p := p) (n := n) hr (show (up2 (up2 (up2 a 1 (6 * h + r) 0) 1 (6 * w + r) (nI md)) 7 w (a 7 w + 1)) 3 r = nI n by rw [up2_o _ _ _ _ (by decide), up2_o _ _ _ _ (by decide), up2_o _ _ _ _ (by decide)]; exact hqm) hn5 hp) rfl rfl rfl rfl ?_
      refine an_b 5 (pc2 := 546) (L2 := [some (vR 3 0 0), some (vI x), some (vI y), some (vR 8 0 0), some (vR 8 1 0), some (vR 8 2 0), some (vR 8 3 0), some (vR 8 4 0), some (vR 8 5 0), some (vR 8 6 0), some (vR 8 7 0), some (vR 8 8 0), some (vI ac), some (vI (nI h)), some (vI (nI r)), some (vI (clT (setA M a) 0 1 h)), some (vI (nI w)), some (vI (nI p)), some (vI (nI md)), none, none, none]) (st2 := [vI (nI r), vR 8 7 0, vR 8 3 0, vR 8 2 0, vR 8 1 0]) (m1 := (setA M (lvK (up2 (up2 (up2 a 1 (6 * h + r) 0) 1 (6 * w + r) (nI md)) 7 w (a 7 w + 1)) r p n (n - 1)))) rfl ?_
      refine an_call k3 rfl rfl rfl rfl ?_
      refine an_b 4 (pc2 := 555) (L2 := [some (vR 3 0 0), some (vI x), some (vI y), some (vR 8 0 0), some (vR 8 1 0), some (vR 8 2 0), some (vR 8 3 0), some (vR 8 4 0), some (vR 8 5 0), some (vR 8 6 0), some (vR 8 7 0), some (vR 8 8 0), some (vI ac), some (vI (nI h)), some (vI (nI r)), some (vI (clT (setA M a) 0 1 h)), some (vI (nI w)), some (vI (nI p)), some (vI (nI md)), some (vI (v_X5_settle (hoC (svM m s) h r w) r)), none, none]) (st2 := [vI (6 : Int32), vR 8 0 0, vI (6 : Int32), vR 8 0 0]) (m1 := (setA M a1)) rfl ?_
      refine an_la 0 6 (by decide) (by show _ < 7; omega) rfl rfl ?_
      refine an_b 2 (pc2 := 558) (L2 := [some (vR 3 0 0), some (vI x), some (vI y), some (vR 8 0 0), some (vR 8 1 0), some (vR 8 2 0), some (vR 8 3 0), some (vR 8 4 0), some (vR 8 5 0), some (vR 8 6 0), some (vR 8 7 0), some (vR 8 8 0), some (vI ac), some (vI (nI h)), some (vI (nI r)), some (vI (clT (setA M a) 0 1 h)), some (vI (nI w)), some (vI (nI p)), some (vI (nI md)), some (vI (v_X5_settle (hoC (svM m s) h r w) r)), none, none]) (st2 := [vI ((a1 0 6) + (1 : Int32)), vI (6 : Int32), vR 8 0 0]) (m1 := (setA M a1)) rfl ?_
      refine an_sa 0 6 (by decide) (by show _ < 7; omega) rfl rfl ?_
      refine an_b 2 (pc2 := 561) (L2 := [some (vR 3 0 0), some (vI x), some (vI y), some (vR 8 0 0), some (vR 8 1 0), some (vR 8 2 0), some (vR 8 3 0), some (vR 8 4 0), some (vR 8 5 0), some (vR 8 6 0), some (vR 8 7 0), some (vR 8 8 0), some (vI ac), some (vI (nI h)), some (vI (nI r)), some (vI (clT (setA M a) 0 1 h)), some (vI (nI w)), some (vI (nI p)), some (vI (nI md)), some (vI (v_X5_settle (hoC (svM m s) h r w) r)), none, none]) (st2 := [vI (2 : Int32), vR 8 0 0]) (m1 := (setA M (up2 a1 0 6 (a1 0 6 + 1)))) rfl ?_
      refine an_la 0 2 (by decide) (by show _ < 7; omega) rfl rfl ?_
      refine an_b 2 (pc2 := if (6 : Int32) ≤ (nI s) then 574 else 567) (L2 := [some (vR 3 0 0), some (vI x), some (vI y), some (vR 8 0 0), some (vR 8 1 0), some (vR 8 2 0), some (vR 8 3 0), some (vR 8 4 0), some (vR 8 5 0), some (vR 8 6 0), some (vR 8 7 0), some (vR 8 8 0), some (vI ac), some (vI (nI h)), some (vI (nI r)), some (vI (clT (setA M a) 0 1 h)), some (vI (nI w)), some (vI (nI p)), some (vI (nI md)), some (vI (v_X5_settle (hoC (svM m s) h r w) r)), none, none]) (st2 := []) (m1 := (setA M (up2 a1 0 6 (a1 0 6 + 1)))) (by rw [H2]; rfl) ?_
      by_cases c6 : s < 6
      · refine an_f (nI_ge (b := 6) c6 (by omega)) ?_
        refine an_b 3 (pc2 := 570) (L2 := [some (vR 3 0 0), some (vI x), some (vI y), some (vR 8 0 0), some (vR 8 1 0), some (vR 8 2 0), some (vR 8 3 0), some (vR 8 4 0), some (vR 8 5 0), some (vR 8 6 0), some (vR 8 7 0), some (vR 8 8 0), some (vI ac), some (vI (nI h)), some (vI (nI r)), some (vI (clT (setA M a) 0 1 h)), some (vI (nI w)), some (vI (nI p)), some (vI (nI md)), some (vI (v_X5_settle (hoC (svM m s) h r w) r)), none, none]) (st2 := [vI (2 : Int32), vR 8 0 0, vI (2 : Int32), vR 8 0 0]) (m1 := (setA M (up2 a1 0 6 (a1 0 6 + 1)))) rfl ?_
        refine an_la 0 2 (by decide) (by show _ < 7; omega) rfl rfl ?_
        refine an_b 2 (pc2 := 573) (L2 := [some (vR 3 0 0), some (vI x), some (vI y), some (vR 8 0 0), some (vR 8 1 0), some (vR 8 2 0), some (vR 8 3 0), some (vR 8 4 0), some (vR 8 5 0), some (vR 8 6 0), some (vR 8 7 0), some (vR 8 8 0), some (vI ac), some (vI (nI h)), some (vI (nI r)), some (vI (clT (setA M a) 0 1 h)), some (vI (nI w)), some (vI (nI p)), some (vI (nI md)), some (vI (v_X5_settle (hoC (svM m s) h r w) r)), none, none]) (st2 := [vI (((up2 a1 0 6 (a1 0 6 + 1)) 0 2) + (1 : Int32)), vI (2 : Int32), vR 8 0 0]) (m1 := (setA M (up2 a1 0 6 (a1 0 6 + 1)))) rfl ?_
        rw [H2, nI_1, show s + 1 = svN s by unfold svN; rw [if_neg (by omega)]]
        refine an_sa 0 2 (by decide) (by show _ < 7; omega) rfl rfl ?_
        exact nx
      · have e6 : svN s = s := by unfold svN; rw [if_pos (by omega)]; omega
        have nx := an_me (show up2 (up2 a1 0 6 (a1 0 6 + 1)) 0 2 (nI (svN s)) = (up2 a1 0 6 (a1 0 6 + 1)) by rw [e6]; exact up2_e _ H2) nx
        refine an_t (nI_le (a := 6) (by omega) (by omega)) ?_
        exact nx
    · have ho0 := hho.mpr c5
      refine ⟨M, a, m, s, K, top _ ?_, W, H⟩
      refine an_b 6 (pc2 := 404) (L2 := [some (vR 3 0 0), some (vI x), some (vI y), some (vR 8 0 0), some (vR 8 1 0), some (vR 8 2 0), some (vR 8 3 0), some (vR 8 4 0), some (vR 8 5 0), some (vR 8 6 0), some (vR 8 7 0), some (vR 8 8 0), some (vI ac), some (vI (nI h)), some (vI (nI r)), some (vI (clT (setA M a) 0 1 h)), some (vI (nI w)), some (vI (nI p)), some (vI (nI n)), none, none, none]) (st2 := [vI (((6 : Int32) * (nI h)) + (nI r)), vR 8 1 0]) (m1 := (setA M a)) rfl ?_
      refine an_la 1 ((6 * h) + r) (by decide) (by show _ < 30; omega) (by simp only [ix_lit, pk_mul, nI_add]) rfl ?_
      refine an_b 1 (pc2 := if (zz m (5 + 12 * h + r)) = 0 then 454 else 408) (L2 := [some (vR 3 0 0), some (vI x), some (vI y), some (vR 8 0 0), some (vR 8 1 0), some (vR 8 2 0), some (vR 8 3 0), some (vR 8 4 0), some (vR 8 5 0), some (vR 8 6 0), some (vR 8 7 0), some (vR 8 8 0), some (vI ac), some (vI (nI h)), some (vI (nI r)), some (vI (clT (setA M a) 0 1 h)), some (vI (nI w)), some (vI (nI p)), some (vI (nI n)), none, none, none]) (st2 := []) (m1 := (setA M a)) (by rw [← eL]; rfl) ?_
      refine an_f c1 ?_
      refine an_b 3 (pc2 := if (clT (setA M a) 0 1 h) = (nI r) then 454 else 415) (L2 := [some (vR 3 0 0), some (vI x), some (vI y), some (vR 8 0 0), some (vR 8 1 0), some (vR 8 2 0), some (vR 8 3 0), some (vR 8 4 0), some (vR 8 5 0), some (vR 8 6 0), some (vR 8 7 0), some (vR 8 8 0), some (vI ac), some (vI (nI h)), some (vI (nI r)), some (vI (clT (setA M a) 0 1 h)), some (vI (nI w)), some (vI (nI p)), some (vI (nI n)), none, none, none]) (st2 := []) (m1 := (setA M a)) rfl ?_
      refine an_f c2 ?_
      refine an_b 3 (pc2 := if (nI w) = (nI h) then 454 else 422) (L2 := [some (vR 3 0 0), some (vI x), some (vI y), some (vR 8 0 0), some (vR 8 1 0), some (vR 8 2 0), some (vR 8 3 0), some (vR 8 4 0), some (vR 8 5 0), some (vR 8 6 0), some (vR 8 7 0), some (vR 8 8 0), some (vI ac), some (vI (nI h)), some (vI (nI r)), some (vI (clT (setA M a) 0 1 h)), some (vI (nI w)), some (vI (nI p)), some (vI (nI n)), none, none, none]) (st2 := []) (m1 := (setA M a)) rfl ?_
      refine an_f c3 ?_
      refine an_b 2 (pc2 := if (nI p) < 0 then 454 else 427) (L2 := [some (vR 3 0 0), some (vI x), some (vI y), some (vR 8 0 0), some (vR 8 1 0), some (vR 8 2 0), some (vR 8 3 0), some (vR 8 4 0), some (vR 8 5 0), some (vR 8 6 0), some (vR 8 7 0), some (vR 8 8 0), some (vI ac), some (vI (nI h)), some (vI (nI r)), some (vI (clT (setA M a) 0 1 h)), some (vI (nI w)), some (vI (nI p)), some (vI (nI n)), none, none, none]) (st2 := []) (m1 := (setA M a)) rfl ?_
      refine an_f (nI_pos (by omega)) ?_
      refine an_b 8 (pc2 := 440) (L2 := [some (vR 3 0 0), some (vI x), some (vI y), some (vR 8 0 0), some (vR 8 1 0), some (vR 8 2 0), some (vR 8 3 0), some (vR 8 4 0), some (vR 8 5 0), some (vR 8 6 0), some (vR 8 7 0), some (vR 8 8 0), some (vI ac), some (vI (nI h)), some (vI (nI r)), some (vI (clT (setA M a) 0 1 h)), some (vI (nI w)), some (vI (nI p)), some (vI (nI n)), none, none, none]) (st2 := [vI (((5 : Int32) * (nI r)) + (nI p)), vR 8 2 0, vI (nI r), vR 8 1 0]) (m1 := (setA M a)) rfl ?_
      refine an_la 2 ((5 * r) + p) (by decide) (by show _ < 36; omega) (by simp only [ix_lit, pk_mul, nI_add]) rfl ?_
      refine an_b 1 (pc2 := 443) (L2 := [some (vR 3 0 0), some (vI x), some (vI y), some (vR 8 0 0), some (vR 8 1 0), some (vR 8 2 0), some (vR 8 3 0), some (vR 8 4 0), some (vR 8 5 0), some (vR 8 6 0), some (vR 8 7 0), some (vR 8 8 0), some (vI ac), some (vI (nI h)), some (vI (nI r)), some (vI (clT (setA M a) 0 1 h)), some (vI (nI w)), some (vI (nI p)), some (vI (nI n)), none, none, none]) (st2 := [vI (8 : Int32), vI (a 2 ((5 * r) + p)), vI (nI r), vR 8 1 0]) (m1 := (setA M a)) rfl ?_
      refine an_b 1 (pc2 := 444) (L2 := [some (vR 3 0 0), some (vI x), some (vI y), some (vR 8 0 0), some (vR 8 1 0), some (vR 8 2 0), some (vR 8 3 0), some (vR 8 4 0), some (vR 8 5 0), some (vR 8 6 0), some (vR 8 7 0), some (vR 8 8 0), some (vI ac), some (vI (nI h)), some (vI (nI r)), some (vI (clT (setA M a) 0 1 h)), some (vI (nI w)), some (vI (nI p)), some (vI (nI n)), none, none, none]) (st2 := [vI ((a 2 ((5 * r) + p)) / (8 : Int32)), vI (nI r), vR 8 1 0]) (m1 := (setA M a)) rfl ?_
      rw [ed]
      refine an_b 2 (pc2 := 448) (L2 := [some (vR 3 0 0), some (vI x), some (vI y), some (vR 8 0 0), some (vR 8 1 0), some (vR 8 2 0), some (vR 8 3 0), some (vR 8 4 0), some (vR 8 5 0), some (vR 8 6 0), some (vR 8 7 0), some (vR 8 8 0), some (vI ac), some (vI (nI h)), some (vI (nI r)), some (vI (clT (setA M a) 0 1 h)), some (vI (nI w)), some (vI (nI p)), some (vI (nI n)), none, none, none]) (st2 := [vI (nI h), vI (nI w), vI (nI md), vI (nI r), vR 8 1 0]) (m1 := (setA M a)) rfl ?_
      refine an_call b1 rfl rfl rfl rfl ?_
      refine an_b 1 (pc2 := if b = 0 then 476 else 454) (L2 := [some (vR 3 0 0), some (vI x), some (vI y), some (vR 8 0 0), some (vR 8 1 0), some (vR 8 2 0), some (vR 8 3 0), some (vR 8 4 0), some (vR 8 5 0), some (vR 8 6 0), some (vR 8 7 0), some (vR 8 8 0), some (vI ac), some (vI (nI h)), some (vI (nI r)), some (vI (clT (setA M a) 0 1 h)), some (vI (nI w)), some (vI (nI p)), some (vI (nI n)), none, none, none]) (st2 := []) (m1 := (setA M a)) rfl ?_
      refine an_f c5 ?_
      exact rt ho0
  · rw [if_neg c4] at eP
    have ho0 : v_X5_canHandOn m h r (nI o) = 0 := by
      unfold v_X5_canHandOn
      rw [if_neg hcr, if_neg (fun u => c3 u.symm), if_neg (fun u => u eP)]
    rw [eP] at top rt
    refine ⟨M, a, m, s, K, top _ ?_, W, H⟩
    refine an_b 6 (pc2 := 404) (L2 := [some (vR 3 0 0), some (vI x), some (vI y), some (vR 8 0 0), some (vR 8 1 0), some (vR 8 2 0), some (vR 8 3 0), some (vR 8 4 0), some (vR 8 5 0), some (vR 8 6 0), some (vR 8 7 0), some (vR 8 8 0), some (vI ac), some (vI (nI h)), some (vI (nI r)), some (vI (clT (setA M a) 0 1 h)), some (vI (nI o)), some (vI ((-1 : Int32))), some (vI (nI n)), none, none, none]) (st2 := [vI (((6 : Int32) * (nI h)) + (nI r)), vR 8 1 0]) (m1 := (setA M a)) rfl ?_
    refine an_la 1 ((6 * h) + r) (by decide) (by show _ < 30; omega) (by simp only [ix_lit, pk_mul, nI_add]) rfl ?_
    refine an_b 1 (pc2 := if (zz m (5 + 12 * h + r)) = 0 then 454 else 408) (L2 := [some (vR 3 0 0), some (vI x), some (vI y), some (vR 8 0 0), some (vR 8 1 0), some (vR 8 2 0), some (vR 8 3 0), some (vR 8 4 0), some (vR 8 5 0), some (vR 8 6 0), some (vR 8 7 0), some (vR 8 8 0), some (vI ac), some (vI (nI h)), some (vI (nI r)), some (vI (clT (setA M a) 0 1 h)), some (vI (nI o)), some (vI ((-1 : Int32))), some (vI (nI n)), none, none, none]) (st2 := []) (m1 := (setA M a)) (by rw [← eL]; rfl) ?_
    refine an_f c1 ?_
    refine an_b 3 (pc2 := if (clT (setA M a) 0 1 h) = (nI r) then 454 else 415) (L2 := [some (vR 3 0 0), some (vI x), some (vI y), some (vR 8 0 0), some (vR 8 1 0), some (vR 8 2 0), some (vR 8 3 0), some (vR 8 4 0), some (vR 8 5 0), some (vR 8 6 0), some (vR 8 7 0), some (vR 8 8 0), some (vI ac), some (vI (nI h)), some (vI (nI r)), some (vI (clT (setA M a) 0 1 h)), some (vI (nI o)), some (vI ((-1 : Int32))), some (vI (nI n)), none, none, none]) (st2 := []) (m1 := (setA M a)) rfl ?_
    refine an_f c2 ?_
    refine an_b 3 (pc2 := if (nI o) = (nI h) then 454 else 422) (L2 := [some (vR 3 0 0), some (vI x), some (vI y), some (vR 8 0 0), some (vR 8 1 0), some (vR 8 2 0), some (vR 8 3 0), some (vR 8 4 0), some (vR 8 5 0), some (vR 8 6 0), some (vR 8 7 0), some (vR 8 8 0), some (vI ac), some (vI (nI h)), some (vI (nI r)), some (vI (clT (setA M a) 0 1 h)), some (vI (nI o)), some (vI ((-1 : Int32))), some (vI (nI n)), none, none, none]) (st2 := []) (m1 := (setA M a)) rfl ?_
    refine an_f c3 ?_
    refine an_b 2 (pc2 := if ((-1 : Int32)) < 0 then 454 else 427) (L2 := [some (vR 3 0 0), some (vI x), some (vI y), some (vR 8 0 0), some (vR 8 1 0), some (vR 8 2 0), some (vR 8 3 0), some (vR 8 4 0), some (vR 8 5 0), some (vR 8 6 0), some (vR 8 7 0), some (vR 8 8 0), some (vI ac), some (vI (nI h)), some (vI (nI r)), some (vI (clT (setA M a) 0 1 h)), some (vI (nI o)), some (vI ((-1 : Int32))), some (vI (nI n)), none, none, none]) (st2 := []) (m1 := (setA M a)) rfl ?_
    refine an_t (by decide) ?_
    exact rt ho0
end
