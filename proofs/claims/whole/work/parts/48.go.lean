/-! the model's acts where they are not refused -/
def svM (m : PM) (s : Nat) : PM := w_X5_save (wI m 7 0 0 5 0) s
theorem zz_svM (m : PM) (s : Nat) : zz (svM m s) = zz m := by
  unfold svM
  rw [zz_save, zz_w7]
theorem rr_save (m : PM) (s : Nat) (hs6 : s ≤ 6) (hs1 : sts m = nI s) : Rn MX5_save [vR 7 0 0] (wI m 7 0 0 5 0) none (svM m s) := by
  refine r_X5_save (wI m 7 0 0 5 0) s hs6 ?_
  rw [← hs1]
  unfold sts wI
  dsimp only
  rw [if_neg (by decide)]
theorem go_ask {J : (Nat → Int32) → Prop} (hJ : JJ J) (m : PM) (h r s : Nat) (md : Int32) (hh : h < 8) (hr : r < 12) (hmd : md = 1 ∨ md = 2 ∨ md = 3) (hw : v_X5_waits m (nI h) = 0) (h0 : J (zz m)) (hs6 : s ≤ 6) (hs1 : sts m = nI s) (c : cd_ask m (nI h) (nI r) md = 0) : Rn MX5_ask [vR 7 0 0, vI (nI h), vI (nI r), vI md] m (some (vI (v_X5_asks (svM m s) h r md))) (w_X5_asks (svM m s) h r md) := by
  have hq := hJ.1 _ h0
  refine rn_of [some (vR 7 0 0), some (vI (nI h)), some (vI (nI r)), some (vI md)] rfl ?_
  refine k_ask m (nI h) (nI r) md (ql_of hq) _ _ (thr_go (Q := 49) (Q2 := 47) (fun _ _ => rfl) c ?_)
  refine an_b 1 (pc2 := 50) (L2 := [some (vR 7 0 0), some (vI (nI h)), some (vI (nI r)), some (vI md)]) (st2 := [vR 7 0 0]) (m1 := wI m 7 0 0 5 0) rfl ?_
  refine an_call (rr_save m s hs6 hs1) rfl rfl rfl rfl ?_
  have jS : J (zz (svM m s)) := by rw [zz_svM]; exact h0
  have k := hJ.2.2.1 (svM m s) h r md jS hh hr hmd (by rw [waits_cong (zz_svM m s)]; exact hw)
  refine an_b 4 (pc2 := 57) (L2 := [some (vR 7 0 0), some (vI (nI h)), some (vI (nI r)), some (vI md)]) (st2 := [vI md, vI (nI r), vI (nI h), vR 7 0 0]) (m1 := svM m s) rfl ?_
  refine an_call (r_X5_asks (svM m s) h r md hh hr (hJ.1 _ jS) k.1 k.2.1) rfl rfl rfl rfl ?_
  exact an_ret rfl rfl rfl rfl rfl
theorem go_release (m : PM) (h r s : Nat) (hh : h < 8) (hr : r < 12) (hq : QA (zz m)) (hs6 : s ≤ 6) (hs1 : sts m = nI s) (c : cd_release m h r = 0) : Rn MX5_release [vR 7 0 0, vI (nI h), vI (nI r)] m (some (vI (v_X5_releases (svM m s) h r))) (w_X5_releases (svM m s) h r) := by
  refine rn_of [some (vR 7 0 0), some (vI (nI h)), some (vI (nI r))] rfl ?_
  refine k_release m h r hh hr (ql_of hq) _ _ (thr_go (Q := 39) (Q2 := 37) (fun _ _ => rfl) c ?_)
  refine an_b 1 (pc2 := 40) (L2 := [some (vR 7 0 0), some (vI (nI h)), some (vI (nI r))]) (st2 := [vR 7 0 0]) (m1 := wI m 7 0 0 5 0) rfl ?_
  refine an_call (rr_save m s hs6 hs1) rfl rfl rfl rfl ?_
  have qS : QA (zz (svM m s)) := by rw [zz_svM]; exact hq
  refine an_b 3 (pc2 := 46) (L2 := [some (vR 7 0 0), some (vI (nI h)), some (vI (nI r))]) (st2 := [vI (nI r), vI (nI h), vR 7 0 0]) (m1 := svM m s) rfl ?_
  refine an_call (r_X5_releases (svM m s) h r hh hr qS) rfl rfl rfl rfl ?_
  exact an_ret rfl rfl rfl rfl rfl
def giveW (m : PM) (h s : Nat) : PM := w_X5_settle (w_X5_unqueue (svM m s) (rowN (svM m s) (nI h)) (plcN (svM m s) (nI h) (rowN (svM m s) (nI h)))) (rowN (svM m s) (nI h))
theorem go_giveUp (m : PM) (h s : Nat) (hw : ¬ v_X5_rowOf m (nI h) = -1) (hq : QA (zz m)) (hs6 : s ≤ 6) (hs1 : sts m = nI s) (c : cd_giveUp m (nI h) = 0) : Rn MX5_giveUp [vR 7 0 0, vI (nI h)] m (some (vI (v_X5_rowOf (svM m s) (nI h)))) (giveW m h s) := by
  refine rn_of [some (vR 7 0 0), some (vI (nI h)), none, none] rfl ?_
  refine k_giveUp m (nI h) (ql_of hq) _ _ (thr_go (Q := 37) (Q2 := 35) (fun _ _ => rfl) c ?_)
  refine an_b 1 (pc2 := 38) (L2 := [some (vR 7 0 0), some (vI (nI h)), none, none]) (st2 := [vR 7 0 0]) (m1 := wI m 7 0 0 5 0) rfl ?_
  refine an_call (rr_save m s hs6 hs1) rfl rfl rfl rfl ?_
  have qS : QA (zz (svM m s)) := by rw [zz_svM]; exact hq
  have hw2 : ¬ v_X5_rowOf (svM m s) (nI h) = -1 := by rw [rowOf_cong (zz_svM m s)]; exact hw
  unfold giveW
  generalize svM m s = w at qS hw2 ⊢
  obtain ⟨e1, hr, hp0⟩ := row_N hw2
  obtain ⟨e2, hp, hp2, _⟩ := plc_N (ql_of qS) hr hp0
  refine an_b 2 (pc2 := 43) (L2 := [some (vR 7 0 0), some (vI (nI h)), none, none]) (st2 := [vI (nI h), vR 7 0 0]) (m1 := w) rfl ?_
  refine an_call (r_X5_rowOf w (nI h) (ql_of qS)) rfl rfl rfl rfl ?_
  rw [e1]
  generalize rowN w (nI h) = r at *
  refine an_b 6 (pc2 := 52) (L2 := [some (vR 7 0 0), some (vI (nI h)), some (vI (nI r)), none]) (st2 := [vI (nI r), vI (nI h), vR 7 0 0, vI (nI r), vR 7 0 0]) (m1 := w) rfl ?_
  refine an_call (r_X5_placeIn w (nI h) r hr (ql_of qS)) rfl rfl rfl rfl ?_
  rw [e2]
  generalize plcN w (nI h) r = p at *
  refine an_call (rr_unqueue w r p hr hp2 qS) rfl rfl rfl rfl ?_
  refine an_b 2 (pc2 := 60) (L2 := [some (vR 7 0 0), some (vI (nI h)), some (vI (nI r)), none]) (st2 := [vI (nI r), vR 7 0 0]) (m1 := w_X5_unqueue w r p) rfl ?_
  refine an_call (rr_settle _ r hr (qa_unq hr hp2 qS)) rfl rfl rfl rfl ?_
  refine an_b 2 (pc2 := 65) (L2 := [some (vR 7 0 0), some (vI (nI h)), some (vI (nI r)), some (vI (v_X5_settle (w_X5_unqueue w r p) r))]) (st2 := [vI (nI r)]) (m1 := w_X5_settle (w_X5_unqueue w r p) r) rfl ?_
  exact an_ret rfl rfl rfl rfl rfl
def b_X5_pass_1 (_ : Nat) (s : PM) : PM := w_X5_tick s
def passW (m : PM) (k s : Nat) : PM := lp b_X5_pass_1 k 0 (svM m s)
theorem go_pass (m : PM) (k s : Nat) (hk : k ≤ 100) (hq : QA (zz m)) (hs6 : s ≤ 6) (hs1 : sts m = nI s) (c : cd_pass m (nI k) = 0) : Rn MX5_pass [vR 7 0 0, vI (nI k)] m (some (vI (zz (passW m k s) 4 - zz m 4))) (passW m k s) := by
  refine rn_of [some (vR 7 0 0), some (vI (nI k)), none, none, none] rfl ?_
  refine k_pass m (nI k) _ _ (thr_go (Q := 28) (Q2 := 26) (fun _ _ => rfl) c ?_)
  refine an_b 1 (pc2 := 29) (L2 := [some (vR 7 0 0), some (vI (nI k)), none, none, none]) (st2 := [vR 7 0 0]) (m1 := wI m 7 0 0 5 0) rfl ?_
  refine an_call (rr_save m s hs6 hs1) rfl rfl rfl rfl ?_
  have qS : QA (zz (svM m s)) := by rw [zz_svM]; exact hq
  refine an_b 3 (pc2 := 37) (L2 := [some (vR 7 0 0), some (vI (nI k)), none, none, none]) (st2 := [vI 4, vR 8 0 0]) (m1 := svM m s) rfl ?_
  refine an_ald 4 361 rfl rfl rfl (by omega) (by omega) ?_
  rw [show (svM m s).1 8 0 0 4 = zz m 4 from congrFun (zz_svM m s) 4]
  generalize zz m 4 = before
  refine an_b 3 (pc2 := 41) (L2 := [some (vR 7 0 0), some (vI (nI k)), some (vI before), some (vI 0), none]) (st2 := []) (m1 := svM m s) rfl ?_
  refine re_lpi (σ := PM) b_X5_pass_1 (fun _ w => QA (zz w)) (fun j w => (41, [some (vR 7 0 0), some (vI (nI k)), some (vI before), some (vI (nI j)), none], [], w)) k (fun w => (58, [some (vR 7 0 0), some (vI (nI k)), some (vI before), some (vI (nI k)), none], [], w)) (fun j w hj hw => qa_tick hw) (fun j w hj hw v9 m9 K => ?_) (fun w hw v9 m9 K => ?_) k 0 (svM m s) (Nat.add_zero _) qS _ _ ?_
  · show An MX5_pass 41 [some (vR 7 0 0), some (vI (nI k)), some (vI before), some (vI (nI j)), none] [] w v9 m9
    have K : An MX5_pass 41 [some (vR 7 0 0), some (vI (nI k)), some (vI before), some (vI (nI (j + 1))), none] [] (w_X5_tick w) v9 m9 := K
    refine an_b 3 (pc2 := if nI k ≤ nI j then 58 else 46) (L2 := [some (vR 7 0 0), some (vI (nI k)), some (vI before), some (vI (nI j)), none]) (st2 := []) (m1 := w) rfl ?_
    refine an_f (nI_ge (by omega) (by omega)) ?_
    refine an_b 1 (pc2 := 47) (L2 := [some (vR 7 0 0), some (vI (nI k)), some (vI before), some (vI (nI j)), none]) (st2 := [vR 7 0 0]) (m1 := w) rfl ?_
    refine an_call (r_X5_tick w hw) rfl rfl rfl rfl ?_
    refine an_b 3 (pc2 := 41) (L2 := [some (vR 7 0 0), some (vI (nI k)), some (vI before), some (vI (nI j + 1)), some (vI (v_X5_tick w))]) (st2 := []) (m1 := w_X5_tick w) rfl ?_
    rw [nI_1]
    exact an_weak (L := [some (vR 7 0 0), some (vI (nI k)), some (vI before), some (vI (nI (j + 1))), none]) (⟨rfl, rfl, rfl, rfl, trivial⟩) K
  · show An MX5_pass 41 [some (vR 7 0 0), some (vI (nI k)), some (vI before), some (vI (nI k)), none] [] w v9 m9
    refine an_b 3 (pc2 := if nI k ≤ nI k then 58 else 46) (L2 := [some (vR 7 0 0), some (vI (nI k)), some (vI before), some (vI (nI k)), none]) (st2 := []) (m1 := w) rfl ?_
    exact an_t (nI_le (Nat.le_refl _) (by omega)) K
  show An MX5_pass 58 [some (vR 7 0 0), some (vI (nI k)), some (vI before), some (vI (nI k)), none] [] (passW m k s) _ _
  refine an_b 3 (pc2 := 63) (L2 := [some (vR 7 0 0), some (vI (nI k)), some (vI before), some (vI (nI k)), none]) (st2 := [vI 4, vR 8 0 0]) (m1 := passW m k s) rfl ?_
  refine an_ald 4 361 rfl rfl rfl (by omega) (by omega) ?_
  refine an_b 2 (pc2 := 66) (L2 := [some (vR 7 0 0), some (vI (nI k)), some (vI before), some (vI (nI k)), none]) (st2 := [vI (zz (passW m k s) 4 - before)]) (m1 := passW m k s) rfl ?_
  exact an_ret rfl rfl rfl rfl rfl
theorem go_set (m : PM) (i s : Nat) (x : Int32) (hi : i < 3) (hs6 : s ≤ 6) (hs1 : sts m = nI s) (c : cd_set m (nI i) x = 0) : Rn MX5_set [vR 7 0 0, vI (nI i), vI x] m (some (vI (zz m (0 + i)))) (wI (svM m s) 8 0 0 (0 + i) x) := by
  refine rn_of [some (vR 7 0 0), some (vI (nI i)), some (vI x), none] rfl ?_
  refine k_set m (nI i) x _ _ (thr_go (Q := 37) (Q2 := 35) (fun _ _ => rfl) c ?_)
  refine an_b 1 (pc2 := 38) (L2 := [some (vR 7 0 0), some (vI (nI i)), some (vI x), none]) (st2 := [vR 7 0 0]) (m1 := wI m 7 0 0 5 0) rfl ?_
  refine an_call (rr_save m s hs6 hs1) rfl rfl rfl rfl ?_
  refine an_b 5 (pc2 := 48) (L2 := [some (vR 7 0 0), some (vI (nI i)), some (vI x), none]) (st2 := [vI ((0 : Int32) + nI i), vR 8 0 0]) (m1 := svM m s) rfl ?_
  refine an_ald (0 + i) 361 rfl rfl (by simp only [ix_lit, nI_add]) (by omega) (by omega) ?_
  rw [show (svM m s).1 8 0 0 (0 + i) = zz m (0 + i) from congrFun (zz_svM m s) (0 + i)]
  refine an_b 7 (pc2 := 58) (L2 := [some (vR 7 0 0), some (vI (nI i)), some (vI x), some (vI (zz m (0 + i)))]) (st2 := [vI x, vI ((0 : Int32) + nI i), vR 8 0 0]) (m1 := svM m s) rfl ?_
  refine an_ast (0 + i) 361 rfl rfl (by decide) (by simp only [ix_lit, nI_add]) (by omega) (by omega) ?_
  refine an_b 1 (pc2 := 60) (L2 := [some (vR 7 0 0), some (vI (nI i)), some (vI x), some (vI (zz m (0 + i)))]) (st2 := [vI (zz m (0 + i))]) (m1 := wI (svM m s) 8 0 0 (0 + i) x) rfl ?_
  exact an_ret rfl rfl rfl rfl rfl
theorem go_cool (m : PM) (r s : Nat) (hr : r < 12) (hs6 : s ≤ 6) (hs1 : sts m = nI s) (c : cd_cool m r = 0) : Rn MX5_cool [vR 7 0 0, vI (nI r)] m (some (vI (zz m (101 + r)))) (wI (svM m s) 8 0 0 (101 + r) 0) := by
  refine rn_of [some (vR 7 0 0), some (vI (nI r)), none] rfl ?_
  refine k_cool m r hr _ _ (thr_go (Q := 37) (Q2 := 35) (fun _ _ => rfl) c ?_)
  refine an_b 1 (pc2 := 38) (L2 := [some (vR 7 0 0), some (vI (nI r)), none]) (st2 := [vR 7 0 0]) (m1 := wI m 7 0 0 5 0) rfl ?_
  refine an_call (rr_save m s hs6 hs1) rfl rfl rfl rfl ?_
  refine an_b 5 (pc2 := 49) (L2 := [some (vR 7 0 0), some (vI (nI r)), none]) (st2 := [vI ((101 : Int32) + nI r), vR 8 0 0]) (m1 := svM m s) rfl ?_
  refine an_ald (101 + r) 361 rfl rfl (by simp only [ix_lit, nI_add]) (by omega) (by omega) ?_
  rw [show (svM m s).1 8 0 0 (101 + r) = zz m (101 + r) from congrFun (zz_svM m s) (101 + r)]
  refine an_b 7 (pc2 := 60) (L2 := [some (vR 7 0 0), some (vI (nI r)), some (vI (zz m (101 + r)))]) (st2 := [vI 0, vI ((101 : Int32) + nI r), vR 8 0 0]) (m1 := svM m s) rfl ?_
  refine an_ast (101 + r) 361 rfl rfl (by decide) (by simp only [ix_lit, nI_add]) (by omega) (by omega) ?_
  refine an_b 1 (pc2 := 62) (L2 := [some (vR 7 0 0), some (vI (nI r)), some (vI (zz m (101 + r)))]) (st2 := [vI (zz m (101 + r))]) (m1 := wI (svM m s) 8 0 0 (101 + r) 0) rfl ?_
  exact an_ret rfl rfl rfl rfl rfl
theorem go_burnsIn (m : PM) (r : Nat) (hr : r < 12) (hq : QA (zz m)) (c : cd_burnsIn m (nI r) = 0) : Rn MX5_burnsIn [vR 7 0 0, vI (nI r)] m (some (vI (v_X5_burnsNow (wI m 7 0 0 5 0) r))) (w_X5_burnsNow (wI m 7 0 0 5 0) r) := by
  refine rn_of [some (vR 7 0 0), some (vI (nI r))] rfl ?_
  refine k_burnsIn m (nI r) _ _ (thr_go (Q := 27) (Q2 := 23) (fun _ _ => rfl) c ?_)
  refine an_b 2 (pc2 := 29) (L2 := [some (vR 7 0 0), some (vI (nI r))]) (st2 := [vI (nI r), vR 7 0 0]) (m1 := wI m 7 0 0 5 0) rfl ?_
  refine an_call (r_X5_burnsNow (wI m 7 0 0 5 0) r hr (by rw [zz_w7]; exact hq)) rfl rfl rfl rfl ?_
  exact an_ret rfl rfl rfl rfl rfl
theorem go_ifAsked {J : (Nat → Int32) → Prop} (hJ : JJ J) (m : PM) (h r : Nat) (md what : Int32) (hh : h < 8) (hr : r < 12) (hmd : md = 1 ∨ md = 2 ∨ md = 3) (h0 : J (zz m)) (c : cd_ifAsked m (nI h) (nI r) md what = 0) : Rn MX5_ifAsked [vR 7 0 0, vI (nI h), vI (nI r), vI md, vI what] m (some (vI (v_X5_askedThen (wI m 7 0 0 5 0) h r md what))) (w_X5_askedThen (wI m 7 0 0 5 0) h r md) := by
  refine rn_of [some (vR 7 0 0), some (vI (nI h)), some (vI (nI r)), some (vI md), some (vI what)] rfl ?_
  refine k_ifAsked m (nI h) (nI r) md what _ _ (thr_go (Q := 49) (Q2 := 45) (fun _ _ => rfl) c ?_)
  refine an_b 5 (pc2 := 55) (L2 := [some (vR 7 0 0), some (vI (nI h)), some (vI (nI r)), some (vI md), some (vI what)]) (st2 := [vI what, vI md, vI (nI r), vI (nI h), vR 7 0 0]) (m1 := wI m 7 0 0 5 0) rfl ?_
  refine an_call (rr_askedThen hJ (wI m 7 0 0 5 0) h r md what hh hr hmd (by rw [zz_w7]; exact h0)) rfl rfl rfl rfl ?_
  exact an_ret rfl rfl rfl rfl rfl
theorem r_X5_firstError (m : PM) (len : Nat) (hl : m.1 7 0 0 3 = nI len) (h60 : len ≤ 60) : Rn MX5_firstError [vR 7 0 0] m (some (vI (nI (rgK (wI m 7 0 0 5 0) len)))) (w_X5_rightUpTo (wI m 7 0 0 5 0) len) := by
  refine rn_of [some (vR 7 0 0)] rfl ?_
  refine an_b 4 (pc2 := 6) (L2 := [some (vR 7 0 0)]) (st2 := [vR 7 0 0]) (m1 := wI m 7 0 0 5 0) rfl ?_
  refine an_call (r_X5_rightUpTo (wI m 7 0 0 5 0) len ?_ h60) rfl rfl rfl rfl ?_
  · rw [← hl]
    unfold wI
    dsimp only
    rw [if_neg (by decide)]
  exact an_ret rfl rfl rfl rfl rfl
