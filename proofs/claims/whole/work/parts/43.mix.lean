/-! share, the digest's mixing -/
def v_X5_share (m : PM) : UInt64 := if ¬ v_X5_sumFrom m 353 8 = 0 then FP.ddiv (FP.i2d (v_X5_sumFrom m 345 8)) (FP.i2d (v_X5_sumFrom m 353 8)) else FP.dconst1
theorem r_X5_share (m : PM) : Rn MX5_share [vR 7 0 0] m (some (vD (v_X5_share m))) m := by
  refine rn_of [some (vR 7 0 0), none] rfl ?_
  unfold v_X5_share
  refine an_b 3 (pc2 := 6) (L2 := [some (vR 7 0 0), none]) (st2 := [vI (nI 8), vI (nI 353), vR 7 0 0]) (m1 := m) rfl ?_
  refine an_call (r_X5_sumFrom m 353 8 (by decide) (by decide)) rfl rfl rfl rfl ?_
  refine an_b 3 (pc2 := if ¬ v_X5_sumFrom m 353 8 = 0 then 18 else 14) (L2 := [some (vR 7 0 0), some (vI (v_X5_sumFrom m 353 8))]) (st2 := []) (m1 := m) rfl ?_
  refine an_ifd (fun h => ?_) (fun h => ?_)
  · refine an_b 3 (pc2 := 24) (L2 := [some (vR 7 0 0), some (vI (v_X5_sumFrom m 353 8))]) (st2 := [vI (nI 8), vI (nI 345), vR 7 0 0]) (m1 := m) rfl ?_
    refine an_call (r_X5_sumFrom m 345 8 (by decide) (by decide)) rfl rfl rfl rfl ?_
    refine an_b 3 (pc2 := 30) (L2 := [some (vR 7 0 0), some (vI (v_X5_sumFrom m 353 8))]) (st2 := [vD (FP.i2d (v_X5_sumFrom m 353 8)), vD (FP.i2d (v_X5_sumFrom m 345 8))]) (m1 := m) rfl ?_
    refine one_ddiv rfl (fp_div_ok _ _ h) ?_
    exact an_ret rfl rfl rfl rfl rfl
  · refine an_b 2 (pc2 := 31) (L2 := [some (vR 7 0 0), some (vI (v_X5_sumFrom m 353 8))]) (st2 := [vD FP.dconst1]) (m1 := m) rfl ?_
    exact an_ret rfl rfl rfl rfl rfl
def v_X5_grantedShare (m : PM)  : UInt64 := (v_X5_share (wI m 7 0 0 5 (0 : Int32)))
def w_X5_grantedShare (m : PM)  : PM := (wI m 7 0 0 5 (0 : Int32))
set_option maxRecDepth 100000 in
theorem r_X5_grantedShare (m : PM)  : Rn MX5_grantedShare [vR 7 0 0] m (some (vD (v_X5_grantedShare m))) (w_X5_grantedShare m) := by
  refine rn_of [some (vR 7 0 0)] rfl ?_
  unfold v_X5_grantedShare w_X5_grantedShare
  refine an_b 4 (pc2 := 6) (L2 := [some (vR 7 0 0)]) (st2 := [vR 7 0 0]) (m1 := (wI m 7 0 0 5 (0 : Int32))) rfl ?_
  refine an_call (r_X5_share (wI m 7 0 0 5 (0 : Int32))) rfl rfl rfl rfl ?_
  exact an_ret rfl rfl rfl rfl rfl
theorem placeIn_cong {m m2 : PM} (e : zz m2 = zz m) (a : Int32) (r : Nat) : v_X5_placeIn m2 a r = v_X5_placeIn m a r := by
  have e0 : ∀ i, m2.1 8 0 0 i = m.1 8 0 0 i := fun i => congrFun e i
  unfold v_X5_placeIn
  have b : b_X5_placeIn_1 m2 a r = b_X5_placeIn_1 m a r := by
    funext j s
    unfold b_X5_placeIn_1 v_X5_whoAt
    rw [e0]
  rw [b, e0]
theorem rowOf_cong {m m2 : PM} (e : zz m2 = zz m) (a : Int32) : v_X5_rowOf m2 a = v_X5_rowOf m a := by
  unfold v_X5_rowOf
  have b : b_X5_rowOf_1 m2 a = b_X5_rowOf_1 m a := by
    funext j s
    unfold b_X5_rowOf_1
    rw [placeIn_cong e]
  rw [b]
theorem waits_cong {m m2 : PM} (e : zz m2 = zz m) (a : Int32) : v_X5_waits m2 a = v_X5_waits m a := by
  unfold v_X5_waits
  rw [rowOf_cong e]
theorem keep_k (m : PM) (i : Nat) (hi : i < 361) : (w_X5_keep m).1 8 4 0 i = zz m i := by
  have k := lp_inv (b_X5_keep_1 m) 361 (fun j s => zz s = zz m ∧ ∀ i, i < j → s.1 8 4 0 i = zz m i) (fun j s hj h => ⟨?_, fun i hi => ?_⟩) 361 0 m rfl ⟨rfl, fun i hi => absurd hi (by omega)⟩
  · exact k.2 i hi
  · rw [← h.1]
    funext i
    unfold b_X5_keep_1 zz wI
    dsimp only
    rw [if_neg (by omega)]
  · unfold b_X5_keep_1 wI
    dsimp only
    by_cases c : i = j
    · subst c
      rw [if_pos ⟨rfl, rfl, rfl, rfl⟩]
      exact congrFun h.1 i
    · rw [if_neg (by omega)]
      exact h.2 i (by omega)
theorem layBack_z (m : PM) (i : Nat) (hi : i < 361) : zz (w_X5_layBack m) i = m.1 8 4 0 i := by
  have k := lp_inv (b_X5_layBack_1 m) 361 (fun j s => (∀ i, s.1 8 4 0 i = m.1 8 4 0 i) ∧ ∀ i, i < j → zz s i = m.1 8 4 0 i) (fun j s hj h => ⟨fun i => ?_, fun i hi => ?_⟩) 361 0 m rfl ⟨fun _ => rfl, fun i hi => absurd hi (by omega)⟩
  · exact k.2 i hi
  · rw [← h.1 i]
    unfold b_X5_layBack_1 wI
    dsimp only
    rw [if_neg (by omega)]
  · unfold b_X5_layBack_1 zz wI
    dsimp only
    by_cases c : i = j
    · subst c
      rw [if_pos ⟨rfl, rfl, rfl, rfl⟩]
      exact h.1 i
    · rw [if_neg (by omega)]
      exact h.2 i (by omega)
theorem bnz_oz (r : Nat) : ∀ (d k : Nat) (m : PM), OZ m (bnz r d k m).2 := by
  intro d
  induction d with
  | zero => intro k m; exact oz_refl m
  | succ d ih =>
    intro k m
    unfold bnz
    split
    · exact oz_tick m
    · exact oz_trans (oz_tick m) (ih _ _)
theorem burnsNow_z (m : PM) (r i : Nat) (hi : i < 361) : zz (w_X5_burnsNow m r) i = zz m i := by
  unfold w_X5_burnsNow
  rw [layBack_z _ i hi, (bnz_oz r 300 1 (w_X5_keep m)).1 8 4 0 i (by decide), keep_k m i hi]
theorem askedThen_z (m : PM) (h r : Nat) (md : Int32) (i : Nat) (hi : i < 361) : zz (w_X5_askedThen m h r md) i = zz m i := by
  unfold w_X5_askedThen
  split
  · rw [layBack_z _ i hi, (oz_asks (w_X5_keep m) h r md).1 8 4 0 i (by decide), keep_k m i hi]
  · rfl
theorem rr_askedThen {J : (Nat → Int32) → Prop} (hJ : JJ J) (m : PM) (h r : Nat) (md what : Int32) (hh : h < 8) (hr : r < 12) (hmd : md = 1 ∨ md = 2 ∨ md = 3) (h0 : J (zz m)) : Rn MX5_askedThen [vR 7 0 0, vI (nI h), vI (nI r), vI md, vI what] m (some (vI (v_X5_askedThen m h r md what))) (w_X5_askedThen m h r md) := by
  have k : v_X5_waits m (nI h) = 0 → _ := fun c => hJ.2.2.1 (w_X5_keep m) h r md (by rw [zz_keep]; exact h0) hh hr hmd (by rw [waits_cong (zz_keep m)]; exact c)
  exact r_X5_askedThen m h r md what hh hr (hJ.1 _ h0) (fun c => (k c).1) (fun c => (k c).2.1)
theorem j_asked {J : (Nat → Int32) → Prop} (hJ : JJ J) {m : PM} {h r : Nat} {md : Int32} (h0 : J (zz m)) : J (zz (w_X5_askedThen m h r md)) := hJ.2.1 _ _ h0 (askedThen_z m h r md)
theorem j_burns {J : (Nat → Int32) → Prop} (hJ : JJ J) {m : PM} {r : Nat} (h0 : J (zz m)) : J (zz (w_X5_burnsNow m r)) := hJ.2.1 _ _ h0 (burnsNow_z m r)
/-! a hand's part, a row's part of the digest -/
def b_X5_mixHand_1 (h : Nat) (j : Nat) (s : PM) : PM := w_X5_mix s (v_X5_handNow s h j).toInt64
def b_X5_mixHand_2 (h : Nat) (j : Nat) (s : PM) : PM := w_X5_mix s (v_X5_lockOf s h j).toInt64
def mixHand_1 (m : PM) (h : Nat) : PM := lp (b_X5_mixHand_1 h) 9 0 m
def mixHand_2 (m : PM) (h : Nat) : PM := lp (b_X5_mixHand_2 h) 12 0 (mixHand_1 m h)
def w_X5_mixHand (m : PM) (h : Nat) : PM := w_X5_mix (mixHand_2 m h) (v_X5_waitsOver (mixHand_2 m h) (nI h)).toInt64
theorem zz_mix (m : PM) (x : Int64) : zz (w_X5_mix m x) = zz m := rfl
theorem zz_mh1 (m : PM) (h : Nat) : zz (mixHand_1 m h) = zz m := lp_inv (b_X5_mixHand_1 h) 9 (fun _ s => zz s = zz m) (fun _ _ _ hs => hs) 9 0 m rfl rfl
theorem zz_mh2 (m : PM) (h : Nat) : zz (mixHand_2 m h) = zz m := lp_inv (b_X5_mixHand_2 h) 12 (fun _ s => zz s = zz m) (fun _ _ _ hs => hs) 12 0 (mixHand_1 m h) rfl (zz_mh1 m h)
theorem zz_mixHand (m : PM) (h : Nat) : zz (w_X5_mixHand m h) = zz m := by
  unfold w_X5_mixHand
  rw [zz_mix]
  exact zz_mh2 m h
theorem r_X5_mixHand (m : PM) (h : Nat) (hh : h < 8) (hq : QA (zz m)) : Rn MX5_mixHand [vR 7 0 0, vI (nI h)] m none (w_X5_mixHand m h) := by
  refine rn_of [some (vR 7 0 0), some (vI (nI h)), none] rfl ?_
  refine an_b 2 (pc2 := 2) (L2 := [some (vR 7 0 0), some (vI (nI h)), some (vI 0)]) (st2 := []) (m1 := m) rfl ?_
  refine re_lpi (σ := PM) (b_X5_mixHand_1 h) (fun _ s => QA (zz s)) (fun j s => (2, [some (vR 7 0 0), some (vI (nI h)), some (vI (nI j))], [], s)) 9 (fun s => (25, [some (vR 7 0 0), some (vI (nI h)), some (vI (nI 9))], [], s)) (fun j s hj hs => hs) (fun j s hj hs v9 m9 K => ?_) (fun s hs v9 m9 K => ?_) 9 0 m rfl hq _ _ ?_
  · show An MX5_mixHand 2 [some (vR 7 0 0), some (vI (nI h)), some (vI (nI j))] [] s v9 m9
    refine an_b 3 (pc2 := if (9 : Int32) ≤ nI j then 25 else 8) (L2 := [some (vR 7 0 0), some (vI (nI h)), some (vI (nI j))]) (st2 := []) (m1 := s) rfl ?_
    refine an_f (nI_ge (a := j) (b := 9) (by omega) (by omega)) ?_
    refine an_b 4 (pc2 := 12) (L2 := [some (vR 7 0 0), some (vI (nI h)), some (vI (nI j))]) (st2 := [vI (nI j), vI (nI h), vR 7 0 0, vR 7 0 0]) (m1 := s) rfl ?_
    refine an_call (r_X5_handNow s h j hh hj (ql_of hs)) rfl rfl rfl rfl ?_
    refine an_b 1 (pc2 := 16) (L2 := [some (vR 7 0 0), some (vI (nI h)), some (vI (nI j))]) (st2 := [vL (v_X5_handNow s h j).toInt64, vR 7 0 0]) (m1 := s) rfl ?_
    refine an_call (r_X5_mix s (v_X5_handNow s h j).toInt64) rfl rfl rfl rfl ?_
    refine an_b 2 (pc2 := 2) (L2 := [some (vR 7 0 0), some (vI (nI h)), some (vI (nI j + 1))]) (st2 := []) (m1 := b_X5_mixHand_1 h j s) rfl ?_
    rw [nI_1]
    exact K
  · show An MX5_mixHand 2 [some (vR 7 0 0), some (vI (nI h)), some (vI (nI 9))] [] s v9 m9
    refine an_b 3 (pc2 := if (9 : Int32) ≤ nI 9 then 25 else 8) (L2 := [some (vR 7 0 0), some (vI (nI h)), some (vI (nI 9))]) (st2 := []) (m1 := s) rfl ?_
    exact an_t (by decide) K
  show An MX5_mixHand 25 [some (vR 7 0 0), some (vI (nI h)), some (vI (nI 9))] [] (mixHand_1 m h) _ _
  refine an_b 2 (pc2 := 27) (L2 := [some (vR 7 0 0), some (vI (nI h)), some (vI 0)]) (st2 := []) (m1 := mixHand_1 m h) rfl ?_
  refine re_lpi (σ := PM) (b_X5_mixHand_2 h) (fun _ s => QA (zz s)) (fun j s => (27, [some (vR 7 0 0), some (vI (nI h)), some (vI (nI j))], [], s)) 12 (fun s => (50, [some (vR 7 0 0), some (vI (nI h)), some (vI (nI 12))], [], s)) (fun j s hj hs => hs) (fun j s hj hs v9 m9 K => ?_) (fun s hs v9 m9 K => ?_) 12 0 (mixHand_1 m h) rfl (by rw [zz_mh1]; exact hq) _ _ ?_
  · show An MX5_mixHand 27 [some (vR 7 0 0), some (vI (nI h)), some (vI (nI j))] [] s v9 m9
    refine an_b 3 (pc2 := if (12 : Int32) ≤ nI j then 50 else 33) (L2 := [some (vR 7 0 0), some (vI (nI h)), some (vI (nI j))]) (st2 := []) (m1 := s) rfl ?_
    refine an_f (nI_ge (a := j) (b := 12) (by omega) (by omega)) ?_
    refine an_b 4 (pc2 := 37) (L2 := [some (vR 7 0 0), some (vI (nI h)), some (vI (nI j))]) (st2 := [vI (nI j), vI (nI h), vR 7 0 0, vR 7 0 0]) (m1 := s) rfl ?_
    refine an_call (r_X5_lockOf s h j hh hj) rfl rfl rfl rfl ?_
    refine an_b 1 (pc2 := 41) (L2 := [some (vR 7 0 0), some (vI (nI h)), some (vI (nI j))]) (st2 := [vL (v_X5_lockOf s h j).toInt64, vR 7 0 0]) (m1 := s) rfl ?_
    refine an_call (r_X5_mix s (v_X5_lockOf s h j).toInt64) rfl rfl rfl rfl ?_
    refine an_b 2 (pc2 := 27) (L2 := [some (vR 7 0 0), some (vI (nI h)), some (vI (nI j + 1))]) (st2 := []) (m1 := b_X5_mixHand_2 h j s) rfl ?_
    rw [nI_1]
    exact K
  · show An MX5_mixHand 27 [some (vR 7 0 0), some (vI (nI h)), some (vI (nI 12))] [] s v9 m9
    refine an_b 3 (pc2 := if (12 : Int32) ≤ nI 12 then 50 else 33) (L2 := [some (vR 7 0 0), some (vI (nI h)), some (vI (nI 12))]) (st2 := []) (m1 := s) rfl ?_
    exact an_t (by decide) K
  show An MX5_mixHand 50 [some (vR 7 0 0), some (vI (nI h)), some (vI (nI 12))] [] (mixHand_2 m h) _ _
  refine an_b 3 (pc2 := 53) (L2 := [some (vR 7 0 0), some (vI (nI h)), some (vI (nI 12))]) (st2 := [vI (nI h), vR 7 0 0, vR 7 0 0]) (m1 := mixHand_2 m h) rfl ?_
  refine an_call (r_X5_waitsOver (mixHand_2 m h) (nI h) (ql_of (by rw [zz_mh2]; exact hq))) rfl rfl rfl rfl ?_
  refine an_b 1 (pc2 := 57) (L2 := [some (vR 7 0 0), some (vI (nI h)), some (vI (nI 12))]) (st2 := [vL (v_X5_waitsOver (mixHand_2 m h) (nI h)).toInt64, vR 7 0 0]) (m1 := mixHand_2 m h) rfl ?_
  refine an_call (r_X5_mix (mixHand_2 m h) _) rfl rfl rfl rfl ?_
  exact an_ret rfl rfl rfl rfl rfl
