/-! what the digest's parts leave alone; digest -/
def OY (m m2 : PM) : Prop := ∀ t k g i, ¬ (t = 8 ∧ (k = 0 ∨ k = 4) ∧ g = 0) → m2.1 t k g i = m.1 t k g i
theorem oy_refl (m : PM) : OY m m := fun _ _ _ _ _ => rfl
theorem oy_trans {m m2 m3 : PM} (h : OY m m2) (h2 : OY m2 m3) : OY m m3 := fun t k g i c => by rw [h2 t k g i c, h t k g i c]
theorem oy_oz {m m2 : PM} (h : OZ m m2) : OY m m2 := fun t k g i c => h.1 t k g i (fun q => c ⟨q.1, Or.inl q.2.1, q.2.2⟩)
theorem oy_w0 (m : PM) (i : Nat) (v : Int32) : OY m (wI m 8 0 0 i v) := oy_oz (oz_wI m i v)
theorem oy_w4 (m : PM) (j : Nat) (v : Int32) : OY m (wI m 8 4 0 j v) := by
  intro t k g i c
  unfold wI
  dsimp only
  rw [if_neg (by omega)]
theorem oy_keep (m : PM) : OY m (w_X5_keep m) := lp_inv (b_X5_keep_1 m) 361 (fun _ s => OY m s) (fun _ _ _ hs => oy_trans hs (oy_w4 _ _ _)) 361 0 m rfl (oy_refl m)
theorem oy_layBack (m : PM) : OY m (w_X5_layBack m) := lp_inv (b_X5_layBack_1 m) 361 (fun _ s => OY m s) (fun _ _ _ hs => oy_trans hs (oy_w0 _ _ _)) 361 0 m rfl (oy_refl m)
theorem oy_burns (m : PM) (r : Nat) : OY m (w_X5_burnsNow m r) := oy_trans (oy_trans (oy_keep m) (oy_oz (bnz_oz r 300 1 _))) (oy_layBack _)
theorem oy_asked (m : PM) (h r : Nat) (md : Int32) : OY m (w_X5_askedThen m h r md) := by
  unfold w_X5_askedThen
  split
  · exact oy_trans (oy_trans (oy_keep m) (oy_oz (oz_asks _ _ _ _))) (oy_layBack _)
  · exact oy_refl m
theorem oy_mix (m : PM) (x : Int64) : OY m (w_X5_mix m x) := fun _ _ _ _ _ => rfl
theorem oy_mixHand (m : PM) (h : Nat) : OY m (w_X5_mixHand m h) := by
  have a : OY m (mixHand_1 m h) := lp_inv (b_X5_mixHand_1 h) 9 (fun _ s => OY m s) (fun _ _ _ hs => oy_trans hs (oy_mix _ _)) 9 0 m rfl (oy_refl m)
  have b : OY m (mixHand_2 m h) := lp_inv (b_X5_mixHand_2 h) 12 (fun _ s => OY m s) (fun _ _ _ hs => oy_trans hs (oy_mix _ _)) 12 0 (mixHand_1 m h) rfl a
  exact oy_trans b (oy_mix _ _)
theorem oy_mixRow (m : PM) (r : Nat) : OY m (w_X5_mixRow m r) := by
  have a : OY m (mixRow_1 m r) := lp_inv (b_X5_mixRow_1 r) 6 (fun _ s => OY m s) (fun _ _ _ hs => oy_trans hs (oy_mix _ _)) 6 0 m rfl (oy_refl m)
  have b : OY m (mixRow_2 m r) := lp_inv (b_X5_mixRow_2 r) (qn m r) (fun _ s => OY m s) (fun _ _ _ hs => oy_trans hs (oy_trans (oy_mix _ _) (oy_mix _ _))) (qn m r) 0 (mixRow_1 m r) (Nat.add_zero _) a
  have c : OY m (mixRow_3 m r) := oy_trans b (oy_trans (oy_burns _ _) (oy_mix _ _))
  have d : OY m (mixRow_4 m r) := lp_inv (b_X5_mixRow_3 r) 3 (fun _ s => OY m s) (fun _ _ _ hs => oy_trans hs (oy_trans (oy_asked _ _ _ _) (oy_mix _ _))) 3 0 (mixRow_3 m r) rfl c
  exact oy_trans d (oy_mix _ _)
def b_X5_digest_1 (j : Nat) (s : PM) : PM := w_X5_mix s (v_X5_counted s j).toInt64
def b_X5_digest_2 (j : Nat) (s : PM) : PM := w_X5_mix s (zz s (0 + j)).toInt64
def b_X5_digest_3 (j : Nat) (s : PM) : PM := w_X5_mixHand s j
def b_X5_digest_4 (j : Nat) (s : PM) : PM := w_X5_mixRow s j
def b_X5_digest_5 (j : Nat) (s : PM) : PM := w_X5_mix s (tex s j).toInt64
def dig_0 (m : PM) : PM := wL (wI m 7 0 0 5 0) 7 0 0 11 2447
def dig_1 (m : PM) : PM := lp b_X5_digest_1 10 0 (dig_0 m)
def dig_2 (m : PM) : PM := lp b_X5_digest_2 3 0 (dig_1 m)
def dig_3 (m : PM) : PM := lp b_X5_digest_3 8 0 (dig_2 m)
def dig_4 (m : PM) : PM := lp b_X5_digest_4 12 0 (dig_3 m)
def dig_5 (m : PM) : PM := w_X5_mix (dig_4 m) (v_X5_busiestNow (dig_4 m)).toInt64
def dig_6 (m : PM) : PM := w_X5_mix (dig_5 m) (v_dtl (v_X5_share (dig_5 m)))
def dig_7 (m : PM) (len : Nat) : PM := w_X5_mix (dig_6 m) (nI len).toInt64
def w_X5_digest (m : PM) (len : Nat) : PM := lp b_X5_digest_5 len 0 (dig_7 m len)
def v_X5_digest (m : PM) (len : Nat) : Int64 := (w_X5_digest m len).2 7 0 0 11
theorem zz_dig0 (m : PM) : zz (dig_0 m) = zz m := zz_w7 m 5 0
theorem zz_dig1 (m : PM) : zz (dig_1 m) = zz m := lp_inv b_X5_digest_1 10 (fun _ s => zz s = zz m) (fun _ _ _ hs => hs) 10 0 (dig_0 m) rfl (zz_dig0 m)
theorem zz_dig2 (m : PM) : zz (dig_2 m) = zz m := lp_inv b_X5_digest_2 3 (fun _ s => zz s = zz m) (fun _ _ _ hs => hs) 3 0 (dig_1 m) rfl (zz_dig1 m)
theorem zz_dig3 (m : PM) : zz (dig_3 m) = zz m := lp_inv b_X5_digest_3 8 (fun _ s => zz s = zz m) (fun _ _ _ hs => (zz_mixHand _ _).trans hs) 8 0 (dig_2 m) rfl (zz_dig2 m)
theorem j_dig4 {J : (Nat → Int32) → Prop} (hJ : JJ J) {m : PM} (h0 : J (zz m)) : J (zz (dig_4 m)) := lp_inv b_X5_digest_4 12 (fun _ s => J (zz s)) (fun _ _ _ hs => j_mixRow hJ _ hs) 12 0 (dig_3 m) rfl (by rw [zz_dig3]; exact h0)
theorem oy_d3 (m : PM) : OY (dig_0 m) (dig_3 m) := by
  have a : OY (dig_0 m) (dig_1 m) := lp_inv b_X5_digest_1 10 (fun _ s => OY (dig_0 m) s) (fun _ _ _ hs => oy_trans hs (oy_mix _ _)) 10 0 (dig_0 m) rfl (oy_refl _)
  have b : OY (dig_0 m) (dig_2 m) := lp_inv b_X5_digest_2 3 (fun _ s => OY (dig_0 m) s) (fun _ _ _ hs => oy_trans hs (oy_mix _ _)) 3 0 (dig_1 m) rfl a
  exact lp_inv b_X5_digest_3 8 (fun _ s => OY (dig_0 m) s) (fun _ _ _ hs => oy_trans hs (oy_mixHand _ _)) 8 0 (dig_2 m) rfl b
theorem oy_d4 (m : PM) : OY (dig_0 m) (dig_4 m) := lp_inv b_X5_digest_4 12 (fun _ s => OY (dig_0 m) s) (fun _ _ _ hs => oy_trans hs (oy_mixRow _ _)) 12 0 (dig_3 m) rfl (oy_d3 m)
theorem r_X5_digest {J : (Nat → Int32) → Prop} (hJ : JJ J) (m : PM) (len : Nat) (h0 : J (zz m)) (hl : m.1 7 0 0 3 = nI len) (h60 : len ≤ 60) : Rn MX5_digest [vR 7 0 0] m (some (vL (v_X5_digest m len))) (w_X5_digest m len) := by
  have hq := hJ.1 _ h0
  refine rn_of [some (vR 7 0 0), none] rfl ?_
  refine an_b 8 (pc2 := 14) (L2 := [some (vR 7 0 0), some (vI 0)]) (st2 := []) (m1 := dig_0 m) rfl ?_
  refine re_lp (σ := PM) b_X5_digest_1 (fun j s => (14, [some (vR 7 0 0), some (vI (nI j))], [], s)) 10 (fun s => (36, [some (vR 7 0 0), some (vI (nI 10))], [], s)) (fun j s hj v9 m9 K => ?_) (fun s v9 m9 K => ?_) 10 0 (dig_0 m) rfl _ _ ?_
  · show An MX5_digest 14 [some (vR 7 0 0), some (vI (nI j))] [] s v9 m9
    refine an_b 3 (pc2 := if (10 : Int32) ≤ nI j then 36 else 20) (L2 := [some (vR 7 0 0), some (vI (nI j))]) (st2 := []) (m1 := s) rfl ?_
    refine an_f (nI_ge (a := j) (b := 10) (by omega) (by omega)) ?_
    refine an_b 3 (pc2 := 23) (L2 := [some (vR 7 0 0), some (vI (nI j))]) (st2 := [vI (nI j), vR 7 0 0, vR 7 0 0]) (m1 := s) rfl ?_
    refine an_call (r_X5_counted s j hj) rfl rfl rfl rfl ?_
    refine an_b 1 (pc2 := 27) (L2 := [some (vR 7 0 0), some (vI (nI j))]) (st2 := [vL (v_X5_counted s j).toInt64, vR 7 0 0]) (m1 := s) rfl ?_
    refine an_call (r_X5_mix s _) rfl rfl rfl rfl ?_
    refine an_b 2 (pc2 := 14) (L2 := [some (vR 7 0 0), some (vI (nI j + 1))]) (st2 := []) (m1 := b_X5_digest_1 j s) rfl ?_
    rw [nI_1]
    exact K
  · show An MX5_digest 14 [some (vR 7 0 0), some (vI (nI 10))] [] s v9 m9
    refine an_b 3 (pc2 := if (10 : Int32) ≤ nI 10 then 36 else 20) (L2 := [some (vR 7 0 0), some (vI (nI 10))]) (st2 := []) (m1 := s) rfl ?_
    exact an_t (by decide) K
  show An MX5_digest 36 [some (vR 7 0 0), some (vI (nI 10))] [] (dig_1 m) _ _
  refine an_b 2 (pc2 := 38) (L2 := [some (vR 7 0 0), some (vI 0)]) (st2 := []) (m1 := dig_1 m) rfl ?_
  refine re_lp (σ := PM) b_X5_digest_2 (fun j s => (38, [some (vR 7 0 0), some (vI (nI j))], [], s)) 3 (fun s => (62, [some (vR 7 0 0), some (vI (nI 3))], [], s)) (fun j s hj v9 m9 K => ?_) (fun s v9 m9 K => ?_) 3 0 (dig_1 m) rfl _ _ ?_
  · show An MX5_digest 38 [some (vR 7 0 0), some (vI (nI j))] [] s v9 m9
    refine an_b 3 (pc2 := if (3 : Int32) ≤ nI j then 62 else 43) (L2 := [some (vR 7 0 0), some (vI (nI j))]) (st2 := []) (m1 := s) rfl ?_
    refine an_f (nI_ge (a := j) (b := 3) (by omega) (by omega)) ?_
    refine an_b 6 (pc2 := 51) (L2 := [some (vR 7 0 0), some (vI (nI j))]) (st2 := [vI ((0 : Int32) + nI j), vR 8 0 0, vR 7 0 0]) (m1 := s) rfl ?_
    refine an_ald (0 + j) 361 rfl rfl (by simp only [ix_lit, nI_add]) (by omega) (by omega) ?_
    refine an_b 1 (pc2 := 53) (L2 := [some (vR 7 0 0), some (vI (nI j))]) (st2 := [vL (zz s (0 + j)).toInt64, vR 7 0 0]) (m1 := s) rfl ?_
    refine an_call (r_X5_mix s _) rfl rfl rfl rfl ?_
    refine an_b 2 (pc2 := 38) (L2 := [some (vR 7 0 0), some (vI (nI j + 1))]) (st2 := []) (m1 := b_X5_digest_2 j s) rfl ?_
    rw [nI_1]
    exact K
  · show An MX5_digest 38 [some (vR 7 0 0), some (vI (nI 3))] [] s v9 m9
    refine an_b 3 (pc2 := if (3 : Int32) ≤ nI 3 then 62 else 43) (L2 := [some (vR 7 0 0), some (vI (nI 3))]) (st2 := []) (m1 := s) rfl ?_
    exact an_t (by decide) K
  show An MX5_digest 62 [some (vR 7 0 0), some (vI (nI 3))] [] (dig_2 m) _ _
  refine an_b 2 (pc2 := 64) (L2 := [some (vR 7 0 0), some (vI 0)]) (st2 := []) (m1 := dig_2 m) rfl ?_
  refine re_lpi (σ := PM) b_X5_digest_3 (fun _ s => QA (zz s)) (fun j s => (64, [some (vR 7 0 0), some (vI (nI j))], [], s)) 8 (fun s => (81, [some (vR 7 0 0), some (vI (nI 8))], [], s)) (fun j s hj hs => by unfold b_X5_digest_3; rw [zz_mixHand]; exact hs) (fun j s hj hs v9 m9 K => ?_) (fun s hs v9 m9 K => ?_) 8 0 (dig_2 m) rfl (by rw [zz_dig2]; exact hq) _ _ ?_
  · show An MX5_digest 64 [some (vR 7 0 0), some (vI (nI j))] [] s v9 m9
    refine an_b 3 (pc2 := if (8 : Int32) ≤ nI j then 81 else 70) (L2 := [some (vR 7 0 0), some (vI (nI j))]) (st2 := []) (m1 := s) rfl ?_
    refine an_f (nI_ge (a := j) (b := 8) (by omega) (by omega)) ?_
    refine an_b 2 (pc2 := 72) (L2 := [some (vR 7 0 0), some (vI (nI j))]) (st2 := [vI (nI j), vR 7 0 0]) (m1 := s) rfl ?_
    refine an_call (r_X5_mixHand s j hj hs) rfl rfl rfl rfl ?_
    refine an_b 2 (pc2 := 64) (L2 := [some (vR 7 0 0), some (vI (nI j + 1))]) (st2 := []) (m1 := b_X5_digest_3 j s) rfl ?_
    rw [nI_1]
    exact K
  · show An MX5_digest 64 [some (vR 7 0 0), some (vI (nI 8))] [] s v9 m9
    refine an_b 3 (pc2 := if (8 : Int32) ≤ nI 8 then 81 else 70) (L2 := [some (vR 7 0 0), some (vI (nI 8))]) (st2 := []) (m1 := s) rfl ?_
    exact an_t (by decide) K
  show An MX5_digest 81 [some (vR 7 0 0), some (vI (nI 8))] [] (dig_3 m) _ _
  refine an_b 2 (pc2 := 83) (L2 := [some (vR 7 0 0), some (vI 0)]) (st2 := []) (m1 := dig_3 m) rfl ?_
  refine re_lpi (σ := PM) b_X5_digest_4 (fun _ s => J (zz s)) (fun j s => (83, [some (vR 7 0 0), some (vI (nI j))], [], s)) 12 (fun s => (100, [some (vR 7 0 0), some (vI (nI 12))], [], s)) (fun j s hj hs => j_mixRow hJ j hs) (fun j s hj hs v9 m9 K => ?_) (fun s hs v9 m9 K => ?_) 12 0 (dig_3 m) rfl (by rw [zz_dig3]; exact h0) _ _ ?_
  · show An MX5_digest 83 [some (vR 7 0 0), some (vI (nI j))] [] s v9 m9
    refine an_b 3 (pc2 := if (12 : Int32) ≤ nI j then 100 else 89) (L2 := [some (vR 7 0 0), some (vI (nI j))]) (st2 := []) (m1 := s) rfl ?_
    refine an_f (nI_ge (a := j) (b := 12) (by omega) (by omega)) ?_
    refine an_b 2 (pc2 := 91) (L2 := [some (vR 7 0 0), some (vI (nI j))]) (st2 := [vI (nI j), vR 7 0 0]) (m1 := s) rfl ?_
    refine an_call (r_X5_mixRow hJ s j hj hs) rfl rfl rfl rfl ?_
    refine an_b 2 (pc2 := 83) (L2 := [some (vR 7 0 0), some (vI (nI j + 1))]) (st2 := []) (m1 := b_X5_digest_4 j s) rfl ?_
    rw [nI_1]
    exact K
  · show An MX5_digest 83 [some (vR 7 0 0), some (vI (nI 12))] [] s v9 m9
    refine an_b 3 (pc2 := if (12 : Int32) ≤ nI 12 then 100 else 89) (L2 := [some (vR 7 0 0), some (vI (nI 12))]) (st2 := []) (m1 := s) rfl ?_
    exact an_t (by decide) K
  show An MX5_digest 100 [some (vR 7 0 0), some (vI (nI 12))] [] (dig_4 m) _ _
  have q4 := hJ.1 _ (j_dig4 hJ h0)
  refine an_b 2 (pc2 := 102) (L2 := [some (vR 7 0 0), some (vI (nI 12))]) (st2 := [vR 7 0 0, vR 7 0 0]) (m1 := dig_4 m) rfl ?_
  refine an_call (r_X5_busiestNow (dig_4 m) (ql_of q4)) rfl rfl rfl rfl ?_
  refine an_b 1 (pc2 := 106) (L2 := [some (vR 7 0 0), some (vI (nI 12))]) (st2 := [vL (v_X5_busiestNow (dig_4 m)).toInt64, vR 7 0 0]) (m1 := dig_4 m) rfl ?_
  refine an_call (r_X5_mix _ _) rfl rfl rfl rfl ?_
  refine an_b 2 (pc2 := 111) (L2 := [some (vR 7 0 0), some (vI (nI 12))]) (st2 := [vR 7 0 0, vR 7 0 0]) (m1 := dig_5 m) rfl ?_
  refine an_call (r_X5_share (dig_5 m)) rfl rfl rfl rfl ?_
  refine an_call (r_dtl (v_X5_share (dig_5 m)) (dig_5 m)) rfl rfl rfl rfl ?_
  refine an_call (r_X5_mix _ _) rfl rfl rfl rfl ?_
  have o4 := oy_d4 m
  have l0 : (dig_0 m).1 7 0 0 3 = nI len := by
    rw [← hl]
    unfold dig_0 wL wI
    dsimp only
    rw [if_neg (by decide)]
  have l6 : (dig_6 m).1 7 0 0 3 = nI len := by
    rw [← l0]
    exact o4 7 0 0 3 (by decide)
  refine an_b 3 (pc2 := 125) (L2 := [some (vR 7 0 0), some (vI (nI 12))]) (st2 := [vI ((dig_6 m).1 7 0 0 3), vR 7 0 0]) (m1 := dig_6 m) rfl ?_
  rw [l6]
  refine an_b 1 (pc2 := 126) (L2 := [some (vR 7 0 0), some (vI (nI 12))]) (st2 := [vL (nI len).toInt64, vR 7 0 0]) (m1 := dig_6 m) rfl ?_
  refine an_call (r_X5_mix _ _) rfl rfl rfl rfl ?_
  refine an_b 2 (pc2 := 131) (L2 := [some (vR 7 0 0), some (vI 0)]) (st2 := []) (m1 := dig_7 m len) rfl ?_
  refine re_lpi (σ := PM) b_X5_digest_5 (fun _ s => s.1 7 0 0 3 = nI len) (fun j s => (131, [some (vR 7 0 0), some (vI (nI j))], [], s)) len (fun s => (156, [some (vR 7 0 0), some (vI (nI len))], [], s)) (fun j s hj hs => hs) (fun j s hj hs v9 m9 K => ?_) (fun s hs v9 m9 K => ?_) len 0 (dig_7 m len) (Nat.add_zero _) l6 _ _ ?_
  · show An MX5_digest 131 [some (vR 7 0 0), some (vI (nI j))] [] s v9 m9
    refine an_b 3 (pc2 := 136) (L2 := [some (vR 7 0 0), some (vI (nI j))]) (st2 := [vI (s.1 7 0 0 3), vI (nI j)]) (m1 := s) rfl ?_
    rw [hs]
    refine an_b 1 (pc2 := if nI len ≤ nI j then 156 else 139) (L2 := [some (vR 7 0 0), some (vI (nI j))]) (st2 := []) (m1 := s) rfl ?_
    refine an_f (nI_ge (by omega) (by omega)) ?_
    refine an_b 4 (pc2 := 145) (L2 := [some (vR 7 0 0), some (vI (nI j))]) (st2 := [vI (nI j), vR 8 2 0, vR 7 0 0]) (m1 := s) rfl ?_
    refine an_ald j 60 rfl rfl rfl (by omega) (by omega) ?_
    refine an_b 1 (pc2 := 147) (L2 := [some (vR 7 0 0), some (vI (nI j))]) (st2 := [vL (tex s j).toInt64, vR 7 0 0]) (m1 := s) rfl ?_
    refine an_call (r_X5_mix s _) rfl rfl rfl rfl ?_
    refine an_b 2 (pc2 := 131) (L2 := [some (vR 7 0 0), some (vI (nI j + 1))]) (st2 := []) (m1 := b_X5_digest_5 j s) rfl ?_
    rw [nI_1]
    exact K
  · show An MX5_digest 131 [some (vR 7 0 0), some (vI (nI len))] [] s v9 m9
    refine an_b 3 (pc2 := 136) (L2 := [some (vR 7 0 0), some (vI (nI len))]) (st2 := [vI (s.1 7 0 0 3), vI (nI len)]) (m1 := s) rfl ?_
    rw [hs]
    refine an_b 1 (pc2 := if nI len ≤ nI len then 156 else 139) (L2 := [some (vR 7 0 0), some (vI (nI len))]) (st2 := []) (m1 := s) rfl ?_
    exact an_t (nI_le (Nat.le_refl _) (by omega)) K
  show An MX5_digest 156 [some (vR 7 0 0), some (vI (nI len))] [] (w_X5_digest m len) _ _
  refine an_b 2 (pc2 := 160) (L2 := [some (vR 7 0 0), some (vI (nI len))]) (st2 := [vL (v_X5_digest m len)]) (m1 := w_X5_digest m len) rfl ?_
  exact an_ret rfl rfl rfl rfl rfl
