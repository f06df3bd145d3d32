/-! the class's calls where they are carried out: the outcome, and WR behind them -/
section
variable {M m : PM} {s len K : Nat}
theorem hand_in (M m : PM) {h : Nat} (hh : h < 8) : v_X4_isHand M (nI h) = 1 ∧ v_X5_isHand m (nI h) = 1 := by
  rcases hand_or M m (nI h) with ⟨p1, p2⟩ | ⟨j, hj, e, p1, p2⟩
  · exfalso
    unfold v_X4_isHand at p1
    rw [if_neg (nI_pos (by omega)), if_neg (L_nle 8 (n := 8) rfl hh (by omega))] at p1
    exact absurd p1 (by decide)
  · exact ⟨p1, p2⟩
theorem row_in (M m : PM) {r : Nat} (hr : r < 12) : v_X4_isRow M (nI r) = 1 ∧ v_X5_isRow m (nI r) = 1 := by
  rcases row_or M m (nI r) with ⟨p1, p2⟩ | ⟨j, hj, e, p1, p2⟩
  · exfalso
    unfold v_X4_isRow at p1
    rw [if_neg (nI_pos (by omega)), if_neg (L_nle 12 (n := 12) rfl hr (by omega))] at p1
    exact absurd p1 (by decide)
  · exact ⟨p1, p2⟩
theorem ok_ask (H : WR M m s len K) {h r : Nat} {md : Int32} (hh : h < 8) (hr : r < 12) (hm : MO md) (cw : v_X5_waits m (nI h) = 0) : o_X4_ask M (nI h) (nI r) md = .inl (some (vI (v_X5_asks (svM m s) h r md))) ∧ WR (w_X4_ask M (nI h) (nI r) md) (w_X5_asks (svM m s) h r md) (svN s) len (K + 20) := by
  have d1 : ¬ (1 : Int32) = 0 := by decide
  obtain ⟨p1, p2⟩ := hand_in M m hh
  obtain ⟨q1, q2⟩ := row_in M m hr
  have r1 : v_X4_isMode M md = 1 := by
    rcases mode_or M m md with ⟨a, b⟩ | ⟨_, a, b⟩
    · exfalso
      unfold v_X4_isMode at a
      rcases hm with rfl | rfl | rfl <;> exact absurd a (by decide)
    · exact a
  have ew := wr_wait H hh
  obtain ⟨W, t0⟩ := sv_W H
  have wN : clT (w_X0_save M 0) 0 1 h = -1 := (wait_c (m := svM m s) W.1.1 hh).mp (by rw [waits_cong (zz_svM m s)]; exact cw)
  obtain ⟨v, ⟨c2, w1, w2, w3⟩, _⟩ := takeAsking_R (w_X0_save M 0) (svM m s) 0 W.1.1 hh hr hm wN
  rw [setS_id] at v w1
  have o := oz_asks (svM m s) h r md
  refine ⟨?_, ?_⟩
  · unfold o_X4_ask
    rw [p1, if_neg d1, q1, if_pos d1, r1, if_pos d1, ew, if_pos cw, v]
  · unfold w_X4_ask
    rw [p1, if_neg d1, q1, if_pos d1, r1, if_pos d1, ew, if_pos cw, w1]
    exact wr_oz W ⟨w2, bc_c W.1.2.1 (w3.2 4 (by omega)) (w3.2 10 (by omega)), cn_le (w3.1 K W.1.2.2) (by omega)⟩ (by omega) o
theorem ok_release (H : WR M m s len K) {h r : Nat} (hh : h < 8) (hr : r < 12) (z : ¬ v_X5_canRelease m h r = 0) : o_X4_release M (nI h) (nI r) = .inl (some (vI (v_X5_releases (svM m s) h r))) ∧ WR (w_X4_release M (nI h) (nI r)) (w_X5_releases (svM m s) h r) (svN s) len (K + 20) := by
  have d1 : ¬ (1 : Int32) = 0 := by decide
  obtain ⟨p1, p2⟩ := hand_in M m hh
  obtain ⟨q1, q2⟩ := row_in M m hr
  have ec := canRelease_R (st_val H) hh hr
  obtain ⟨W, t0⟩ := sv_W H
  have zN : ¬ v_X5_canRelease (svM m s) h r = 0 := by
    have e0 : v_X5_canRelease (svM m s) h r = v_X5_canRelease m h r := by
      unfold v_X5_canRelease
      rw [rowOf_cong (zz_svM m s), show v_X5_lockOf (svM m s) h r = v_X5_lockOf m h r from congrFun (zz_svM m s) _]
    rw [e0]; exact z
  obtain ⟨v, c2, w1, w2, w3⟩ := release_R (w_X0_save M 0) (svM m s) 0 W.1.1 hh hr (can_c W.1.1 hh zN)
  rw [setS_id] at v w1
  have o := oz_releases (svM m s) h r
  refine ⟨?_, ?_⟩
  · unfold o_X4_release
    rw [p1, if_neg d1, q1, if_pos d1, ec, if_pos z, v]
  · unfold w_X4_release
    rw [p1, if_neg d1, q1, if_pos d1, ec, if_pos z, w1]
    exact wr_oz W ⟨w2, bc_c W.1.2.1 (w3.2.2 4 (by omega)) (w3.2.2 10 (by omega)), cn_le (w3.2.1 K W.1.2.2) (by omega)⟩ (by omega) o
theorem ok_giveUp (H : WR M m s len K) {h : Nat} (hh : h < 8) (cw : ¬ v_X5_waits m (nI h) = 0) : o_X4_giveUp M (nI h) = .inl (some (vI (v_X5_rowOf (svM m s) (nI h)))) ∧ WR (w_X4_giveUp M (nI h)) (giveW m h s) (svN s) len (K + 20) := by
  have d1 : ¬ (1 : Int32) = 0 := by decide
  obtain ⟨p1, p2⟩ := hand_in M m hh
  have ew := wr_wait H hh
  obtain ⟨W, t0⟩ := sv_W H
  have wN : ¬ clT (w_X0_save M 0) 0 1 h = -1 := fun q => cw (by rw [← waits_cong (zz_svM m s)]; exact (wait_c (m := svM m s) W.1.1 hh).mpr q)
  obtain ⟨v, c2, w1, w2, w3⟩ := giveUp_R (w_X0_save M 0) (svM m s) 0 W.1.1 hh wN
  rw [setS_id] at v w1
  have o : OZ (svM m s) (giveW m h s) := oz_trans (oz_unq _ _ _) (oz_settle _ _)
  refine ⟨?_, ?_⟩
  · unfold o_X4_giveUp
    rw [p1, if_pos d1, ew, if_pos cw, v]
  · unfold w_X4_giveUp
    rw [p1, if_pos d1, ew, if_pos cw, w1]
    exact wr_oz W ⟨w2, bc_c W.1.2.1 (w3.2.2 4 (by omega)) (w3.2.2 10 (by omega)), cn_le (w3.2.1 K W.1.2.2) (by omega)⟩ (by omega) o
theorem ok_handOn (H : WR M m s len K) {h r o : Nat} (hh : h < 8) (hr : r < 12) (ho : o < 8) (z : ¬ v_X5_canHandOn m h r (nI o) = 0) : o_X4_handOn M (nI h) (nI r) (nI o) = .inl (some (vI (v_X5_lockOf (hoC (svM m s) h r o) o r))) ∧ WR (w_X4_handOn M (nI h) (nI r) (nI o)) (w_X5_settle (hoC (svM m s) h r o) r) (svN s) len (K + 20) := by
  have d1 : ¬ (1 : Int32) = 0 := by decide
  obtain ⟨p1, p2⟩ := hand_in M m hh
  obtain ⟨q1, q2⟩ := row_in M m hr
  obtain ⟨r1, r2⟩ := hand_in M m ho
  have ec := canHandOn_R (st_val H) hh hr ho
  obtain ⟨W, t0⟩ := sv_W H
  have z2 : ¬ v_X2_canPassOver M 0 (nI h) (nI r) (nI o) = 0 := by rw [ec]; exact z
  have hw1 : ¬ clT M 0 1 h = nI r := by
    intro q
    apply z2
    unfold v_X2_canPassOver v_X2_canLetGo
    rw [at_in (k := 1) (g := 0) (show h < 8 from hh), show cl M 0 1 h = nI r from q]
    by_cases c0 : v_X1_at M 0 0 (v_X4_cell M (nI h) (nI r)) ≤ 0
    · rw [if_pos c0, if_pos rfl]
    · rw [if_neg c0, if_pos rfl, if_pos rfl]
  have hw2 : clT M 0 1 o = nI r := by
    refine Classical.byContradiction fun q => z2 ?_
    unfold v_X2_canPassOver
    rw [at_in (k := 1) (g := 0) (show o < 8 from ho)]
    by_cases c0 : v_X2_canLetGo M 0 (nI h) (nI r) = 0
    · rw [if_pos c0]
    · rw [if_neg c0]
      by_cases c1 : nI h = nI o
      · rw [if_pos c1]
      · rw [if_neg c1, if_pos (show ¬ cl M 0 1 o = nI r from q)]
  have eN : clT (w_X0_save M 0) 0 = clT M 0 := (save_R (wr_5 H 0)).2
  obtain ⟨v, c2, w1, w2, w3⟩ := handOn_R (w_X0_save M 0) (svM m s) 0 W.1.1 hh hr ho (by rw [eN]; exact hw1) (by rw [eN]; exact hw2)
  rw [setS_id] at v w1
  have oo : OZ (svM m s) (w_X5_settle (hoC (svM m s) h r o) r) := oz_trans (oz_trans (oz_trans (oz_setLock _ _ _ _) (oz_setz _ _)) (oz_wI _ _ _)) (oz_settle _ _)
  refine ⟨?_, ?_⟩
  · unfold o_X4_handOn
    rw [p1, if_neg d1, q1, if_neg d1, r1, if_pos d1, ec, if_pos z, v]
  · unfold w_X4_handOn
    rw [p1, if_neg d1, q1, if_neg d1, r1, if_pos d1, ec, if_pos z, w1]
    exact wr_oz W ⟨w2, bc_c W.1.2.1 (w3.2.2 4 (by omega)) (w3.2.2 10 (by omega)), cn_le (w3.2.1 K W.1.2.2) (by omega)⟩ (by omega) oo
theorem ok_pass (H : WR M m s len K) {k : Nat} (h1 : 1 ≤ k) (h2 : k ≤ 100) : o_X4_pass M (nI k) = .inl (some (vI (zz (passW m k s) 4 - zz m 4))) ∧ WR (w_X4_pass M (nI k)) (passW m k s) (svN s) len (K + 20) := by
  have c1 : ¬ nI k < 1 := nI_nlt (a := k) (b := 1) h1 (by omega)
  have c2' : nI k ≤ 100 := nI_le (b := 100) h2 (by omega)
  obtain ⟨W, t0⟩ := sv_W H
  have a := lp_rel (b_X4_pass_1 M (nI k)) b_X5_pass_1 k (fun _ x t => WR x.2 t (svN s) len K ∧ x.1 = zz t 4 - zz m 4) (fun j x t hj hs => by
    obtain ⟨x1, x2⟩ := x
    obtain ⟨V, e⟩ := hs
    have V : WR x2 t (svN s) len K := V
    have e : x1 = zz t 4 - zz m 4 := e
    obtain ⟨c2, w1, w2, w3, w4, w5⟩ := tick_R x2 t 0 V.1.1 V.1.2.1
    rw [setS_id] at w1 w5
    have o := oz_tick t
    unfold b_X4_pass_1 b_X5_pass_1
    dsimp only
    refine ⟨?_, ?_⟩
    · rw [w1]
      exact wr_oz V ⟨w2, w3, w4 K V.1.2.2⟩ (Nat.le_refl _) o
    · rw [w5, e]; grind) k 0 ((0 : Int32), w_X0_save M 0) (svM m s) (Nat.add_zero _) ⟨W, by rw [zz_svM]; exact (Int32.sub_self _).symm⟩
  obtain ⟨b1, b2⟩ := a
  refine ⟨?_, ?_⟩
  · unfold o_X4_pass
    rw [if_neg c1, if_pos c2', nI_clamp (by omega), b2]
    rfl
  · unfold w_X4_pass
    rw [if_neg c1, if_pos c2', nI_clamp (by omega)]
    exact wr_le b1 (by omega)
theorem ok_set (H : WR M m s len K) {i : Nat} {x : Int32} (hi : i < 3) (q : v_X5_isValue m (nI i) x = 1) : o_X4_set M (nI i) x = .inl (some (vI (zz m (0 + i)))) ∧ WR (w_X4_set M (nI i) x) (wI (svM m s) 8 0 0 (0 + i) x) (svN s) len (K + 20) := by
  have d1 : ¬ (1 : Int32) = 0 := by decide
  have p1 : v_X4_isSetting M (nI i) = 1 := by
    rcases set_or M m (nI i) with ⟨p1, p2⟩ | ⟨j, hj, e, p1, p2⟩
    · exfalso
      unfold v_X4_isSetting at p1
      rw [if_neg (nI_pos (by omega)), if_neg (L_nle 3 (n := 3) rfl hi (by omega))] at p1
      exact absurd p1 (by decide)
    · exact p1
  rcases val_or M m hi x with ⟨_, q0⟩ | ⟨c, c3, _, n, en, b0, b1, b2⟩
  · rw [q0] at q; exact absurd q (by decide)
  · obtain ⟨W, t0⟩ := sv_W H
    have e4 : v_X1_at (w_X0_save M 0) 10 0 (nI i) = zz m (0 + i) := by rw [setting_R W hi, zz_svM]
    have eP : w_X1_put (w_X0_save M 0) 10 0 (nI i) x = setS (w_X0_save M 0) 0 (up2 (clT (w_X0_save M 0) 0) 10 i x) := by
      have k1 := put_S (w_X0_save M 0) 0 10 i (clT (w_X0_save M 0) 0) x (by omega) (show i < 3 from hi)
      rw [setS_id] at k1
      exact k1
    refine ⟨?_, ?_⟩
    · unfold o_X4_set
      rw [p1, if_pos d1, if_neg c, if_pos c3, e4]
    · unfold w_X4_set
      rw [p1, if_pos d1, if_neg c, if_pos c3, eP]
      refine wr_oz W ⟨?_, ?_, ?_⟩ (show K ≤ K + 20 by omega) (oz_wI (svM m s) (0 + i) x)
      · rw [zz_wI]
        exact sa_raise W.1.1 (k := 10) (i := i) (by omega) (by omega) (by omega) (show i < 3 from hi) x
      · obtain ⟨x1, x2, x3, x4⟩ := W.1.2.1
        have ev : ∀ j, up2 (clT (w_X0_save M 0) 0) 10 i x 10 j = if j = i then x else clT (w_X0_save M 0) 0 10 j := fun j => by
          unfold up2
          by_cases u : j = i
          · rw [if_pos ⟨rfl, u⟩, if_pos u]
          · rw [if_neg (fun v => u v.2), if_neg u]
        refine ⟨?_, ?_, ?_, fun r2 hr2 => ?_⟩
        · rw [ev]
          by_cases u : 0 = i
          · rw [if_pos u]; exact ⟨n, b0 u.symm, en⟩
          · rw [if_neg u]; exact x1
        · rw [ev]
          by_cases u : 1 = i
          · rw [if_pos u]; exact ⟨n, b1 u.symm, en⟩
          · rw [if_neg u]; exact x2
        · rw [ev]
          by_cases u : 2 = i
          · rw [if_pos u]; exact ⟨n, b2 u.symm, en⟩
          · rw [if_neg u]; exact x3
        · rw [up2_o _ _ _ _ (by decide)]; exact x4 r2 hr2
      · exact cn_le (ec_cn (c := clT (w_X0_save M 0) 0) ⟨up2_o _ _ _ _ (by decide), up2_o _ _ _ _ (by decide), up2_o _ _ _ _ (by decide)⟩ W.1.2.2) (by omega)
theorem ok_lock (H : WR M m s len K) {h r : Nat} (hh : h < 8) (hr : r < 12) : o_X4_lock M (nI h) (nI r) = .inl (some (vI (zz m (5 + 12 * h + r)))) := by
  have d1 : ¬ (1 : Int32) = 0 := by decide
  obtain ⟨p1, p2⟩ := hand_in M m hh
  obtain ⟨q1, q2⟩ := row_in M m hr
  unfold o_X4_lock
  rw [p1, if_neg d1, q1, if_pos d1, lock_R (st_val H) hh hr]
  rfl
theorem ok_takers (H : WR M m s len K) {h r : Nat} (hh : h < 8) (hr : r < 12) : o_X4_takers M (nI h) (nI r) = .inl (some (vI (v_X5_takersNow m h r))) := by
  have d1 : ¬ (1 : Int32) = 0 := by decide
  obtain ⟨p1, p2⟩ := hand_in M m hh
  obtain ⟨q1, q2⟩ := row_in M m hr
  unfold o_X4_takers
  rw [p1, if_neg d1, q1, if_pos d1, takers_R (st_val H) hh hr]
theorem ok_hand (H : WR M m s len K) {h w : Nat} (hh : h < 8) (hw : w < 9) : o_X4_hand M (nI h) (nI w) = .inl (some (vI (v_X5_handNow m h w))) := by
  have d1 : ¬ (1 : Int32) = 0 := by decide
  obtain ⟨p1, p2⟩ := hand_in M m hh
  have kk := handPart_R M m 0 H.1.1 hh hw
  rw [setS_id] at kk
  unfold o_X4_hand
  rw [p1, if_pos d1, if_neg (nI_pos (by omega)), if_pos (show nI w < (9 : Int32) from nI_lt (b := 9) hw (by omega)), kk]
theorem ok_row (H : WR M m s len K) {r w : Nat} (hr : r < 12) (hw : w < 6) : o_X4_row M (nI r) (nI w) = .inl (some (vI (v_X5_rowNow m r (nI w)))) := by
  have d1 : ¬ (1 : Int32) = 0 := by decide
  obtain ⟨p1, p2⟩ := row_in M m hr
  have kk := rowPart_R M m 0 H.1.1 hr (nI w)
  rw [setS_id] at kk
  unfold o_X4_row
  rw [p1, if_pos d1, if_neg (nI_pos (by omega)), if_pos (show nI w < (6 : Int32) from nI_lt (b := 6) hw (by omega)), kk]
theorem ok_request (H : WR M m s len K) {r p x : Nat} (hr : r < 12) (hp : p < 8) (hx : x < 2) : o_X4_request M (nI r) (nI p) (nI x) = .inl (some (vI (v_X5_requestNow m r p (nI x)))) := by
  have d1 : ¬ (1 : Int32) = 0 := by decide
  obtain ⟨p1, p2⟩ := row_in M m hr
  unfold o_X4_request
  rw [p1, if_pos d1, if_neg (nI_pos (by omega)), if_neg (L_nle 8 (n := 8) rfl hp (by omega)), if_neg (nI_pos (by omega)), if_pos (show nI x < (2 : Int32) from nI_lt (b := 2) hx (by omega)), request_R (st_val H) hr hp]
theorem ok_count (H : WR M m s len K) {w : Nat} (hw : w < 10) : o_X4_count M (nI w) = .inl (some (vI (v_X5_counted m w))) := by
  unfold o_X4_count
  rw [if_neg (nI_pos (by omega)), if_pos (show nI w < (10 : Int32) from nI_lt (b := 10) hw (by omega)), number_of_R H hw]
theorem ok_waitsFor (H : WR M m s len K) {h : Nat} (hh : h < 8) : o_X4_waitsFor M (nI h) = .inl (some (vI (v_X5_waitsOver m (nI h)))) := by
  have d1 : ¬ (1 : Int32) = 0 := by decide
  obtain ⟨p1, p2⟩ := hand_in M m hh
  unfold o_X4_waitsFor
  rw [p1, if_pos d1, reach_R (st_val H) hh]
end
