/-! run and digest, over class and model as wholes -/
theorem number_of_R {M m : PM} {s len K w : Nat} (H : WR M m s len K) (hw : w < 10) : v_X4_numberOf M (nI w) = v_X5_counted m w := by
  unfold v_X4_numberOf
  by_cases c : w = 9
  · subst c
    rw [if_neg (fun q => q rfl), H.2.2.2.1]
    show nI s = sts m
    exact H.2.2.1.symm
  · have hn : ¬ nI w = (9 : Int32) := fun q => c ((nI_eq (by omega) (by omega)).mp (show nI w = nI 9 from q))
    rw [if_pos hn]
    have k := total_R M m 0 H.1.1 (w := w) (by omega)
    rw [setS_id] at k
    exact k
theorem setting_R {M m : PM} {s len K i : Nat} (H : WR M m s len K) (hi : i < 3) : v_X1_at M 10 0 (nI i) = zz m (0 + i) := by
  have k := at_S M 0 10 i (clT M 0) (by omega) (show i < 3 from hi)
  rw [setS_id] at k
  rw [k]
  exact H.1.1.2.2.1.1 10 i (by omega) (by omega) (show i < 3 from hi)
theorem share_W {M m : PM} {s len K : Nat} (H : WR M m s len K) : v_X2_shareGranted M 0 = v_X5_share m := by
  have k := share_R M m 0 H.1.1
  rw [setS_id] at k
  exact k
theorem share_1 (M : PM) (c : Nat → Nat → Int32) : v_X2_shareGranted (setS M 1 c) 0 = v_X2_shareGranted M 0 := by
  have e : ∀ k, v_X1_sum (setS M 1 c) k 0 = v_X1_sum M k 0 := fun k => by
    unfold v_X1_sum
    refine lp_cong (nlen k) (fun i x hi => ?_) (nlen k) 0 0 (Nat.add_zero _)
    unfold setS
    dsimp only
    rw [if_neg (by omega), if_neg (by omega)]
  unfold v_X2_shareGranted
  rw [e, e]
def dgA (M : PM) : Int64 × PM := lp (b_X4_digest_4 M) 12 0 ((lp (b_X4_digest_3 M) 8 0 (lp (b_X4_digest_2 M) 3 0 (lp (b_X4_digest_1 M) 10 0 (2447 : Int64)))), M)
theorem digest_R {M m : PM} {s len K : Nat} (H : WR M m s len K) (hd : v_dtl (v_X5_share m) = (v_X5_share m).toInt64) : v_X4_digest M = v_X5_digest m len ∧ WR (w_X4_digest M) (w_X5_digest m len) s len K ∧ ∃ c, w_X4_digest M = setS M 1 c := by
  have h0 : hsh (dig_0 m) = 2447 := by
    unfold hsh dig_0 wL
    dsimp only
    rw [if_pos ⟨rfl, rfl, rfl, rfl⟩]
  have W0 : WR M (dig_0 m) s len K := wr_5 H 0
  have a1 := lp_rel (b_X4_digest_1 M) b_X5_digest_1 10 (fun _ x t => x = hsh t ∧ WR M t s len K) (fun j x t hj hs => by
    obtain ⟨rfl, W⟩ := hs
    unfold b_X4_digest_1 b_X5_digest_1 v_X4_mix
    rw [number_of_R W hj, hsh_mix]
    exact ⟨rfl, wr_mix W _⟩) 10 0 (2447 : Int64) (dig_0 m) rfl ⟨h0.symm, W0⟩
  have a2 := lp_rel (b_X4_digest_2 M) b_X5_digest_2 3 (fun _ x t => x = hsh t ∧ WR M t s len K) (fun j x t hj hs => by
    obtain ⟨rfl, W⟩ := hs
    unfold b_X4_digest_2 b_X5_digest_2 v_X4_mix
    rw [setting_R W hj, hsh_mix]
    exact ⟨rfl, wr_mix W _⟩) 3 0 _ _ rfl a1
  have a3 := lp_rel (b_X4_digest_3 M) b_X5_digest_3 8 (fun _ x t => x = hsh t ∧ WR M t s len K) (fun j x t hj hs => by
    obtain ⟨rfl, W⟩ := hs
    unfold b_X4_digest_3 b_X5_digest_3
    obtain ⟨k1, k2⟩ := mixHand_R W hj
    exact ⟨k1, k2⟩) 8 0 _ _ rfl a2
  have a4 := lp_rel (b_X4_digest_4 M) b_X5_digest_4 12 (fun _ x t => x.1 = hsh t ∧ WR x.2 t s len K ∧ (∃ c, x.2 = setS M 1 c)) (fun j x t hj hs => by
    obtain ⟨x1, x2⟩ := x
    obtain ⟨e, W, c, ec⟩ := hs
    have e : x1 = hsh t := e
    have W : WR x2 t s len K := W
    have ec : x2 = setS M 1 c := ec
    obtain ⟨k1, k2, c2, k3⟩ := mixRow_R W hj
    unfold b_X4_digest_4 b_X5_digest_4
    dsimp only
    rw [e, k1]
    exact ⟨rfl, k2, c2, by rw [k3, ec, setS_setS]⟩) 12 0 (_, M) (dig_3 m) rfl ⟨a3.1, a3.2, clT M 1, (setS_id M 1).symm⟩
  have eA : ∀ X, X = dgA M → X = lp (b_X4_digest_4 M) 12 0 ((lp (b_X4_digest_3 M) 8 0 (lp (b_X4_digest_2 M) 3 0 (lp (b_X4_digest_1 M) 10 0 (2447 : Int64)))), M) := fun X h => h
  change (dgA M).1 = hsh (dig_4 m) ∧ WR (dgA M).2 (dig_4 m) s len K ∧ ∃ c, (dgA M).2 = setS M 1 c at a4
  have eV : v_X4_digest M = lp (b_X4_digest_5 M) ((dgA M).2.1 6 0 0 1).toNatClampNeg 0 (v_X4_mix (dgA M).2 (v_X4_mix (dgA M).2 (v_X4_mix (dgA M).2 (dgA M).1 (v_X2_mostWaitedFor (dgA M).2 0).toInt64) (v_X4_bitsOfShare (dgA M).2 (v_X2_shareGranted (dgA M).2 0))) ((dgA M).2.1 6 0 0 1).toInt64) := rfl
  have eW : w_X4_digest M = (dgA M).2 := rfl
  have e5 : ∀ j x, b_X4_digest_5 M j x = v_X4_mix (dgA M).2 x (v_X1_at (dgA M).2 11 0 (nI j)).toInt64 := fun _ _ => rfl
  obtain ⟨b1, W4, c, ec⟩ := a4
  have l4 := wr_len W4
  have h60 := (wr_txt W4).1
  have sh : v_X2_shareGranted (dgA M).2 0 = v_X5_share m := by rw [ec, share_1]; exact share_W H
  have sh4 : v_X5_share (dig_5 m) = v_X5_share m := by
    have W5 : WR (dgA M).2 (dig_5 m) s len K := wr_mix W4 _
    rw [← share_W W5]
    exact sh
  have bs := busiest_R (dgA M).2 (dig_4 m) 0 W4.1.1
  rw [setS_id] at bs
  rw [eV, eW, l4, nI_clamp (by omega), b1, bs]
  have h7 : v_X4_mix (dgA M).2 (v_X4_mix (dgA M).2 (v_X4_mix (dgA M).2 (hsh (dig_4 m)) (v_X5_busiestNow (dig_4 m)).toInt64) (v_X4_bitsOfShare (dgA M).2 (v_X2_shareGranted (dgA M).2 0))) (nI len).toInt64 = hsh (dig_7 m len) := by
    unfold dig_7
    rw [hsh_mix]
    unfold dig_6
    rw [hsh_mix]
    unfold dig_5 at sh4 ⊢
    rw [sh4, hsh_mix, hd, sh]
    rfl
  rw [h7]
  have W7 : WR (dgA M).2 (dig_7 m len) s len K := wr_mix (wr_mix (wr_mix W4 _) _) _
  have a5 := lp_rel (b_X4_digest_5 M) b_X5_digest_5 len (fun _ x t => x = hsh t ∧ WR (dgA M).2 t s len K) (fun j x t hj hs => by
    obtain ⟨rfl, W⟩ := hs
    rw [e5]
    unfold b_X5_digest_5 v_X4_mix
    rw [txt_at (wr_txt W) hj, hsh_mix]
    exact ⟨rfl, wr_mix W _⟩) len 0 (hsh (dig_7 m len)) (dig_7 m len) (Nat.add_zero _) ⟨rfl, W7⟩
  exact ⟨a5.1, a5.2, c, ec⟩
/-- behind reading the text -/
theorem wr_right {M m : PM} {s len K : Nat} (H : WR M m s len K) : WR M (w_X5_rightUpTo m len) s len K := by
  have o : ∀ t k g i, ¬ (t = 8 ∧ k = 3) → ¬ (t = 7 ∧ 7 ≤ i ∧ i ≤ 9) → (w_X5_rightUpTo m len).1 t k g i = m.1 t k g i := fun t k g i h1 h2 => setp_o _ _ _ _ _ t k g i h1 h2
  exact wr_m H (fun i _ => o 8 0 0 i (by omega) (by omega)) (fun i _ => o 8 1 0 i (by omega) (by omega)) (o 7 0 0 1 (by omega) (by omega)) (fun i _ => o 8 2 0 i (by omega) (by omega)) (o 7 0 0 3 (by omega) (by omega))
theorem run_R {M m : PM} {s len K : Nat} (H : WR M m s len K) : (o_X4_run M = .inr 50 ∧ w_X4_run M = M ∧ (w_X5_run m len s).1 7 0 0 5 = 1 ∧ WR M (w_X5_run m len s) s len K) ∨ (o_X4_run M = .inl (some (vI (v_X5_run m len s))) ∧ (w_X5_run m len s).1 7 0 0 5 = 0 ∧ WR (w_X4_run M) (w_X5_run m len s) (svN s) 0 (K + 20)) := by
  have T := wr_txt H
  have h60 := T.1
  obtain ⟨_, f2⟩ := fault_R T (wr_len H) (fun i => m.1 8 3 0 i) 0 (m.1 7 0 0 8)
  have f2 : v_X3_isComplete M = if rgK m len = len ∧ rgD m len = 2 then 1 else 0 := f2
  have le : rgK m len ≤ 60 := by
    have := rgt_le (tex m) len 0 (fun i => m.1 8 3 0 i) 0 (m.1 7 0 0 8) 0
    have e : rgK m len = (rgt (tex m) len 0 (fun i => m.1 8 3 0 i) 0 (m.1 7 0 0 8) 0).1 := rfl
    omega
  by_cases cI : rgK m len = len ∧ rgD m len = 2
  · right
    rw [if_pos cI] at f2
    have eo : o_X4_run M = .inl (some (vI (lqv (lq (b_X4_run_1 M) 60 0 ((0 : Int32), (0 : Int32), (w_X0_save M 0)))).1)) := by unfold o_X4_run; rw [f2, if_pos (by decide)]
    have ew : w_X4_run M = w_X3_empty (lqv (lq (b_X4_run_1 M) 60 0 ((0 : Int32), (0 : Int32), (w_X0_save M 0)))).2.2 := by unfold w_X4_run; rw [f2, if_pos (by decide)]
    have ev : v_X5_run m len s = nI (rnz (rgQ m len + 1) 0 (runM m len s)).1 := by
      unfold v_X5_run
      rw [cI.1, if_neg (fun q => q rfl), if_neg (fun q => q cI.2)]
    have em : w_X5_run m len s = (rnz (rgQ m len + 1) 0 (runM m len s)).2 := by
      unfold w_X5_run
      rw [cI.1, if_neg (fun q => q rfl), if_neg (fun q => q cI.2)]
    -- where the requests stand
    have X : ∀ k, k < len → ∃ a, a < 127 ∧ tex m k = nI a := fun k hk => by
      obtain ⟨a, _, a2, a3, _⟩ := T.2 k hk
      exact ⟨a, by omega, a3⟩
    have r1 : RI (tex m) len 0 (fun i => m.1 8 3 0 i) 0 (m.1 7 0 0 8) 0 := ⟨fun p hp => by omega, Or.inl ⟨rfl, rfl⟩⟩
    have hk1 : (rgt (tex m) len 0 (fun i => m.1 8 3 0 i) 0 (m.1 7 0 0 8) 0).1 = 0 + len := by rw [Nat.zero_add]; exact cI.1
    have r2 := ri_run X len 0 _ 0 _ 0 (by omega) r1 hk1
    obtain ⟨g1, g2⟩ := rgt_ok (tex m) len 0 (fun i => m.1 8 3 0 i) 0 (m.1 7 0 0 8) 0 (Or.inl ⟨rfl, by omega⟩) ⟨fun p hp => by omega, fun q => absurd q (by decide), fun q => absurd q (by decide)⟩ hk1
    change RI (tex m) len (0 + len) (rgtM m len).2.1 (rgQ m len) (rgtM m len).2.2.2.1 (rgD m len) at r2
    change rgP (rgtM m len).2.1 (rgQ m len) (rgtM m len).2.2.2.1 (rgD m len) at g2
    change rgI (0 + len) (rgQ m len) (rgtM m len).2.2.2.1 (rgD m len) at g1
    rw [cI.2] at r2 g2 g1
    obtain ⟨P1, P2⟩ := r2
    obtain ⟨O1, _, O2⟩ := g2
    have hE : PT (tex m) len (rgtM m len).2.1 (rgQ m len) ∧ 0 + len = EN (tex m) len (St (tex m) len (rgQ m len)) + 1 := by
      rcases P2 with ⟨q, _⟩ | ⟨q, _⟩ | ⟨_, q1, q2⟩
      · exact absurd q (by decide)
      · exact absurd q (by decide)
      · exact ⟨q1, q2⟩
    have q60 := rgI_q g1
    have hP : ∀ p, p < rgQ m len + 1 → PT (tex m) len (rgtM m len).2.1 p := fun p hp => by
      by_cases c : p = rgQ m len
      · rw [c]; exact hE.1
      · exact P1 p (by omega)
    have hO : ∀ p, p < rgQ m len + 1 → PO (rgtM m len).2.1 p := fun p hp => by
      by_cases c : p = rgQ m len
      · rw [c]; exact O2 rfl
      · exact O1 p (by omega)
    -- the state saved
    have Wr : WR M (wI (w_X5_rightUpTo m len) 7 0 0 5 0) s len K := wr_5 (wr_right H) 0
    obtain ⟨Ws, _⟩ := save_R Wr
    have WU : WR (w_X0_save M 0) (wI (runM m len s) 7 0 0 3 (nI len)) (svN s) len K := by
      refine wr_m Ws (fun i _ => ?_) (fun i _ => ?_) ?_ (fun i _ => ?_) ?_
      · unfold runM; rw [zz_w7, zz_w7]
      · unfold runM; rw [hs_w7, hs_w7]
      · unfold runM sts wI; dsimp only; rw [if_neg (by omega), if_neg (by omega)]
      · unfold runM; rw [tex_U]; unfold tex wI; dsimp only; rw [if_neg (by omega)]
      · rw [w_at]
        exact Ws.2.2.2.2.2.2.2.1.symm
    have tU : tex (runM m len s) = tex m := by
      funext i
      have o : (w_X5_rightUpTo m len).1 8 2 0 i = m.1 8 2 0 i := setp_o _ _ _ _ _ 8 2 0 i (by omega) (by omega)
      unfold runM w_X5_save tex sets wI
      dsimp only
      rw [if_neg (by omega), if_neg (by omega), if_neg (by omega), if_neg (by omega)]
      exact o
    obtain ⟨l1, l2⟩ := run_loop M hP hO (by omega) (rgQ m len + 1) 60 0 0 (w_X0_save M 0) (runM m len s) (svN s) K (by omega) (by omega) tU (runM_f m len s) WU
    have l1 : (lqv (lq (b_X4_run_1 M) 60 0 ((0 : Int32), (0 : Int32), (w_X0_save M 0)))).1 = nI (rnz (rgQ m len + 1) 0 (runM m len s)).1 := l1
    have l2 : WR (lqv (lq (b_X4_run_1 M) 60 0 ((0 : Int32), (0 : Int32), (w_X0_save M 0)))).2.2 (wI (rnz (rgQ m len + 1) 0 (runM m len s)).2 7 0 0 3 (nI len)) (svN s) len (K + (rgQ m len + 1)) := l2
    have oz := rnz_oz (rgQ m len + 1) 0 (runM m len s)
    have z5 : (runM m len s).1 7 0 0 5 = 0 := by
      unfold runM w_X5_save sets wI
      dsimp only
      rw [if_neg (by omega), if_neg (by omega), if_neg (by omega), if_pos ⟨rfl, rfl, rfl, rfl⟩]
    have z3 : (runM m len s).1 7 0 0 3 = 0 := w_at _ _ _ _ _ _
    refine ⟨by rw [eo, l1, ev], ?_, ?_⟩
    · rw [em, oz.1 7 0 0 5 (by omega)]; exact z5
    · rw [ew, em]
      have W9 := clear_R (wr_le l2 (show K + (rgQ m len + 1) ≤ K + 20 by omega))
      refine wr_m W9 (fun i _ => ?_) (fun i _ => ?_) ?_ (fun i _ => ?_) ?_
      · rw [zz_w7, zz_w7]
      · rw [hs_w7, hs_w7]
      · unfold sts wI; dsimp only; rw [if_neg (by omega), if_neg (by omega)]
      · unfold tex wI; dsimp only; rw [if_neg (by omega), if_neg (by omega)]
      · rw [w_at, oz.1 7 0 0 3 (by omega)]; exact z3
  · left
    rw [if_neg cI] at f2
    have eo : o_X4_run M = .inr 50 := by unfold o_X4_run; rw [f2, if_neg (fun q => q rfl)]
    have ew : w_X4_run M = M := by unfold w_X4_run; rw [f2, if_neg (fun q => q rfl)]
    have em : w_X5_run m len s = wI (w_X5_rightUpTo m len) 7 0 0 5 1 := by
      unfold w_X5_run
      by_cases c : rgK m len = len
      · rw [c, if_neg (fun q => q rfl), if_pos (fun q => cI ⟨c, q⟩)]
      · rw [if_pos (fun q => c ((nI_eq (by omega) (by omega)).mp q))]
    exact ⟨eo, ew, by rw [em]; exact w_at _ _ _ _ _ _, by rw [em]; exact wr_5 (wr_right H) 1⟩
