/-! the face: each call of class and model -/
/-- outcome o of the class; the model's code t and answer b -/
def AG (e : Nat → Int32) (o : OC) (t b : Int32) : Prop := (o = .inl (some (vI b)) ∧ t = 0) ∨ ∃ x, o = .inr x ∧ t = e x ∧ (x = 40 ∨ x = 50 ∨ x = 58)
def e3 (a b c : Int32) (x : Nat) : Int32 := if x = 40 then a else if x = 50 then b else c
theorem rng_or (f : Int32 → Int32) (g : Int32 → Int32) (N : Nat) (hN : N < 2 ^ 31) (hf : ∀ a : Int32, (a < 0 ∨ nI N ≤ a) → f a = 0 ∧ g a = 0) (hg : ∀ j, j < N → f (nI j) = 1 ∧ g (nI j) = 1) (a : Int32) : (f a = 0 ∧ g a = 0) ∨ ∃ j, j < N ∧ a = nI j ∧ f a = 1 ∧ g a = 1 := by
  rcases pk_ix a hN with h | h | ⟨j, hj, rfl⟩
  · exact Or.inl (hf a (Or.inl h))
  · exact Or.inl (hf a (Or.inr h))
  · exact Or.inr ⟨j, hj, rfl, hg j hj⟩
theorem lt_le {a : Int32} {n : Nat} (h : nI (n + 1) ≤ a) (hn : n + 1 < 2 ^ 31) : nI n < a := Int32.lt_of_lt_of_le (nI_lt (by omega) hn) h
theorem hand_or (M m : PM) (a : Int32) : (v_X4_isHand M a = 0 ∧ v_X5_isHand m a = 0) ∨ ∃ j, j < 8 ∧ a = nI j ∧ v_X4_isHand M a = 1 ∧ v_X5_isHand m a = 1 := by
  refine rng_or (v_X4_isHand M) (v_X5_isHand m) 8 (by omega) (fun a h => ?_) (fun j hj => ?_) a
  · unfold v_X4_isHand v_X5_isHand v_X5_within
    by_cases c : a < 0
    · rw [if_pos c, if_pos c]; exact ⟨rfl, rfl⟩
    · have h8 : (8 : Int32) ≤ a := by rcases h with h | h; exact absurd h c; exact h
      rw [if_neg c, if_neg c, if_pos h8, if_pos (show (7 : Int32) < a from lt_le (n := 7) h8 (by omega))]; exact ⟨rfl, rfl⟩
  · unfold v_X4_isHand v_X5_isHand v_X5_within
    rw [if_neg (nI_pos (by omega)), if_neg (nI_pos (by omega)), if_neg (L_nle 8 (n := 8) rfl hj (by omega)), if_neg (show ¬ (7 : Int32) < nI j from nI_nlt (a := 7) (by omega) (by omega))]; exact ⟨rfl, rfl⟩
theorem row_or (M m : PM) (a : Int32) : (v_X4_isRow M a = 0 ∧ v_X5_isRow m a = 0) ∨ ∃ j, j < 12 ∧ a = nI j ∧ v_X4_isRow M a = 1 ∧ v_X5_isRow m a = 1 := by
  refine rng_or (v_X4_isRow M) (v_X5_isRow m) 12 (by omega) (fun a h => ?_) (fun j hj => ?_) a
  · unfold v_X4_isRow v_X5_isRow v_X5_within
    by_cases c : a < 0
    · rw [if_pos c, if_pos c]; exact ⟨rfl, rfl⟩
    · have h8 : (12 : Int32) ≤ a := by rcases h with h | h; exact absurd h c; exact h
      rw [if_neg c, if_neg c, if_pos h8, if_pos (show (11 : Int32) < a from lt_le (n := 11) h8 (by omega))]; exact ⟨rfl, rfl⟩
  · unfold v_X4_isRow v_X5_isRow v_X5_within
    rw [if_neg (nI_pos (by omega)), if_neg (nI_pos (by omega)), if_neg (L_nle 12 (n := 12) rfl hj (by omega)), if_neg (show ¬ (11 : Int32) < nI j from nI_nlt (a := 11) (by omega) (by omega))]; exact ⟨rfl, rfl⟩
theorem set_or (M m : PM) (a : Int32) : (v_X4_isSetting M a = 0 ∧ v_X5_isSetting m a = 0) ∨ ∃ j, j < 3 ∧ a = nI j ∧ v_X4_isSetting M a = 1 ∧ v_X5_isSetting m a = 1 := by
  refine rng_or (v_X4_isSetting M) (v_X5_isSetting m) 3 (by omega) (fun a h => ?_) (fun j hj => ?_) a
  · unfold v_X4_isSetting v_X5_isSetting v_X5_within
    by_cases c : a < 0
    · rw [if_pos c, if_pos c]; exact ⟨rfl, rfl⟩
    · have h8 : (3 : Int32) ≤ a := by rcases h with h | h; exact absurd h c; exact h
      rw [if_neg c, if_neg c, if_pos h8, if_pos (show (2 : Int32) < a from lt_le (n := 2) h8 (by omega))]; exact ⟨rfl, rfl⟩
  · unfold v_X4_isSetting v_X5_isSetting v_X5_within
    rw [if_neg (nI_pos (by omega)), if_neg (nI_pos (by omega)), if_neg (L_nle 3 (n := 3) rfl hj (by omega)), if_neg (show ¬ (2 : Int32) < nI j from nI_nlt (a := 2) (by omega) (by omega))]; exact ⟨rfl, rfl⟩
theorem mode_or (M m : PM) (a : Int32) : (v_X4_isMode M a = 0 ∧ v_X5_isMode m a = 0) ∨ (MO a ∧ v_X4_isMode M a = 1 ∧ v_X5_isMode m a = 1) := by
  unfold v_X4_isMode v_X5_isMode v_X5_within
  by_cases c : a < 1
  · rw [if_pos c]; exact Or.inl ⟨rfl, rfl⟩
  · rw [if_neg c]
    by_cases c2 : (3 : Int32) < a
    · rw [if_pos c2]; exact Or.inl ⟨rfl, rfl⟩
    · rw [if_neg c2]
      obtain ⟨j, h1, h2, rfl⟩ := nI_le2 (a := 1) (b := 3) (by omega) (by omega) c c2
      refine Or.inr ⟨?_, rfl, rfl⟩
      rcases (show j = 1 ∨ j = 2 ∨ j = 3 by omega) with rfl | rfl | rfl
      · exact Or.inl rfl
      · exact Or.inr (Or.inl rfl)
      · exact Or.inr (Or.inr rfl)
theorem there_1 {m : PM} {a b : Int32} (h1 : v_X5_isHand m a = 1) (h2 : v_X5_isRow m b = 1) : v_X5_areThere m a b = 1 := by
  unfold v_X5_areThere
  rw [h1, if_neg (by decide), h2, if_neg (by decide)]
theorem there_h {m : PM} {a b : Int32} (h1 : v_X5_isHand m a = 0) : v_X5_areThere m a b = 0 := by
  unfold v_X5_areThere
  rw [if_pos h1]
theorem there_r {m : PM} {a b : Int32} (h1 : v_X5_isRow m b = 0) : v_X5_areThere m a b = 0 := by
  unfold v_X5_areThere
  by_cases c : v_X5_isHand m a = 0
  · rw [if_pos c]
  · rw [if_neg c, if_pos h1]
theorem wr_ql {M m : PM} {s len K : Nat} (H : WR M m s len K) : QL m := ql_of (rq_qa H.1.1.2.1)
theorem wr_qa {M m : PM} {s len K : Nat} (H : WR M m s len K) : QA (zz m) := rq_qa H.1.1.2.1
theorem wr_J {M m : PM} {s len K : Nat} (H : WR M m s len K) : JZ (zz m) := ⟨_, H.1.1, H.1.2.1⟩
theorem wr_wait {M m : PM} {s len K h : Nat} (H : WR M m s len K) (hh : h < 8) : v_X2_isWaiting M 0 (nI h) = v_X5_waits m (nI h) := (waits_R (M := M) (m := m) (g := 0) (rm := clT M 0 2) (rp := clT M 0 3) (show RQ (clT M 0 1) _ _ _ from H.1.1.2.1) hh).symm
/-- behind saving -/
theorem sv_W {M m : PM} {s len K : Nat} (H : WR M m s len K) : WR (w_X0_save M 0) (svM m s) (svN s) len K ∧ (svM m s).1 7 0 0 5 = 0 := by
  refine ⟨(save_R (wr_5 H 0)).1, ?_⟩
  unfold svM w_X5_save sets wI
  dsimp only
  rw [if_neg (by omega), if_neg (by omega), if_pos ⟨rfl, rfl, rfl, rfl⟩]
section
variable {M m : PM} {s len K : Nat}
theorem face_ask (H : WR M m s len K) (a1 a2 a3 : Int32) : ∃ b m2 s2 l2, Rn MX5_ask [vR 7 0 0, vI a1, vI a2, vI a3] m (some (vI b)) m2 ∧ WR (w_X4_ask M a1 a2 a3) m2 s2 l2 (K + 20) ∧ AG (e3 1 2 3) (o_X4_ask M a1 a2 a3) (m2.1 7 0 0 5) b := by
  have no : ∀ x : Nat, (x = 40 ∨ x = 50 ∨ x = 58) → o_X4_ask M a1 a2 a3 = .inr x → w_X4_ask M a1 a2 a3 = M → cd_ask m a1 a2 a3 = e3 1 2 3 x → ∃ b m2 s2 l2, Rn MX5_ask [vR 7 0 0, vI a1, vI a2, vI a3] m (some (vI b)) m2 ∧ WR (w_X4_ask M a1 a2 a3) m2 s2 l2 (K + 20) ∧ AG (e3 1 2 3) (o_X4_ask M a1 a2 a3) (m2.1 7 0 0 5) b := by
    intro x hx ho hw hc
    have k := no_ask m a1 a2 a3 (wr_ql H) (by rw [hc]; rcases hx with rfl | rfl | rfl <;> decide)
    refine ⟨_, _, s, len, k, by rw [hw]; exact wr_le (wr_5 H _) (by omega), Or.inr ⟨x, ho, by rw [w_at]; exact hc, hx⟩⟩
  have d1 : ¬ (1 : Int32) = 0 := by decide
  have n1 : ¬ ¬ (0 : Int32) = 0 := fun q => q rfl
  rcases hand_or M m a1 with ⟨p1, p2⟩ | ⟨h, hh, rfl, p1, p2⟩
  · exact no 40 (Or.inl rfl) (by unfold o_X4_ask; rw [if_pos p1]) (by unfold w_X4_ask; rw [if_pos p1]) (by unfold cd_ask; rw [there_h p2, if_neg n1]; rfl)
  rcases row_or M m a2 with ⟨q1, q2⟩ | ⟨r, hr, rfl, q1, q2⟩
  · exact no 40 (Or.inl rfl) (by unfold o_X4_ask; rw [p1, if_neg d1, q1, if_neg n1]) (by unfold w_X4_ask; rw [p1, if_neg d1, q1, if_neg n1]) (by unfold cd_ask; rw [there_r q2, if_neg n1]; rfl)
  rcases mode_or M m a3 with ⟨r1, r2⟩ | ⟨hm, r1, r2⟩
  · exact no 50 (Or.inr (Or.inl rfl)) (by unfold o_X4_ask; rw [p1, if_neg d1, q1, if_pos d1, r1, if_neg n1]) (by unfold w_X4_ask; rw [p1, if_neg d1, q1, if_pos d1, r1, if_neg n1]) (by unfold cd_ask; rw [there_1 p2 q2, if_pos d1, r2, if_neg n1]; rfl)
  have ew := wr_wait H hh
  by_cases cw : v_X5_waits m (nI h) = 0
  · have hc : cd_ask m (nI h) (nI r) a3 = 0 := by unfold cd_ask; rw [there_1 p2 q2, if_pos d1, r2, if_pos d1, if_pos cw]
    have k := go_ask jj_JZ m h r s a3 hh hr hm cw (wr_J H) H.2.1 H.2.2.1 hc
    obtain ⟨W, t0⟩ := sv_W H
    have wN : clT (w_X0_save M 0) 0 1 h = -1 := (wait_c (m := svM m s) W.1.1 hh).mp (by rw [waits_cong (zz_svM m s)]; exact cw)
    obtain ⟨v, ⟨c2, w1, w2, w3⟩, _⟩ := takeAsking_R (w_X0_save M 0) (svM m s) 0 W.1.1 hh hr hm wN
    rw [setS_id] at v w1
    have o := oz_asks (svM m s) h r a3
    refine ⟨_, _, svN s, len, k, ?_, Or.inl ⟨?_, ?_⟩⟩
    · unfold w_X4_ask
      rw [p1, if_neg d1, q1, if_pos d1, r1, if_pos d1, ew, if_pos cw, w1]
      exact wr_oz W ⟨w2, bc_c W.1.2.1 (w3.2 4 (by omega)) (w3.2 10 (by omega)), cn_le (w3.1 K W.1.2.2) (by omega)⟩ (by omega) o
    · unfold o_X4_ask
      rw [p1, if_neg d1, q1, if_pos d1, r1, if_pos d1, ew, if_pos cw, v]
    · rw [o.1 7 0 0 5 (by omega)]; exact t0
  · exact no 58 (Or.inr (Or.inr rfl)) (by unfold o_X4_ask; rw [p1, if_neg d1, q1, if_pos d1, r1, if_pos d1, ew, if_neg cw]) (by unfold w_X4_ask; rw [p1, if_neg d1, q1, if_pos d1, r1, if_pos d1, ew, if_neg cw]) (by unfold cd_ask; rw [there_1 p2 q2, if_pos d1, r2, if_pos d1, if_neg cw]; rfl)
theorem face_release (H : WR M m s len K) (a1 a2 : Int32) : ∃ b m2 s2 l2, Rn MX5_release [vR 7 0 0, vI a1, vI a2] m (some (vI b)) m2 ∧ WR (w_X4_release M a1 a2) m2 s2 l2 (K + 20) ∧ AG (e3 1 0 2) (o_X4_release M a1 a2) (m2.1 7 0 0 5) b := by
  have d1 : ¬ (1 : Int32) = 0 := by decide
  have n1 : ¬ ¬ (0 : Int32) = 0 := fun q => q rfl
  have off : v_X5_areThere m a1 a2 = 0 → o_X4_release M a1 a2 = .inr 40 → w_X4_release M a1 a2 = M → ∃ b m2 s2 l2, Rn MX5_release [vR 7 0 0, vI a1, vI a2] m (some (vI b)) m2 ∧ WR (w_X4_release M a1 a2) m2 s2 l2 (K + 20) ∧ AG (e3 1 0 2) (o_X4_release M a1 a2) (m2.1 7 0 0 5) b := fun c ho hw => ⟨_, _, s, len, off_release m a1 a2 c, by rw [hw]; exact wr_le (wr_5 H _) (by omega), Or.inr ⟨40, ho, w_at _ _ _ _ _ _, Or.inl rfl⟩⟩
  rcases hand_or M m a1 with ⟨p1, p2⟩ | ⟨h, hh, rfl, p1, p2⟩
  · exact off (there_h p2) (by unfold o_X4_release; rw [if_pos p1]) (by unfold w_X4_release; rw [if_pos p1])
  rcases row_or M m a2 with ⟨q1, q2⟩ | ⟨r, hr, rfl, q1, q2⟩
  · exact off (there_r q2) (by unfold o_X4_release; rw [p1, if_neg d1, q1, if_neg n1]) (by unfold w_X4_release; rw [p1, if_neg d1, q1, if_neg n1])
  have ec := canRelease_R (st_val H) hh hr
  rcases z_X5_canRelease m h r with z | z
  · have hc : cd_release m h r = 2 := by unfold cd_release; rw [there_1 p2 q2, if_pos d1, if_pos z]
    have k := no_release m h r hh hr (wr_ql H) (by rw [hc]; decide)
    refine ⟨_, _, s, len, k, ?_, Or.inr ⟨58, ?_, by rw [w_at, hc]; rfl, Or.inr (Or.inr rfl)⟩⟩
    · unfold w_X4_release
      rw [p1, if_neg d1, q1, if_pos d1, ec, z, if_neg n1]
      exact wr_le (wr_5 H _) (by omega)
    · unfold o_X4_release
      rw [p1, if_neg d1, q1, if_pos d1, ec, z, if_neg n1]
  · have hc : cd_release m h r = 0 := by unfold cd_release; rw [there_1 p2 q2, if_pos d1, z, if_neg d1]
    have k := go_release m h r s hh hr (wr_qa H) H.2.1 H.2.2.1 hc
    obtain ⟨W, t0⟩ := sv_W H
    have zN : v_X5_canRelease (svM m s) h r = 1 := by
      have e := canRelease_R (st_val W) hh hr
      have e0 : v_X5_canRelease (svM m s) h r = v_X5_canRelease m h r := by
        unfold v_X5_canRelease
        rw [rowOf_cong (zz_svM m s), show v_X5_lockOf (svM m s) h r = v_X5_lockOf m h r from congrFun (zz_svM m s) _]
      rw [e0, z]
    obtain ⟨v, c2, w1, w2, w3⟩ := release_R (w_X0_save M 0) (svM m s) 0 W.1.1 hh hr (can_c W.1.1 hh (by rw [zN]; decide))
    rw [setS_id] at v w1
    have o := oz_releases (svM m s) h r
    refine ⟨_, _, svN s, len, k, ?_, Or.inl ⟨?_, ?_⟩⟩
    · unfold w_X4_release
      rw [p1, if_neg d1, q1, if_pos d1, ec, z, if_pos d1, w1]
      exact wr_oz W ⟨w2, bc_c W.1.2.1 (w3.2.2 4 (by omega)) (w3.2.2 10 (by omega)), cn_le (w3.2.1 K W.1.2.2) (by omega)⟩ (by omega) o
    · unfold o_X4_release
      rw [p1, if_neg d1, q1, if_pos d1, ec, z, if_pos d1, v]
    · rw [o.1 7 0 0 5 (by omega)]; exact t0
theorem face_giveUp (H : WR M m s len K) (a1 : Int32) : ∃ b m2 s2 l2, Rn MX5_giveUp [vR 7 0 0, vI a1] m (some (vI b)) m2 ∧ WR (w_X4_giveUp M a1) m2 s2 l2 (K + 20) ∧ AG (e3 1 0 2) (o_X4_giveUp M a1) (m2.1 7 0 0 5) b := by
  have d1 : ¬ (1 : Int32) = 0 := by decide
  have n1 : ¬ ¬ (0 : Int32) = 0 := fun q => q rfl
  have no : ∀ x : Nat, (x = 40 ∨ x = 58) → o_X4_giveUp M a1 = .inr x → w_X4_giveUp M a1 = M → cd_giveUp m a1 = e3 1 0 2 x → ∃ b m2 s2 l2, Rn MX5_giveUp [vR 7 0 0, vI a1] m (some (vI b)) m2 ∧ WR (w_X4_giveUp M a1) m2 s2 l2 (K + 20) ∧ AG (e3 1 0 2) (o_X4_giveUp M a1) (m2.1 7 0 0 5) b := by
    intro x hx ho hw hc
    have k := no_giveUp m a1 (wr_ql H) (by rw [hc]; rcases hx with rfl | rfl <;> decide)
    refine ⟨_, _, s, len, k, by rw [hw]; exact wr_le (wr_5 H _) (by omega), Or.inr ⟨x, ho, by rw [w_at]; exact hc, by omega⟩⟩
  rcases hand_or M m a1 with ⟨p1, p2⟩ | ⟨h, hh, rfl, p1, p2⟩
  · exact no 40 (Or.inl rfl) (by unfold o_X4_giveUp; rw [p1, if_neg n1]) (by unfold w_X4_giveUp; rw [p1, if_neg n1]) (by unfold cd_giveUp; rw [p2, if_neg n1]; rfl)
  have ew := wr_wait H hh
  by_cases cw : v_X5_waits m (nI h) = 0
  · have cw' : ¬ ¬ v_X5_waits m (nI h) = 0 := fun q => q cw
    exact no 58 (Or.inr rfl) (by unfold o_X4_giveUp; rw [p1, if_pos d1, ew, if_neg cw']) (by unfold w_X4_giveUp; rw [p1, if_pos d1, ew, if_neg cw']) (by unfold cd_giveUp; rw [p2, if_pos d1, if_pos cw]; rfl)
  · have hc : cd_giveUp m (nI h) = 0 := by unfold cd_giveUp; rw [p2, if_pos d1, if_neg cw]
    have cr : ¬ v_X5_rowOf m (nI h) = -1 := fun q => cw (by unfold v_X5_waits; rw [if_pos q])
    have k := go_giveUp m h s cr (wr_qa H) H.2.1 H.2.2.1 hc
    obtain ⟨W, t0⟩ := sv_W H
    have wN : ¬ clT (w_X0_save M 0) 0 1 h = -1 := fun q => cw (by rw [← waits_cong (zz_svM m s)]; exact (wait_c (m := svM m s) W.1.1 hh).mpr q)
    obtain ⟨v, c2, w1, w2, w3⟩ := giveUp_R (w_X0_save M 0) (svM m s) 0 W.1.1 hh wN
    rw [setS_id] at v w1
    have o : OZ (svM m s) (giveW m h s) := oz_trans (oz_unq _ _ _) (oz_settle _ _)
    refine ⟨_, _, svN s, len, k, ?_, Or.inl ⟨?_, ?_⟩⟩
    · unfold w_X4_giveUp
      rw [p1, if_pos d1, ew, if_pos cw, w1]
      exact wr_oz W ⟨w2, bc_c W.1.2.1 (w3.2.2 4 (by omega)) (w3.2.2 10 (by omega)), cn_le (w3.2.1 K W.1.2.2) (by omega)⟩ (by omega) o
    · unfold o_X4_giveUp
      rw [p1, if_pos d1, ew, if_pos cw, v]
    · rw [o.1 7 0 0 5 (by omega)]; exact t0
theorem face_handOn (H : WR M m s len K) (a1 a2 a3 : Int32) : ∃ b m2 s2 l2, Rn MX5_handOn [vR 7 0 0, vI a1, vI a2, vI a3] m (some (vI b)) m2 ∧ WR (w_X4_handOn M a1 a2 a3) m2 s2 l2 (K + 20) ∧ AG (e3 1 0 2) (o_X4_handOn M a1 a2 a3) (m2.1 7 0 0 5) b := by
  have d1 : ¬ (1 : Int32) = 0 := by decide
  have n1 : ¬ ¬ (0 : Int32) = 0 := fun q => q rfl
  have off : v_X5_areThere m a1 a2 = 0 → o_X4_handOn M a1 a2 a3 = .inr 40 → w_X4_handOn M a1 a2 a3 = M → ∃ b m2 s2 l2, Rn MX5_handOn [vR 7 0 0, vI a1, vI a2, vI a3] m (some (vI b)) m2 ∧ WR (w_X4_handOn M a1 a2 a3) m2 s2 l2 (K + 20) ∧ AG (e3 1 0 2) (o_X4_handOn M a1 a2 a3) (m2.1 7 0 0 5) b := fun c ho hw => ⟨_, _, s, len, off_handOn m a1 a2 a3 c, by rw [hw]; exact wr_le (wr_5 H _) (by omega), Or.inr ⟨40, ho, w_at _ _ _ _ _ _, Or.inl rfl⟩⟩
  rcases hand_or M m a1 with ⟨p1, p2⟩ | ⟨h, hh, rfl, p1, p2⟩
  · exact off (there_h p2) (by unfold o_X4_handOn; rw [if_pos p1]) (by unfold w_X4_handOn; rw [if_pos p1])
  rcases row_or M m a2 with ⟨q1, q2⟩ | ⟨r, hr, rfl, q1, q2⟩
  · exact off (there_r q2) (by unfold o_X4_handOn; rw [p1, if_neg d1, if_pos q1]) (by unfold w_X4_handOn; rw [p1, if_neg d1, if_pos q1])
  rcases hand_or M m a3 with ⟨r1, r2⟩ | ⟨o, ho, rfl, r1, r2⟩
  · have hc : cd_handOn m h r a3 = 1 := by unfold cd_handOn; rw [there_1 p2 q2, if_neg d1, r2, if_neg n1]
    have k := no_handOn m h r a3 hh hr (wr_ql H) (by rw [hc]; decide)
    refine ⟨_, _, s, len, k, ?_, Or.inr ⟨40, ?_, by rw [w_at, hc]; rfl, Or.inl rfl⟩⟩
    · unfold w_X4_handOn
      rw [p1, if_neg d1, q1, if_neg d1, r1, if_neg n1]
      exact wr_le (wr_5 H _) (by omega)
    · unfold o_X4_handOn
      rw [p1, if_neg d1, q1, if_neg d1, r1, if_neg n1]
  have ec := canHandOn_R (st_val H) hh hr ho
  by_cases z : v_X5_canHandOn m h r (nI o) = 0
  · have hc : cd_handOn m h r (nI o) = 2 := by unfold cd_handOn; rw [there_1 p2 q2, if_neg d1, r2, if_pos d1, if_pos z]
    have k := no_handOn m h r (nI o) hh hr (wr_ql H) (by rw [hc]; decide)
    have z' : ¬ ¬ v_X5_canHandOn m h r (nI o) = 0 := fun q => q z
    refine ⟨_, _, s, len, k, ?_, Or.inr ⟨58, ?_, by rw [w_at, hc]; rfl, Or.inr (Or.inr rfl)⟩⟩
    · unfold w_X4_handOn
      rw [p1, if_neg d1, q1, if_neg d1, r1, if_pos d1, ec, if_neg z']
      exact wr_le (wr_5 H _) (by omega)
    · unfold o_X4_handOn
      rw [p1, if_neg d1, q1, if_neg d1, r1, if_pos d1, ec, if_neg z']
  · have hc : cd_handOn m h r (nI o) = 0 := by unfold cd_handOn; rw [there_1 p2 q2, if_neg d1, r2, if_pos d1, if_neg z]
    obtain ⟨W, t0⟩ := sv_W H
    -- what the check says
    have z2 : ¬ v_X2_canPassOver M 0 (nI h) (nI r) (nI o) = 0 := by rw [ec]; exact z
    have hw1 : ¬ clT M 0 1 h = nI r := by
      intro q
      apply z2
      unfold v_X2_canPassOver v_X2_canLetGo
      rw [at_in (k := 1) (g := 0) (show h < 8 from hh), show cl M 0 1 h = nI r from q]
      by_cases c0 : v_X1_at M 0 0 (v_X4_cell M (nI h) (nI r)) ≤ 0
      · rw [if_pos c0, if_pos rfl]
      · rw [if_neg c0, if_pos rfl, if_pos rfl]
    have hw2 : clT M 0 1 o = nI r := by
      refine Classical.byContradiction fun q => z2 ?_
      unfold v_X2_canPassOver
      rw [at_in (k := 1) (g := 0) (show o < 8 from ho)]
      by_cases c0 : v_X2_canLetGo M 0 (nI h) (nI r) = 0
      · rw [if_pos c0]
      · rw [if_neg c0]
        by_cases c1 : nI h = nI o
        · rw [if_pos c1]
        · rw [if_neg c1, if_pos (show ¬ cl M 0 1 o = nI r from q)]
    have eN : clT (w_X0_save M 0) 0 = clT M 0 := (save_R (wr_5 H 0)).2
    obtain ⟨v, c2, w1, w2, w3⟩ := handOn_R (w_X0_save M 0) (svM m s) 0 W.1.1 hh hr ho (by rw [eN]; exact hw1) (by rw [eN]; exact hw2)
    rw [setS_id] at v w1
    have hp : ¬ v_X5_placeIn (hoA (svM m s) h r) (nI o) r = -1 := by
      have A := lock0_A W.1.1 hh hr (by rw [eN]; exact hw1)
      rw [placeIn_R (rr := clT M 0 1) (rm := clT M 0 2) (rp := clT M 0 3) (by
        have Q := A.2.1
        rw [up2_o _ _ _ _ (by decide), up2_o _ _ _ _ (by decide), up2_o _ _ _ _ (by decide), eN] at Q
        rw [show zz (hoA (svM m s) h r) = upd (zz (svM m s)) (5 + 12 * h + r) 0 from zz_setLock _ _ _ _]
        exact Q) ho hr, if_pos hw2]
      obtain ⟨n, p, x1, x2, x3, x4, _⟩ := rq_w H.1.1.2.1 ho hr hw2
      rw [x4]
      exact nI_nm1 (by omega)
    have k := go_handOn m h r o s hh hr ho hp (wr_qa H) H.2.1 H.2.2.1 hc
    have oo : OZ (svM m s) (w_X5_settle (hoC (svM m s) h r o) r) := oz_trans (oz_trans (oz_trans (oz_setLock _ _ _ _) (oz_setz _ _)) (oz_wI _ _ _)) (oz_settle _ _)
    refine ⟨_, _, svN s, len, k, ?_, Or.inl ⟨?_, ?_⟩⟩
    · unfold w_X4_handOn
      rw [p1, if_neg d1, q1, if_neg d1, r1, if_pos d1, ec, if_pos z, w1]
      exact wr_oz W ⟨w2, bc_c W.1.2.1 (w3.2.2 4 (by omega)) (w3.2.2 10 (by omega)), cn_le (w3.2.1 K W.1.2.2) (by omega)⟩ (by omega) oo
    · unfold o_X4_handOn
      rw [p1, if_neg d1, q1, if_neg d1, r1, if_pos d1, ec, if_pos z, v]
    · rw [oo.1 7 0 0 5 (by omega)]; exact t0
end
