/-! trials, and the digest -/
theorem wr_m1 {M m : PM} {s len K : Nat} (c : Nat → Nat → Int32) : WR (setS M 1 c) m s len K ↔ WR M m s len K := by
  have o : ∀ t k g i, ¬ t = 2 → ¬ t = 0 → (setS M 1 c).1 t k g i = M.1 t k g i := fun t k g i h h0 => by
    unfold setS
    dsimp only
    rw [if_neg (fun q => h q.1), if_neg (fun q => h0 q.1)]
  have ox : ∀ i, (setS M 1 c).1 2 11 0 i = M.1 2 11 0 i := fun i => by
    unfold setS
    dsimp only
    rw [if_neg (by omega), if_neg (by omega)]
  have e : ∀ j, clT (setS M 1 c) (2 + j) = clT M (2 + j) := fun j => clT_o M c (by omega)
  unfold WR
  simp only [clT_o M c (show ¬ 0 = 1 by decide), o 4 0 0 2 (by decide) (by decide), o 4 0 0 1 (by decide) (by decide), o 6 0 0 1 (by decide) (by decide), ox, e]
theorem wr_oy {M m m2 : PM} {s len K : Nat} (H : WR M m s len K) (e : ∀ i, i < 361 → zz m2 i = zz m i) (o : OY m m2) : WR M m2 s len K := wr_m H e (fun i _ => o 8 1 0 i (by omega)) (o 7 0 0 1 (by omega)) (fun i _ => o 8 2 0 i (by omega)) (o 7 0 0 3 (by omega))
/-- what asking would do -/
theorem asked_R {M m : PM} {s len K : Nat} (H : WR M m s len K) {h r : Nat} {md : Int32} (hh : h < 8) (hr : r < 12) (hm : MO md) : ∃ c, w_X4_tryAsking M (nI h) (nI r) md = setS M 1 c ∧ ∀ m2, WR M m2 s len K → ∀ j, j < 3 → v_X4_trialPart (w_X4_tryAsking M (nI h) (nI r) md) (v_X4_tryAsking M (nI h) (nI r) md) (nI j) = v_X5_askedThen m2 h r md (nI j) := by
  have ew : ∀ m2, WR M m2 s len K → v_X2_isWaiting M 0 (nI h) = v_X5_waits m2 (nI h) := fun m2 H2 => (waits_R (M := M) (m := m2) (g := 0) (rm := clT M 0 2) (rp := clT M 0 3) (show RQ (clT M 0 1) _ _ _ from H2.1.1.2.1) hh).symm
  by_cases cw : v_X2_isWaiting M 0 (nI h) = 0
  · obtain ⟨c2, q1, q2⟩ := copy_R M (g := 1) (g1 := 0) (by omega)
    have S : ∀ m2, WR M m2 s len K → SA c2 (zz (w_X5_keep m2)) := fun m2 H2 => by rw [zz_keep]; exact sa_eqc H2.1.1 q2
    have wc : ∀ m2, WR M m2 s len K → c2 1 h = -1 := fun m2 H2 => (wait_c (S m2 H2) hh).mp (by rw [waits_cong (zz_keep m2), ← ew m2 H2]; exact cw)
    obtain ⟨_, ⟨c3, w1, _⟩, _⟩ := takeAsking_R M (w_X5_keep m) 1 (S m H) hh hr hm (wc m H)
    have eW : w_X4_tryAsking M (nI h) (nI r) md = setS M 1 c3 := by unfold w_X4_tryAsking; rw [if_pos cw, q1, w1]
    refine ⟨c3, eW, fun m2 H2 j hj => ?_⟩
    obtain ⟨v2, ⟨c4, w2, w3, _⟩, _⟩ := takeAsking_R M (w_X5_keep m2) 1 (S m2 H2) hh hr hm (wc m2 H2)
    have eW2 : w_X4_tryAsking M (nI h) (nI r) md = setS M 1 c4 := by unfold w_X4_tryAsking; rw [if_pos cw, q1, w2]
    have eV : v_X4_tryAsking M (nI h) (nI r) md = v_X5_asks (w_X5_keep m2) h r md := by unfold v_X4_tryAsking; rw [if_pos cw, q1, v2]
    have nv : ¬ v_X5_asks (w_X5_keep m2) h r md = -1 := by unfold v_X5_asks; (repeat' split) <;> decide
    have e1 : v_X2_lockCount (setS M 1 c4) 1 = v_X5_allLocks (w_X5_asks (w_X5_keep m2) h r md) := lockCount_R (sa_rgm M _ 1 w3)
    have e2 : v_X1_sum (setS M 1 c4) 7 1 = v_X5_sumFrom (w_X5_asks (w_X5_keep m2) h r md) 337 8 := sum_R M _ 1 w3 (k := 7) (by omega) (by omega)
    have e3 : v_X1_sum (setS M 1 c4) 7 0 = v_X5_sumFrom (w_X5_keep m2) 337 8 := by
      have k := sum_R M (w_X5_keep m2) 0 (c := clT M 0) (by rw [zz_keep]; exact H2.1.1) (k := 7) (by omega) (by omega)
      rw [setS_id] at k
      rw [show v_X5_sumFrom (w_X5_keep m2) 337 8 = v_X5_sumFrom (w_X5_keep m2) (zof 7) (nlen 7) from rfl, ← k]
      unfold v_X1_sum
      refine lp_cong 8 (fun i x hi => ?_) 8 0 0 rfl
      unfold setS
      dsimp only
      rw [if_neg (by omega), if_neg (by omega)]
    rw [eV, eW2]
    unfold v_X4_trialPart v_X5_askedThen
    rw [if_neg nv, if_pos ((ew m2 H2).symm.trans cw), e1, e2, e3]
  · have eW : w_X4_tryAsking M (nI h) (nI r) md = M := by unfold w_X4_tryAsking; rw [if_neg cw]
    refine ⟨clT M 1, by rw [eW, setS_id], fun m2 H2 j hj => ?_⟩
    have eV : v_X4_tryAsking M (nI h) (nI r) md = -1 := by unfold v_X4_tryAsking; rw [if_neg cw]
    rw [eV]
    unfold v_X4_trialPart v_X5_askedThen
    rw [if_pos rfl, if_neg (fun q => cw ((ew m2 H2).trans q))]
/-- the hash -/
def hsh (m : PM) : Int64 := m.2 7 0 0 11
theorem hsh_mix (m : PM) (x : Int64) : hsh (w_X5_mix m x) = 31 * hsh m + x := by
  unfold hsh w_X5_mix wL
  dsimp only
  rw [if_pos ⟨rfl, rfl, rfl, rfl⟩]
theorem wr_mix {M m : PM} {s len K : Nat} (H : WR M m s len K) (x : Int64) : WR M (w_X5_mix m x) s len K := H
theorem st_val {M m : PM} {s len K : Nat} (H : WR M m s len K) : RG M m 0 := by
  have k := sa_rgm M m 0 H.1.1
  rw [setS_id] at k
  exact k
theorem mixHand_R {M m : PM} {s len K h : Nat} (H : WR M m s len K) (hh : h < 8) : v_X4_mixHand M (hsh m) (nI h) = hsh (w_X5_mixHand m h) ∧ WR M (w_X5_mixHand m h) s len K := by
  have a := lp_rel (b_X4_mixHand_1 M (hsh m) (nI h)) (b_X5_mixHand_1 h) 9 (fun _ x t => x = hsh t ∧ WR M t s len K) (fun j x t hj hs => by
    obtain ⟨rfl, W⟩ := hs
    unfold b_X4_mixHand_1 b_X5_mixHand_1 v_X4_mix
    have k := handPart_R M t 0 W.1.1 hh hj
    rw [setS_id] at k
    rw [k, hsh_mix]
    exact ⟨rfl, wr_mix W _⟩) 9 0 (hsh m) m rfl ⟨rfl, H⟩
  have b := lp_rel (b_X4_mixHand_2 M (hsh m) (nI h)) (b_X5_mixHand_2 h) 12 (fun _ x t => x = hsh t ∧ WR M t s len K) (fun j x t hj hs => by
    obtain ⟨rfl, W⟩ := hs
    unfold b_X4_mixHand_2 b_X5_mixHand_2 v_X4_mix
    rw [lock_R (st_val W) hh hj, hsh_mix]
    exact ⟨rfl, wr_mix W _⟩) 12 0 _ _ rfl a
  unfold v_X4_mixHand w_X5_mixHand v_X4_mix
  obtain ⟨b1, b2⟩ := b
  have b1 : lp (b_X4_mixHand_2 M (hsh m) (nI h)) 12 0 (lp (b_X4_mixHand_1 M (hsh m) (nI h)) 9 0 (hsh m)) = hsh (mixHand_2 m h) := b1
  have b2 : WR M (mixHand_2 m h) s len K := b2
  rw [b1, hsh_mix, reach_R (st_val b2) hh]
  exact ⟨rfl, wr_mix b2 _⟩
theorem mixRow_R {M m : PM} {s len K r : Nat} (H : WR M m s len K) (hr : r < 12) : v_X4_mixRow (w_X4_tryAsking M 0 (nI r) 3) (hsh m) (nI r) (v_X4_tryAsking M 0 (nI r) 3) = hsh (w_X5_mixRow m r) ∧ WR (w_X4_tryAsking M 0 (nI r) 3) (w_X5_mixRow m r) s len K ∧ ∃ c, w_X4_tryAsking M 0 (nI r) 3 = setS M 1 c := by
  obtain ⟨c, eW, T⟩ := asked_R H (h := 0) (md := 3) (by omega) hr (Or.inr (Or.inr rfl))
  have T : ∀ m2, WR M m2 s len K → ∀ j, j < 3 → v_X4_trialPart (w_X4_tryAsking M 0 (nI r) 3) (v_X4_tryAsking M 0 (nI r) 3) (nI j) = v_X5_askedThen m2 0 r 3 (nI j) := T
  have eW : w_X4_tryAsking M 0 (nI r) 3 = setS M 1 c := eW
  generalize v_X4_tryAsking M 0 (nI r) 3 = ans at T ⊢
  rw [eW] at T ⊢
  have H2 : WR (setS M 1 c) m s len K := (wr_m1 c).mpr H
  have T : ∀ m2, WR (setS M 1 c) m2 s len K → ∀ j, j < 3 → v_X4_trialPart (setS M 1 c) ans (nI j) = v_X5_askedThen m2 0 r 3 (nI j) := fun m2 h2 => T m2 ((wr_m1 c).mp h2)
  generalize eN : setS M 1 c = N at T H2 ⊢
  have hq := queueLength_R (st_val H2) hr
  have hq8 := (rq_qa H2.1.1.2.1 r hr).2.1
  have eqn : (v_X2_queueLength N 0 (nI r)).toNatClampNeg = qn m r := by rw [hq.1]; exact nI_clamp (by have : qn m r ≤ 8 := hq8; omega)
  have a1 := lp_rel (b_X4_mixRow_1 N (hsh m) (nI r) ans) (b_X5_mixRow_1 r) 6 (fun _ x t => x = hsh t ∧ WR N t s len K ∧ zz t = zz m) (fun j x t hj hs => by
    obtain ⟨rfl, W, Z⟩ := hs
    unfold b_X4_mixRow_1 b_X5_mixRow_1 v_X4_mix
    have k := rowPart_R N t 0 W.1.1 hr (nI j)
    rw [setS_id] at k
    rw [k, hsh_mix]
    exact ⟨rfl, wr_mix W _, Z⟩) 6 0 (hsh m) m rfl ⟨rfl, H2, rfl⟩
  have a2 := lp_rel (b_X4_mixRow_2 N (hsh m) (nI r) ans) (b_X5_mixRow_2 r) (qn m r) (fun _ x t => x = hsh t ∧ WR N t s len K ∧ zz t = zz m) (fun j x t hj hs => by
    obtain ⟨rfl, W, Z⟩ := hs
    unfold b_X4_mixRow_2 b_X5_mixRow_2 v_X4_mix
    have hn : qn t r = qn m r := by unfold qn; rw [Z]
    have q0 := request_R (st_val W) hr (p := j) (by have : qn m r ≤ 8 := hq8; omega) (0 : Int32)
    have q1 := request_R (st_val W) hr (p := j) (by have : qn m r ≤ 8 := hq8; omega) (1 : Int32)
    have qt := (queueLength_R (st_val W) hr).2
    have lt : nI j < t.1 8 0 0 (125 + r) := by
      rw [show t.1 8 0 0 (125 + r) = nI (qn t r) from qt, hn]
      exact nI_lt hj (by have : qn m r ≤ 8 := hq8; omega)
    have r0 : v_X5_requestNow t r j 0 = v_X5_whoAt t r j := by unfold v_X5_requestNow; rw [if_pos lt, if_neg (fun q => q rfl)]
    have r1 : v_X5_requestNow t r j 1 = v_X5_modeAt t r j := by unfold v_X5_requestNow; rw [if_pos lt, if_pos (by decide)]
    rw [q0, q1, r0, r1, hsh_mix, hsh_mix]
    exact ⟨rfl, wr_mix (wr_mix W _) _, Z⟩) (qn m r) 0 _ _ (Nat.add_zero _) a1
  obtain ⟨a2, W2, Z2⟩ := a2
  have a2 : lp (b_X4_mixRow_2 N (hsh m) (nI r) ans) (qn m r) 0 (lp (b_X4_mixRow_1 N (hsh m) (nI r) ans) 6 0 (hsh m)) = hsh (mixRow_2 m r) := a2
  have W2 : WR N (mixRow_2 m r) s len K := W2
  have eb : v_X2_ticksToBurn N 0 (nI r) = v_X5_burnsNow (mixRow_2 m r) r := by
    have k := burns_R N (mixRow_2 m r) 0 W2.1.1 W2.1.2.1 hr
    rw [setS_id] at k
    exact k
  have W3 : WR N (mixRow_3 m r) s len K := wr_oy W2 (fun i hi => burnsNow_z (mixRow_2 m r) r i hi) (oy_trans (oy_burns (mixRow_2 m r) r) (oy_mix _ _))
  have h3 : 31 * hsh (mixRow_2 m r) + (v_X5_burnsNow (mixRow_2 m r) r).toInt64 = hsh (mixRow_3 m r) := by
    unfold mixRow_3
    rw [hsh_mix]
    have o2 : (w_X5_burnsNow (mixRow_2 m r) r).2 = (mixRow_2 m r).2 := by
      unfold w_X5_burnsNow
      have l : ∀ x : PM, (w_X5_layBack x).2 = x.2 := fun x => lp_inv (b_X5_layBack_1 x) 361 (fun _ t => t.2 = x.2) (fun _ _ _ h => h) 361 0 x rfl rfl
      have k : ∀ x : PM, (w_X5_keep x).2 = x.2 := fun x => lp_inv (b_X5_keep_1 x) 361 (fun _ t => t.2 = x.2) (fun _ _ _ h => h) 361 0 x rfl rfl
      rw [l, (bnz_oz r 300 1 _).2, k]
    unfold hsh
    rw [o2]
  have a4 := lp_rel (b_X4_mixRow_3 N (hsh m) (nI r) ans) (b_X5_mixRow_3 r) 3 (fun _ x t => x = hsh t ∧ WR N t s len K) (fun j x t hj hs => by
    obtain ⟨rfl, W⟩ := hs
    unfold b_X4_mixRow_3 b_X5_mixRow_3 v_X4_mix
    rw [T t W j hj, hsh_mix]
    have o2 : (w_X5_askedThen t 0 r 3).2 = t.2 := by
      unfold w_X5_askedThen
      split
      · have l : ∀ x : PM, (w_X5_layBack x).2 = x.2 := fun x => lp_inv (b_X5_layBack_1 x) 361 (fun _ t => t.2 = x.2) (fun _ _ _ h => h) 361 0 x rfl rfl
        have k : ∀ x : PM, (w_X5_keep x).2 = x.2 := fun x => lp_inv (b_X5_keep_1 x) 361 (fun _ t => t.2 = x.2) (fun _ _ _ h => h) 361 0 x rfl rfl
        rw [l, (oz_asks _ _ _ _).2, k]
      · rfl
    have e : hsh (w_X5_askedThen t 0 r 3) = hsh t := by unfold hsh; rw [o2]
    rw [e]
    exact ⟨rfl, wr_mix (wr_oy W (fun i hi => askedThen_z t 0 r 3 i hi) (oy_asked t 0 r 3)) _⟩) 3 0 (hsh (mixRow_3 m r)) (mixRow_3 m r) rfl ⟨rfl, W3⟩
  obtain ⟨a4, W4⟩ := a4
  have a4 : lp (b_X4_mixRow_3 N (hsh m) (nI r) ans) 3 0 (hsh (mixRow_3 m r)) = hsh (mixRow_4 m r) := a4
  have W4 : WR N (mixRow_4 m r) s len K := W4
  unfold v_X4_mixRow w_X5_mixRow
  rw [eqn, a2, eb]
  have tk : v_X2_takersOf N 0 0 (nI r) = v_X5_takersNow (mixRow_4 m r) 0 r := takers_R (st_val W4) (h := 0) (by omega) hr
  have e4 : v_X4_mix N (hsh (mixRow_2 m r)) (v_X5_burnsNow (mixRow_2 m r) r).toInt64 = hsh (mixRow_3 m r) := h3
  rw [e4, a4, tk, hsh_mix]
  exact ⟨rfl, wr_mix W4 _, c, eN.symm⟩
