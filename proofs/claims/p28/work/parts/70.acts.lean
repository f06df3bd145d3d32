/-! release, giveUp, handOn -/
theorem mc_up (c : Nat → Nat → Int32) {k i : Nat} {x : Int32} (hk : k = 0 ∨ k = 5 ∨ k = 7) : MC c (up2 c k i x) := by
  refine ⟨fun h _ q => ?_, fun K q h hh => ?_, fun k2 h2 => up2_o _ _ _ _ (by omega)⟩
  · rw [up2_o _ _ _ _ (by omega)] at q; exact q
  · rw [up2_o _ _ _ _ (by omega), up2_o _ _ _ _ (by omega), up2_o _ _ _ _ (by omega)]; exact q h hh
theorem hf_z {c : Nat → Nat → Int32} {z z2 : Nat → Int32} (H : HF z) (HQ : RQ (c 1) (c 2) (c 3) z) (e1 : ∀ i, 5 ≤ i → i < 101 → z2 i = z i) (e2 : ∀ i, 125 ≤ i → i < 329 → z2 i = z i) : HF z2 := by
  refine hf_same H (fun r hr => e2 _ (by omega) (by omega)) (fun r n p hr hn h8 hp => ?_)
  obtain ⟨n2, hn2, en2, kn⟩ := HQ.1 r hr
  rw [hn] at en2
  obtain rfl := (nI_eq (by omega) (by omega)).mp en2
  obtain ⟨h0, a1, a2, _⟩ := kn p hp
  rw [lkz_h a1 a2, lkz_h (z := z2) a1 (by rw [e2 _ (by omega) (by omega)]; exact a2), e1 _ (by omega) (by omega)]
theorem sa_raise {c : Nat → Nat → Int32} {z : Nat → Int32} (H : SA c z) {k i : Nat} (h4 : 4 ≤ k) (h6 : ¬ k = 6) (h10 : k ≤ 10) (hi : i < nlen k) (x : Int32) : SA (up2 c k i x) (upd z (zof k + i) x) := by
  have hz := zof_in h4 h10 hi
  refine ⟨?_, ?_, sc_raise H.2.2.1 h4 h6 h10 hi x, hf_z H.2.2.2 H.2.1 (fun j a b => upd_o _ _ _ (by omega)) (fun j a b => upd_o _ _ _ (by omega))⟩
  · rw [up2_o _ _ _ _ (by omega)]
    exact rk_z H.1 (fun j a b => upd_o _ _ _ (by omega))
  · rw [up2_o _ _ _ _ (by omega), up2_o _ _ _ _ (by omega), up2_o _ _ _ _ (by omega)]
    exact rq_z H.2.1 (fun j a b => upd_o _ _ _ (by omega))
theorem lock0_A {c : Nat → Nat → Int32} {z : Nat → Int32} (H : SA c z) {h r : Nat} (hh : h < 8) (hr : r < 12) (hw : ¬ c 1 h = nI r) : SA (up2 c 0 (h * 12 + r) 0) (upd z (5 + 12 * h + r) 0) := by
  refine ⟨rk_up H.1 hr (Or.inl rfl), ?_, ?_, ?_⟩
  · rw [up2_o _ _ _ _ (by omega), up2_o _ _ _ _ (by omega), up2_o _ _ _ _ (by omega)]
    exact rq_z H.2.1 (fun j a b => upd_o _ _ _ (by omega))
  · exact sc_c (c := c) (sc_z H.2.2.1 (fun i a => upd_o _ _ _ (by omega))) (fun k a => up2_o _ _ _ _ (by omega))
  · refine hf_same H.2.2.2 (fun r hr => upd_o _ _ _ (by omega)) (fun r2 n p hr2 hn h8 hp => ?_)
    obtain ⟨n2, hn2, en2, kn⟩ := H.2.1.1 r2 hr2
    rw [hn] at en2
    obtain rfl := (nI_eq (by omega) (by omega)).mp en2
    obtain ⟨h0, a1, a2, a3, _⟩ := kn p hp
    rw [lkz_h a1 a2, lkz_h (z := upd z (5 + 12 * h + r) 0) a1 (by rw [upd_o _ _ _ (by omega)]; exact a2)]
    refine upd_o _ _ _ (fun e => hw ?_)
    obtain rfl : h0 = h := by omega
    obtain rfl : r2 = r := by omega
    exact a3
theorem unq_A {c : Nat → Nat → Int32} {z : Nat → Int32} (H : SA c z) {h r n p : Nat} (hh : h < 8) (hr : r < 12) (hn : z (125 + r) = nI n) (h8 : n ≤ 8) (hp : p < n) (e1 : c 1 h = nI r) (e2 : c 3 h = nI p) : SA (dqC c h) (uqz z r p n (n - 1)) := by
  refine ⟨?_, rq_dq H.2.1 hh hr hn h8 hp e1 e2, ?_, hf_dq H.2.2.2 H.2.1 hr hn h8 hp e1 e2 (fun _ _ _ => rfl) (fun _ _ _ _ _ => rfl)⟩
  · rw [dqC_o _ _ _ (by decide) (by decide) (by decide)]
    exact rk_z H.1 (fun i a b => uqz_lo _ hr (by omega) (by omega))
  · exact sc_c (c := c) (sc_z H.2.2.1 (fun i a => uqz_lo _ hr (by omega) (by omega))) (fun k a => dqC_o _ _ _ (by omega) (by omega) (by omega))
theorem release_R (M m : PM) (g : Nat) {c : Nat → Nat → Int32} (H : SA c (zz m)) {h r : Nat} (hh : h < 8) (hr : r < 12) (hw : ¬ c 1 h = nI r) : v_X2_letGo (setS M g c) g (nI h) (nI r) = v_X5_releases m h r ∧ ∃ c2, w_X2_letGo (setS M g c) g (nI h) (nI r) = setS M g c2 ∧ SA c2 (zz (w_X5_releases m h r)) ∧ MC c c2 := by
  have A := lock0_A H hh hr hw
  obtain ⟨q1, c2, q2, q3, q4, _⟩ := settle_R M (w_X5_setLock m h r 0) g hr (c := up2 c 0 (h * 12 + r) 0) (by rw [zz_setLock]; exact A)
  unfold v_X2_letGo w_X2_letGo v_X5_releases w_X5_releases
  rw [cell_in, put_S M g 0 (h * 12 + r) c _ (by omega) (show h * 12 + r < 96 by omega)]
  exact ⟨q1, c2, q2, q3, mc_trans (mc_up c (Or.inl rfl)) q4⟩
theorem qn_of {m : PM} {r n : Nat} (hn : zz m (125 + r) = nI n) (h8 : n ≤ 8) : qn m r = n := by
  unfold qn
  rw [hn]
  exact nI_clamp (by omega)
theorem plc_of {m : PM} {rr rm rp : Nat → Int32} (HQ : RQ rr rm rp (zz m)) {h r p : Nat} (hh : h < 8) (hr : r < 12) (e1 : rr h = nI r) (e2 : rp h = nI p) (hp : p < 8) : plcN m (nI h) r = p := by
  unfold plcN
  rw [placeIn_R HQ hh hr, if_pos e1, e2]
  exact nI_clamp (by omega)
theorem rq_r {rr rm rp z : Nat → Int32} (H : RQ rr rm rp z) {h : Nat} (hh : h < 8) (hw : ¬ rr h = -1) : ∃ r, r < 12 ∧ rr h = nI r := by
  rcases H.2 h hh with ⟨a, _⟩ | ⟨r2, n2, p2, h1, h2, h3, h4, h5, h6, h7⟩
  · exact absurd a hw
  · exact ⟨r2, h1, h5⟩
theorem giveUp_R (M m : PM) (g : Nat) {c : Nat → Nat → Int32} (H : SA c (zz m)) {h : Nat} (hh : h < 8) (hw : ¬ c 1 h = -1) : v_X2_stopWaiting (setS M g c) g (nI h) = v_X5_rowOf m (nI h) ∧ ∃ c2, w_X2_stopWaiting (setS M g c) g (nI h) = setS M g c2 ∧ SA c2 (zz (w_X5_settle (w_X5_unqueue m (rowN m (nI h)) (plcN m (nI h) (rowN m (nI h)))) (rowN m (nI h)))) ∧ MC c c2 := by
  have hro := rowOf_R H.2.1 hh
  obtain ⟨r, hr, e1⟩ := rq_r H.2.1 hh hw
  obtain ⟨n, p, w1, w2, w3, w4, _⟩ := rq_w H.2.1 hh hr e1
  have eN : rowN m (nI h) = r := by unfold rowN; rw [hro, e1]; exact nI_clamp (by omega)
  have eP := plc_of H.2.1 hh hr e1 w4 (by omega)
  have eQ := qn_of w1 w2
  unfold v_X2_stopWaiting w_X2_stopWaiting
  rw [at_S M g 1 h c (by omega) (show h < 8 from hh), hro, eN, eP, dequeue_S M g h c hh hw, e1]
  refine ⟨rfl, ?_⟩
  have A := unq_A H hh hr w1 w2 w3 e1 w4
  obtain ⟨_, c2, q2, q3, q4, _⟩ := settle_R M (w_X5_unqueue m r p) g hr (c := dqC c h) (by unfold w_X5_unqueue; rw [zz_setz, eQ]; exact A)
  exact ⟨c2, q2, q3, mc_trans (dq_M c h) q4⟩
theorem handOn_R (M m : PM) (g : Nat) {c : Nat → Nat → Int32} (H : SA c (zz m)) {h r o : Nat} (hh : h < 8) (hr : r < 12) (ho : o < 8) (hw : ¬ c 1 h = nI r) (hw2 : c 1 o = nI r) : v_X2_passOver (setS M g c) g (nI h) (nI r) (nI o) = v_X5_lockOf (hoC m h r o) o r ∧ ∃ c2, w_X2_passOver (setS M g c) g (nI h) (nI r) (nI o) = setS M g c2 ∧ SA c2 (zz (w_X5_settle (hoC m h r o) r)) ∧ MC c c2 := by
  have A := lock0_A H hh hr hw
  have e1 : up2 c 0 (h * 12 + r) 0 1 o = nI r := by rw [up2_o _ _ _ _ (by decide)]; exact hw2
  have eZ : zz (hoA m h r) = upd (zz m) (5 + 12 * h + r) 0 := zz_setLock m h r 0
  rw [← eZ] at A
  obtain ⟨n, p, w1, w2, w3, w4, _⟩ := rq_w A.2.1 ho hr e1
  have eP := plc_of A.2.1 ho hr e1 w4 (by omega)
  have eQ := qn_of w1 w2
  have B := grant_A A ho hr w1 w2 w3 e1 w4
  have eB : zz (hoB m h r o) = grz (zz (hoA m h r)) r p n o := by unfold hoB; rw [zz_setz, eP, eQ]
  rw [← eB] at B
  have C := sa_raise B (k := 5) (i := r) (by omega) (by omega) (by omega) (show r < 12 from hr) (grC (up2 c 0 (h * 12 + r) 0) o r 5 r + 1)
  have eC : zz (hoC m h r o) = upd (zz (hoB m h r o)) (zof 5 + r) (grC (up2 c 0 (h * 12 + r) 0) o r 5 r + 1) := by
    unfold hoC
    rw [zz_wI, B.2.2.1.1 5 r (by omega) (by omega) (show r < 12 from hr)]
    rfl
  rw [← eC] at C
  obtain ⟨_, c2, q2, q3, q4, q5⟩ := settle_R M (hoC m h r o) g hr C
  unfold v_X2_passOver w_X2_passOver
  rw [cell_in, put_S M g 0 (h * 12 + r) c _ (by omega) (show h * 12 + r < 96 by omega), grant_S M g o r _ ho hr e1, raise_S M g 5 r _ (by omega) (show r < 12 from hr), q2]
  have w : ¬ up2 c 0 (h * 12 + r) 0 1 o = -1 := by rw [e1]; exact nI_nm1 (by omega)
  refine ⟨?_, c2, rfl, q3, mc_trans (mc_up c (Or.inl rfl)) (mc_trans (gr_M _ w) (mc_trans (mc_up _ (Or.inr (Or.inl rfl))) q4))⟩
  rw [cell_in, at_S M g 0 (o * 12 + r) c2 (by omega) (show o * 12 + r < 96 by omega), q5 o r ho hr (by rw [up2_o _ _ _ _ (by decide), grC_1, if_pos rfl]), (C.1 o r ho hr).1]
  rfl

