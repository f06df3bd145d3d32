/-! strip and lose agree, and the rows that are settled behind -/
def stD (c : Nat → Nat → Int32) (h : Nat) : Nat → Nat → Int32 := if c 1 h = -1 then szC c h 12 else dqC (szC c h 12) h
def stC (c : Nat → Nat → Int32) (h : Nat) : Nat → Nat → Int32 := up2 (stD c h) 7 h (c 7 h + 1)
theorem stD_o (c : Nat → Nat → Int32) (h k : Nat) (hk : 4 ≤ k) : stD c h k = c k := by
  unfold stD
  split
  · exact szC_o _ _ _ _ (by omega)
  · rw [dqC_o _ _ _ (by omega) (by omega) (by omega)]
    exact szC_o _ _ _ _ (by omega)
theorem strip_C (M : PM) (g : Nat) {c : Nat → Nat → Int32} {z : Nat → Int32} (H : SA c z) {h : Nat} (hh : h < 8) : w_X2_strip (setS M g c) g (nI h) = setS M g (stC c h) ∧ ∀ i, i < 32 → bit (v_X2_strip (setS M g c) g (nI h)) i = (decide (i < 12) && (lkB z h i || decide (c 1 h = nI i))) := by
  obtain ⟨e, hb⟩ := strip_1 M g H.1 hh
  have e1 : szC c h 12 1 = c 1 := szC_o _ _ _ _ (by decide)
  have e7 : szC c h 12 7 = c 7 := szC_o _ _ _ _ (by decide)
  unfold w_X2_strip v_X2_strip v_X2_isWaiting
  rw [e, at_S M g 1 h _ (by omega) (show h < 8 from hh), e1]
  by_cases cw : c 1 h = -1
  · rw [if_pos cw, if_pos rfl, if_pos rfl, raise_S M g 7 h _ (by omega) (show h < 8 from hh)]
    refine ⟨?_, fun i hi => ?_⟩
    · unfold stC stD
      rw [if_pos cw, e7]
    · rw [hb i hi]
      have : decide (c 1 h = nI i) = false := decide_eq_false (by rw [cw]; exact fun q => nI_nm1 (show i < 2 ^ 31 by omega) q.symm)
      rw [this, Bool.or_false]
  · rw [if_neg cw, if_neg (by decide), if_neg (by decide), dequeue_S M g h _ hh (by rw [e1]; exact cw), raise_S M g 7 h _ (by omega) (show h < 8 from hh)]
    refine ⟨?_, fun i hi => ?_⟩
    · unfold stC stD
      rw [if_neg cw, dqC_o _ _ _ (by decide) (by decide) (by decide), e7]
    · obtain ⟨r, hr, er⟩ := rq_r H.2.1 hh cw
      have ei : decide (c 1 h = nI i) = decide (i = r) := decide_eq_decide.mpr ⟨fun q => by rw [er] at q; exact ((nI_eq (by omega) (by omega)).mp q).symm, fun q => by rw [q]; exact er⟩
      rw [bit_or, hb i hi, ei, er, bit_1 hi (by omega)]
      by_cases ci : i = r
      · subst ci; simp [hr]
      · rw [decide_eq_false ci, Bool.or_false, Bool.or_false]
theorem szl_K {c : Nat → Nat → Int32} {z : Nat → Int32} (H : RK (c 0) z) (h : Nat) : RK (szC c h 12 0) (lzz z h 12) := by
  intro h2 r hh2 hr
  unfold szC lzz
  by_cases e : h2 = h
  · subst e
    rw [if_pos (by omega), if_pos (by omega)]
    exact ⟨rfl, Or.inl rfl⟩
  · rw [if_neg (by omega), if_neg (by omega)]
    exact H h2 r hh2 hr
theorem strip_A {m : PM} {c : Nat → Nat → Int32} (H : SA c (zz m)) {h : Nat} (hh : h < 8) : SA (stC c h) (zz (lose_2 m h)) ∧ MC c (stC c h) ∧ stC c h 1 h = -1 ∧ ∀ i, i < 32 → bit (lose_1 m h).1 i = (decide (i < 12) && (lkB (zz m) h i || decide (c 1 h = nI i))) := by
  have Q : RQ (szC c h 12 1) (szC c h 12 2) (szC c h 12 3) (lzz (zz m) h 12) := by
    rw [szC_o _ _ _ _ (by decide), szC_o _ _ _ _ (by decide), szC_o _ _ _ _ (by decide)]
    exact rq_z H.2.1 (fun i a b => lzz_o _ (by omega))
  have C : SC (szC c h 12) (lzz (zz m) h 12) := sc_c (c := c) (sc_z H.2.2.1 (fun i a => lzz_o _ (by omega))) (fun k a => szC_o _ _ _ _ (by omega))
  have K := szl_K H.1 h
  have fin : ∀ Z : Nat → Int32, SA (stD c h) Z → (lose_1 m h).2 = setz m Z → SA (stC c h) (zz (lose_2 m h)) := by
    intro Z HZ e
    have k := sa_raise HZ (k := 7) (i := h) (by omega) (by omega) (by omega) (show h < 8 from hh) (c 7 h + 1)
    have e2 : zz (lose_2 m h) = upd Z (zof 7 + h) (c 7 h + 1) := by
      unfold lose_2
      rw [zz_wI, e, zz_setz, zs]
      have e3 := HZ.2.2.1.1 7 h (by omega) (by omega) (show h < 8 from hh)
      rw [stD_o _ _ _ (by omega)] at e3
      rw [e3]
      rfl
    rw [e2]
    exact k
  by_cases cw : c 1 h = -1
  · obtain ⟨e, hb⟩ := lose_1n H hh cw
    have eD : stD c h = szC c h 12 := by unfold stD; rw [if_pos cw]
    refine ⟨fin _ ?_ e, ?_, ?_, fun i hi => ?_⟩
    · rw [eD]
      refine ⟨K, Q, C, hf_same H.2.2.2 (fun r hr => lzz_o _ (by omega)) (fun r n p hr hn h8 hp => ?_)⟩
      obtain ⟨n2, hn2, en2, kn⟩ := H.2.1.1 r hr
      rw [hn] at en2
      obtain rfl := (nI_eq (by omega) (by omega)).mp en2
      obtain ⟨h0, a1, a2, a3, _⟩ := kn p hp
      rw [lkz_h a1 a2, lkz_h (z := lzz (zz m) h 12) a1 (by rw [lzz_o _ (by omega)]; exact a2)]
      refine lzz_o _ ?_
      have : ¬ h0 = h := by
        intro q
        subst q
        rw [cw] at a3
        exact nI_nm1 (show r < 2 ^ 31 by omega) a3.symm
      omega
    · unfold stC
      rw [eD]
      refine mc_trans (c2 := szC c h 12) ⟨fun h0 _ q => ?_, fun K q h0 hh0 => ?_, fun k hk => szC_o _ _ _ _ (by omega)⟩ (mc_up _ (Or.inr (Or.inr rfl)))
      · rw [szC_o _ _ _ _ (by decide)] at q; exact q
      · rw [szC_o _ _ _ _ (by decide), szC_o _ _ _ _ (by decide), szC_o _ _ _ _ (by decide)]; exact q h0 hh0
    · unfold stC
      rw [up2_o _ _ _ _ (by decide), eD, szC_o _ _ _ _ (by decide)]
      exact cw
    · rw [hb i hi]
      have : decide (c 1 h = nI i) = false := decide_eq_false (by rw [cw]; exact fun q => nI_nm1 (show i < 2 ^ 31 by omega) q.symm)
      rw [this, Bool.or_false]
  · obtain ⟨r, hr, er⟩ := rq_r H.2.1 hh cw
    obtain ⟨n, p, w1, w2, w3, w4, _⟩ := rq_w H.2.1 hh hr er
    obtain ⟨e, hb⟩ := lose_1w H hh hr w1 w2 w3 er w4
    have eD : stD c h = dqC (szC c h 12) h := by unfold stD; rw [if_neg cw]
    have E1 : szC c h 12 1 h = nI r := by rw [szC_o _ _ _ _ (by decide)]; exact er
    have E3 : szC c h 12 3 h = nI p := by rw [szC_o _ _ _ _ (by decide)]; exact w4
    have N : lzz (zz m) h 12 (125 + r) = nI n := by rw [lzz_o _ (by omega)]; exact w1
    refine ⟨fin _ ?_ e, ?_, ?_, fun i hi => ?_⟩
    · rw [eD]
      refine ⟨?_, rq_dq Q hh hr N w2 w3 E1 E3, ?_, hf_dq H.2.2.2 H.2.1 hr w1 w2 w3 er w4 (fun i a b => lzz_o _ (by omega)) (fun h' r' a1 a2 a3 => lzz_o _ (by omega))⟩
      · rw [dqC_o _ _ _ (by decide) (by decide) (by decide)]
        exact rk_z K (fun i a b => uqz_lo _ hr (by omega) (by omega))
      · exact sc_c (c := szC c h 12) (sc_z C (fun i a => uqz_lo _ hr (by omega) (by omega))) (fun k a => dqC_o _ _ _ (by omega) (by omega) (by omega))
    · unfold stC
      rw [eD]
      refine mc_trans (c2 := szC c h 12) ⟨fun h0 _ q => ?_, fun K q h0 hh0 => ?_, fun k hk => szC_o _ _ _ _ (by omega)⟩ (mc_trans (dq_M _ h) (mc_up _ (Or.inr (Or.inr rfl))))
      · rw [szC_o _ _ _ _ (by decide)] at q; exact q
      · rw [szC_o _ _ _ _ (by decide), szC_o _ _ _ _ (by decide), szC_o _ _ _ _ (by decide)]; exact q h0 hh0
    · unfold stC
      rw [up2_o _ _ _ _ (by decide), eD, dqC_1, if_pos rfl]
    · have ei : decide (c 1 h = nI i) = decide (i = r) := decide_eq_decide.mpr ⟨fun q => by rw [er] at q; exact ((nI_eq (by omega) (by omega)).mp q).symm, fun q => by rw [q]; exact er⟩
      rw [hb i hi, ei]
theorem sa_rgm (M m : PM) (g : Nat) {c : Nat → Nat → Int32} (H : SA c (zz m)) : RG (setS M g c) m g := by
  unfold RG
  rw [cl_setS M g 0 c (by omega), cl_setS M g 1 c (by omega), cl_setS M g 2 c (by omega), cl_setS M g 3 c (by omega)]
  exact ⟨H.1, H.2.1⟩
/-- a hand loses, in class and model -/
theorem lose_R (M0 M m : PM) (g j1 : Nat) (a1 a2 a3 : Int32) {c : Nat → Nat → Int32} (H : SA c (zz m)) {h : Nat} (hh : h < 8) (hl : v_X2_loserFor (setS M g c) g a1 = nI h) : ∃ c2, lp (b_X2_takeAsking_2 M0 g a1 a2 a3 j1 (setS M g c)) 12 0 (w_X2_strip (setS M g c) g (nI h)) = setS M g c2 ∧ SA c2 (zz (w_X5_lose m h)) ∧ MC c c2 ∧ c2 1 h = -1 := by
  obtain ⟨e, hb⟩ := strip_C M g H hh
  obtain ⟨A, B, C, hb2⟩ := strip_A H hh
  obtain ⟨c2, q1, q2, q3⟩ := lp_rel (b_X2_takeAsking_2 M0 g a1 a2 a3 j1 (setS M g c)) (b_X5_lose_2 (lose_1 m h).1) 12 (fun _ s t => ∃ c2, s = setS M g c2 ∧ SA c2 (zz t) ∧ MC (stC c h) c2) (fun j s t hj hs => by
    obtain ⟨c2, q1, q2, q3⟩ := hs
    subst q1
    unfold b_X2_takeAsking_2 b_X5_lose_2
    rw [hl]
    have hbj := hb j (by omega)
    rw [← hb2 j (by omega)] at hbj
    by_cases cb : bit (lose_1 m h).1 j = true
    · rw [if_neg (show ¬ v_X4_has (setS M g c2) (v_X2_strip (setS M g c) g (nI h)) (nI j) = 0 from fun q => (has_bit (setS M g c2) _ (by omega)).mp q (by rw [hbj]; exact cb)), if_neg (show ¬ ¬ _ from fun q => q ((bit_q1 (by omega)).mpr cb))]
      obtain ⟨_, c3, w1, w2, w3, _⟩ := settle_R M t g hj q2
      exact ⟨c3, w1, w2, mc_trans q3 w3⟩
    · rw [if_pos ((has_bit (setS M g c2) _ (by omega)).mpr (by rw [hbj]; exact cb)), if_pos (show ¬ _ from fun q => cb ((bit_q1 (by omega)).mp q))]
      exact ⟨c2, rfl, q2, q3⟩) 12 0 (w_X2_strip (setS M g c) g (nI h)) (lose_2 m h) rfl ⟨stC c h, e, A, mc_refl _⟩
  exact ⟨c2, q1, q2, mc_trans B q3, Classical.byContradiction fun k => q3.1 h hh k C⟩

