/-! the law's act: ask, release, giveUp, handOn -/
theorem up2_e (a : Nat → Nat → Int32) {k i : Nat} {x : Int32} (h : a k i = x) : up2 a k i x = a := by
  funext k2 i2
  unfold up2
  by_cases c : k2 = k ∧ i2 = i
  · rw [if_pos c, c.1, c.2, h]
  · rw [if_neg c]
theorem la_n {a a2 : Nat → Nat → Int32} {z : Nat → Int32} {s s2 : Nat × Int32} (H : LA a z s) (ha : ∀ k, ¬ k = 0 → a2 k = a k) (h0 : LT a2 z s2) : LA a2 z s2 := by
  obtain ⟨h1, h2, h3, h4⟩ := H
  exact ⟨lk_a h1 (ha 1 (by decide)), lq_a h2 (ha 2 (by decide)) (ha 3 (by decide)), fun k hk => ⟨fun h hh => by rw [ha (5 + k) (by omega)]; exact (h3 k hk).1 h hh, (h3 k hk).2⟩, h0⟩
theorem la_s {a : Nat → Nat → Int32} {z : Nat → Int32} {s : Nat × Int32} (H : LA a z s) (s2 : Nat) : LA (up2 a 0 2 (nI s2)) z (s2, s.2) := by
  obtain ⟨t1, t2, t3, t4, t5, t6, t7, t8⟩ := H.2.2.2
  refine la_n H (fun k hk => up2_o _ _ _ _ hk) ⟨fun r hr => by rw [up2_o _ _ _ _ (by decide)]; exact t1 r hr, ?_, ?_, up2_s _ _ _ _, ?_, ?_, ?_, ?_⟩
  · rw [up2_i _ _ _ (by decide)]; exact t2
  · rw [up2_i _ _ _ (by decide)]; exact t3
  · rw [up2_i _ _ _ (by decide)]; exact t5
  · rw [up2_i _ _ _ (by decide)]; exact t6
  · rw [up2_i _ _ _ (by decide)]; exact t7
  · rw [up2_i _ _ _ (by decide)]; exact t8
theorem la_6 {a : Nat → Nat → Int32} {z : Nat → Int32} {s : Nat} (H : LA a z (s, 1)) : LA (up2 a 0 6 (a 0 6 + 1)) z (s, 0) := by
  obtain ⟨t1, t2, t3, t4, t5, t6, t7, t8⟩ := H.2.2.2
  refine la_n H (fun k hk => up2_o _ _ _ _ hk) ⟨fun r hr => by rw [up2_o _ _ _ _ (by decide)]; exact t1 r hr, ?_, ?_, ?_, ?_, ?_, ?_, ?_⟩
  · rw [up2_i _ _ _ (by decide)]; exact t2
  · rw [up2_i _ _ _ (by decide)]; exact t3
  · rw [up2_i _ _ _ (by decide)]; exact t4
  · rw [up2_i _ _ _ (by decide)]; exact t5
  · rw [up2_i _ _ _ (by decide)]; exact t6
  · rw [up2_i _ _ _ (by decide)]; exact t7
  · rw [up2_s]
    show a 0 6 + 1 + 0 = hsum z
    rw [Int32.add_zero]; exact t8
theorem hsum_up (z : Nat → Int32) {r : Nat} (hr : r < 12) : hsum (upd z (113 + r) (z (113 + r) + 1)) = hsum z + 1 := by
  have k := lp_rel (fun j s => s + z (113 + j)) (fun j s => s + upd z (113 + r) (z (113 + r) + 1) (113 + j)) 12 (fun j s t => t = s + (if r < j then 1 else 0)) (fun j s t hj h => by
    by_cases q : j = r
    · subst q
      rw [upd_s, h, if_neg (by omega), if_pos (by omega)]
      grind
    · rw [upd_o _ _ _ (by omega), h]
      by_cases c : r < j
      · rw [if_pos c, if_pos (by omega)]; grind
      · rw [if_neg c, if_neg (by omega)]; grind) 12 0 0 0 rfl (by rw [if_neg (by omega)]; rfl)
  rw [if_pos hr] at k
  exact k
theorem la_h {a : Nat → Nat → Int32} {z : Nat → Int32} {s : Nat} (H : LA a z (s, 0)) {r : Nat} (hr : r < 6) : LA a (upd z (113 + r) (z (113 + r) + 1)) (s, 1) := by
  obtain ⟨h1, h2, h3, h4⟩ := H
  refine ⟨⟨fun h2 r2 g1 g2 => ?_, fun h2 r2 g1 g2 c => ?_⟩, ⟨fun r hr => ?_, fun r g1 g2 => ?_⟩, fun k2 hk2 => ⟨fun h2 g1 => ?_, fun h2 g1 g2 => ?_⟩, ?_⟩
  · rw [upd_o _ _ _ (by omega)]; exact h1.1 h2 r2 g1 g2
  · rw [upd_o _ _ _ (by omega)]; exact h1.2 h2 r2 g1 g2 c
  · obtain ⟨n, n1, n2, n3, n4⟩ := h2.1 r hr
    refine ⟨n, n1, by rw [upd_o _ _ _ (by omega)]; exact n2, n3, fun p hp => ?_⟩
    obtain ⟨w, md, w1, w2, w3, w4, w5, w6⟩ := n4 p hp
    exact ⟨w, md, w1, w2, w3, by rw [upd_o _ _ _ (by omega)]; exact w4, by rw [upd_o _ _ _ (by omega)]; exact w5, w6⟩
  · rw [upd_o _ _ _ (by omega)]; exact h2.2 r g1 g2
  · rw [upd_o _ _ _ (by omega)]; exact (h3 k2 hk2).1 h2 g1
  · rw [upd_o _ _ _ (by omega)]; exact (h3 k2 hk2).2 h2 g1 g2
  · obtain ⟨t1, t2, t3, t4, t5, t6, t7, t8⟩ := h4
    refine ⟨fun r hr => by rw [upd_o _ _ _ (by omega)]; exact t1 r hr, ?_⟩
    rw [upd_o _ _ _ (by omega), upd_o _ _ _ (by omega), upd_o _ _ _ (by omega), upd_o _ _ _ (by omega), upd_o _ _ _ (by omega)]
    refine ⟨t2, t3, t4, t5, t6, t7, ?_⟩
    rw [hsum_up z (by omega), ← t8]
    show a 0 6 + 1 = a 0 6 + 0 + 1
    rw [Int32.add_zero]
theorem an_me {MM : MI} {pc : Nat} {L : List (Option PV)} {st : List PV} {M m2 : PM} {A B : Nat → Nat → Int32} {v : OC} (e : A = B) (k : An MM pc L st (setA M A) v m2) : An MM pc L st (setA M B) v m2 := e ▸ k
def AOK (len pc : Nat) (L : List (Option PV)) (M : PM) (a : Nat → Nat → Int32) : Prop := ∃ M2 a2 m2 s2 K2, An ML_act pc L [] (setA M a) (.inl (some (vI 1))) (setA M2 a2) ∧ WR (setA M2 a2) m2 s2 len K2 ∧ LA a2 (zz m2) (s2, 0)
section
variable {M m : PM} {a : Nat → Nat → Int32} {s len K h r : Nat} {x y ac : Int32}
theorem sa_sv (W : WR M m s len K) : SA (clT M 0) (zz (svM m s)) := by rw [zz_svM]; exact W.1.1
theorem hand_2 (W : WR M m s len K) (hh : h < 8) : v_X5_handNow m h 2 = clT M 0 1 h := by
  unfold v_X5_handNow
  rw [if_neg (by decide), if_neg (by decide), if_pos rfl]
  exact rowOf_R W.1.1.2.1 hh
set_option maxRecDepth 100000 in
theorem act_ask (W : WR (setA M a) m s len K) (H : LA a (zz m) (s, 0)) (hh : h < 5) (hr : r < 6) : AOK len 46 [some (vR 3 0 0), some (vI x), some (vI y), some (vR 8 0 0), some (vR 8 1 0), some (vR 8 2 0), some (vR 8 3 0), some (vR 8 4 0), some (vR 8 5 0), some (vR 8 6 0), some (vR 8 7 0), some (vR 8 8 0), some (vI ac), some (vI (nI h)), some (vI (nI r)), some (vI (clT (setA M a) 0 1 h)), none, none, none, none, none, none] M a := by
  have S := W.1.1
  have s6 : s ≤ 6 := W.2.1
  have H2 : a 0 2 = nI s := H.2.2.2.2.2.2.1
  have hw := wait_c S (show h < 8 by omega)
  by_cases cw : clT (setA M a) 0 1 h = -1
  · have cv := hw.mpr cw
    obtain ⟨q, hq, k1⟩ := r_at (setA M (up2 a 0 2 (nI (svN s)))) (y >>> ((6 : Int32) &&& (31 : Int32))) (n := 3) (by omega) (by omega)
    obtain ⟨M1, k2, W2⟩ := rc_ask (wr_A W (up2 a 0 2 (nI (svN s)))) (show h < 8 by omega) (show r < 12 by omega) (mo_of (md := 1 + q) (by omega) (by omega)) cv
    have H1 : LA (up2 a 0 2 (nI (svN s))) (zz (svM m s)) (svN s, 0) := by rw [zz_svM]; exact la_s H (svN s)
    obtain ⟨a2, k3, H3⟩ := r_asks (M := M1) H1 (sa_sv W) hh hr (md := 1 + q) (by omega) (by omega) cw
    refine ⟨M1, a2, _, _, _, ?_, wr_A W2 a2, H3⟩
    have nx : An ML_act 84 [some (vR 3 0 0), some (vI x), some (vI y), some (vR 8 0 0), some (vR 8 1 0), some (vR 8 2 0), some (vR 8 3 0), some (vR 8 4 0), some (vR 8 5 0), some (vR 8 6 0), some (vR 8 7 0), some (vR 8 8 0), some (vI ac), some (vI (nI h)), some (vI (nI r)), some (vI (clT (setA M a) 0 1 h)), none, none, none, none, none, none] [] (setA M (up2 a 0 2 (nI (svN s)))) (.inl (some (vI 1))) (setA M1 a2) := by
      refine an_b 5 (pc2 := 90) (L2 := [some (vR 3 0 0), some (vI x), some (vI y), some (vR 8 0 0), some (vR 8 1 0), some (vR 8 2 0), some (vR 8 3 0), some (vR 8 4 0), some (vR 8 5 0), some (vR 8 6 0), some (vR 8 7 0), some (vR 8 8 0), some (vI ac), some (vI (nI h)), some (vI (nI r)), some (vI (clT (setA M a) 0 1 h)), none, none, none, none, none, none]) (st2 := [vI (3 : Int32), vI (y >>> ((6 : Int32) &&& (31 : Int32))), vI (1 : Int32)]) (m1 := (setA M (up2 a 0 2 (nI (svN s))))) rfl ?_
      refine an_call k1 rfl rfl rfl rfl ?_
      refine an_b 1 (pc2 := 94) (L2 := [some (vR 3 0 0), some (vI x), some (vI y), some (vR 8 0 0), some (vR 8 1 0), some (vR 8 2 0), some (vR 8 3 0), some (vR 8 4 0), some (vR 8 5 0), some (vR 8 6 0), some (vR 8 7 0), some (vR 8 8 0), some (vI ac), some (vI (nI h)), some (vI (nI r)), some (vI (clT (setA M a) 0 1 h)), none, none, none, none, none, none]) (st2 := [vI ((1 : Int32) + (nI q))]) (m1 := (setA M (up2 a 0 2 (nI (svN s))))) rfl ?_
      rw [show (1 : Int32) + nI q = nI (1 + q) from nI_add 1 q]
      refine an_b 5 (pc2 := 103) (L2 := [some (vR 3 0 0), some (vI x), some (vI y), some (vR 8 0 0), some (vR 8 1 0), some (vR 8 2 0), some (vR 8 3 0), some (vR 8 4 0), some (vR 8 5 0), some (vR 8 6 0), some (vR 8 7 0), some (vR 8 8 0), some (vI ac), some (vI (nI h)), some (vI (nI r)), some (vI (clT (setA M a) 0 1 h)), some (vI (nI (1 + q))), none, none, none, none, none]) (st2 := [vI (nI (1 + q)), vI (nI r), vI (nI h), vR 3 0 0]) (m1 := (setA M (up2 a 0 2 (nI (svN s))))) rfl ?_
      refine an_call k2 rfl rfl rfl rfl ?_
      refine an_b 9 (pc2 := 124) (L2 := [some (vR 3 0 0), some (vI x), some (vI y), some (vR 8 0 0), some (vR 8 1 0), some (vR 8 2 0), some (vR 8 3 0), some (vR 8 4 0), some (vR 8 5 0), some (vR 8 6 0), some (vR 8 7 0), some (vR 8 8 0), some (vI ac), some (vI (nI h)), some (vI (nI r)), some (vI (clT (setA M a) 0 1 h)), some (vI (nI (1 + q))), none, none, none, none, none]) (st2 := [vI (nI (1 + q)), vI (nI r), vI (nI h), vR 8 8 0, vR 8 7 0, vR 8 6 0, vR 8 3 0, vR 8 2 0, vR 8 1 0, vI (v_X5_asks (svM m s) h r (nI (1 + q)))]) (m1 := (setA M1 (up2 a 0 2 (nI (svN s))))) rfl ?_
      refine an_call k3 rfl rfl rfl rfl ?_
      refine an_b 1 (pc2 := if ¬ (v_X5_asks (svM m s) h r (nI (1 + q))) = (v_X5_asks (svM m s) h r (nI (1 + q))) then 134 else 130) (L2 := [some (vR 3 0 0), some (vI x), some (vI y), some (vR 8 0 0), some (vR 8 1 0), some (vR 8 2 0), some (vR 8 3 0), some (vR 8 4 0), some (vR 8 5 0), some (vR 8 6 0), some (vR 8 7 0), some (vR 8 8 0), some (vI ac), some (vI (nI h)), some (vI (nI r)), some (vI (clT (setA M a) 0 1 h)), some (vI (nI (1 + q))), none, none, none, none, none]) (st2 := []) (m1 := (setA M1 a2)) rfl ?_
      refine an_f (fun q => q rfl) ?_
      refine an_b 2 (pc2 := 135) (L2 := [some (vR 3 0 0), some (vI x), some (vI y), some (vR 8 0 0), some (vR 8 1 0), some (vR 8 2 0), some (vR 8 3 0), some (vR 8 4 0), some (vR 8 5 0), some (vR 8 6 0), some (vR 8 7 0), some (vR 8 8 0), some (vI ac), some (vI (nI h)), some (vI (nI r)), some (vI (clT (setA M a) 0 1 h)), some (vI (nI (1 + q))), none, none, none, none, none]) (st2 := [vI (1 : Int32)]) (m1 := (setA M1 a2)) rfl ?_
      exact an_ret rfl rfl rfl rfl rfl
    refine an_b 2 (pc2 := if (clT (setA M a) 0 1 h) < 0 then 69 else 51) (L2 := [some (vR 3 0 0), some (vI x), some (vI y), some (vR 8 0 0), some (vR 8 1 0), some (vR 8 2 0), some (vR 8 3 0), some (vR 8 4 0), some (vR 8 5 0), some (vR 8 6 0), some (vR 8 7 0), some (vR 8 8 0), some (vI ac), some (vI (nI h)), some (vI (nI r)), some (vI (clT (setA M a) 0 1 h)), none, none, none, none, none, none]) (st2 := []) (m1 := (setA M a)) rfl ?_
    rw [cw]
    rw [cw] at nx
    refine an_t (by decide) ?_
    refine an_b 2 (pc2 := 71) (L2 := [some (vR 3 0 0), some (vI x), some (vI y), some (vR 8 0 0), some (vR 8 1 0), some (vR 8 2 0), some (vR 8 3 0), some (vR 8 4 0), some (vR 8 5 0), some (vR 8 6 0), some (vR 8 7 0), some (vR 8 8 0), some (vI ac), some (vI (nI h)), some (vI (nI r)), some (vI (-1 : Int32)), none, none, none, none, none, none]) (st2 := [vI (2 : Int32), vR 8 0 0]) (m1 := (setA M a)) rfl ?_
    refine an_la 0 2 (by decide) (by show _ < 7; omega) rfl rfl ?_
    refine an_b 2 (pc2 := if (6 : Int32) ≤ (nI s) then 84 else 77) (L2 := [some (vR 3 0 0), some (vI x), some (vI y), some (vR 8 0 0), some (vR 8 1 0), some (vR 8 2 0), some (vR 8 3 0), some (vR 8 4 0), some (vR 8 5 0), some (vR 8 6 0), some (vR 8 7 0), some (vR 8 8 0), some (vI ac), some (vI (nI h)), some (vI (nI r)), some (vI (-1 : Int32)), none, none, none, none, none, none]) (st2 := []) (m1 := (setA M a)) (by rw [H2]; rfl) ?_
    by_cases c6 : s < 6
    · refine an_f (nI_ge (b := 6) c6 (by omega)) ?_
      refine an_b 3 (pc2 := 80) (L2 := [some (vR 3 0 0), some (vI x), some (vI y), some (vR 8 0 0), some (vR 8 1 0), some (vR 8 2 0), some (vR 8 3 0), some (vR 8 4 0), some (vR 8 5 0), some (vR 8 6 0), some (vR 8 7 0), some (vR 8 8 0), some (vI ac), some (vI (nI h)), some (vI (nI r)), some (vI (-1 : Int32)), none, none, none, none, none, none]) (st2 := [vI (2 : Int32), vR 8 0 0, vI (2 : Int32), vR 8 0 0]) (m1 := (setA M a)) rfl ?_
      refine an_la 0 2 (by decide) (by show _ < 7; omega) rfl rfl ?_
      refine an_b 2 (pc2 := 83) (L2 := [some (vR 3 0 0), some (vI x), some (vI y), some (vR 8 0 0), some (vR 8 1 0), some (vR 8 2 0), some (vR 8 3 0), some (vR 8 4 0), some (vR 8 5 0), some (vR 8 6 0), some (vR 8 7 0), some (vR 8 8 0), some (vI ac), some (vI (nI h)), some (vI (nI r)), some (vI (-1 : Int32)), none, none, none, none, none, none]) (st2 := [vI ((a 0 2) + (1 : Int32)), vI (2 : Int32), vR 8 0 0]) (m1 := (setA M a)) rfl ?_
      rw [H2, nI_1, show s + 1 = svN s by unfold svN; rw [if_neg (by omega)]]
      refine an_sa 0 2 (by decide) (by show _ < 7; omega) rfl rfl ?_
      exact nx
    · have e6 : svN s = s := by unfold svN; rw [if_pos (by omega)]; omega
      have nx := an_me (show up2 a 0 2 (nI (svN s)) = a by rw [e6]; exact up2_e _ H2) nx
      refine an_t (nI_le (a := 6) (by omega) (by omega)) ?_
      exact nx
  · have hro := rq_n S.2.1 H.2.1 (h := h) (by omega)
    have hnn : ¬ clT (setA M a) 0 1 h < 0 := by
      rcases hro with e | ⟨r2, _, _, x1, _, _, _, _, x6, _⟩
      · exact absurd e cw
      · rw [x6]; exact nI_pos (by omega)
    have k1 := rc_hand W (show h < 8 by omega) (w := 2) (by omega)
    rw [hand_2 W (show h < 8 by omega)] at k1
    refine ⟨M, a, m, s, K, ?_, W, H⟩
    refine an_b 2 (pc2 := if (clT (setA M a) 0 1 h) < 0 then 69 else 51) (L2 := [some (vR 3 0 0), some (vI x), some (vI y), some (vR 8 0 0), some (vR 8 1 0), some (vR 8 2 0), some (vR 8 3 0), some (vR 8 4 0), some (vR 8 5 0), some (vR 8 6 0), some (vR 8 7 0), some (vR 8 8 0), some (vI ac), some (vI (nI h)), some (vI (nI r)), some (vI (clT (setA M a) 0 1 h)), none, none, none, none, none, none]) (st2 := []) (m1 := (setA M a)) rfl ?_
    refine an_f hnn ?_
    refine an_b 3 (pc2 := 55) (L2 := [some (vR 3 0 0), some (vI x), some (vI y), some (vR 8 0 0), some (vR 8 1 0), some (vR 8 2 0), some (vR 8 3 0), some (vR 8 4 0), some (vR 8 5 0), some (vR 8 6 0), some (vR 8 7 0), some (vR 8 8 0), some (vI ac), some (vI (nI h)), some (vI (nI r)), some (vI (clT (setA M a) 0 1 h)), none, none, none, none, none, none]) (st2 := [vI (2 : Int32), vI (nI h), vR 3 0 0]) (m1 := (setA M a)) rfl ?_
    refine an_call k1 rfl rfl rfl rfl ?_
    refine an_b 2 (pc2 := if ¬ (clT (setA M a) 0 1 h) = (clT (setA M a) 0 1 h) then 67 else 63) (L2 := [some (vR 3 0 0), some (vI x), some (vI y), some (vR 8 0 0), some (vR 8 1 0), some (vR 8 2 0), some (vR 8 3 0), some (vR 8 4 0), some (vR 8 5 0), some (vR 8 6 0), some (vR 8 7 0), some (vR 8 8 0), some (vI ac), some (vI (nI h)), some (vI (nI r)), some (vI (clT (setA M a) 0 1 h)), none, none, none, none, none, none]) (st2 := []) (m1 := (setA M a)) rfl ?_
    refine an_f (fun q => q rfl) ?_
    refine an_b 2 (pc2 := 68) (L2 := [some (vR 3 0 0), some (vI x), some (vI y), some (vR 8 0 0), some (vR 8 1 0), some (vR 8 2 0), some (vR 8 3 0), some (vR 8 4 0), some (vR 8 5 0), some (vR 8 6 0), some (vR 8 7 0), some (vR 8 8 0), some (vI ac), some (vI (nI h)), some (vI (nI r)), some (vI (clT (setA M a) 0 1 h)), none, none, none, none, none, none]) (st2 := [vI (1 : Int32)]) (m1 := (setA M a)) rfl ?_
    exact an_ret rfl rfl rfl rfl rfl
set_option maxRecDepth 100000 in
theorem act_release (W : WR (setA M a) m s len K) (H : LA a (zz m) (s, 0)) (hh : h < 5) (hr : r < 6) : AOK len 143 [some (vR 3 0 0), some (vI x), some (vI y), some (vR 8 0 0), some (vR 8 1 0), some (vR 8 2 0), some (vR 8 3 0), some (vR 8 4 0), some (vR 8 5 0), some (vR 8 6 0), some (vR 8 7 0), some (vR 8 8 0), some (vI ac), some (vI (nI h)), some (vI (nI r)), some (vI (clT (setA M a) 0 1 h)), none, none, none, none, none, none] M a := by
  have S := W.1.1
  have s6 : s ≤ 6 := W.2.1
  have H2 : a 0 2 = nI s := H.2.2.2.2.2.2.1
  have eL : a 1 (6 * h + r) = zz m (5 + 12 * h + r) := H.1.1 h r hh hr
  have rt : An ML_act 164 [some (vR 3 0 0), some (vI x), some (vI y), some (vR 8 0 0), some (vR 8 1 0), some (vR 8 2 0), some (vR 8 3 0), some (vR 8 4 0), some (vR 8 5 0), some (vR 8 6 0), some (vR 8 7 0), some (vR 8 8 0), some (vI ac), some (vI (nI h)), some (vI (nI r)), some (vI (clT (setA M a) 0 1 h)), none, none, none, none, none, none] [] (setA M a) (.inl (some (vI 1))) (setA M a) := by
    refine an_b 1 (pc2 := 165) (L2 := [some (vR 3 0 0), some (vI x), some (vI y), some (vR 8 0 0), some (vR 8 1 0), some (vR 8 2 0), some (vR 8 3 0), some (vR 8 4 0), some (vR 8 5 0), some (vR 8 6 0), some (vR 8 7 0), some (vR 8 8 0), some (vI ac), some (vI (nI h)), some (vI (nI r)), some (vI (clT (setA M a) 0 1 h)), none, none, none, none, none, none]) (st2 := [vI (1 : Int32)]) (m1 := (setA M a)) rfl ?_
    exact an_ret rfl rfl rfl rfl rfl
  by_cases c1 : zz m (5 + 12 * h + r) = 0
  · refine ⟨M, a, m, s, K, ?_, W, H⟩
    refine an_b 6 (pc2 := 153) (L2 := [some (vR 3 0 0), some (vI x), some (vI y), some (vR 8 0 0), some (vR 8 1 0), some (vR 8 2 0), some (vR 8 3 0), some (vR 8 4 0), some (vR 8 5 0), some (vR 8 6 0), some (vR 8 7 0), some (vR 8 8 0), some (vI ac), some (vI (nI h)), some (vI (nI r)), some (vI (clT (setA M a) 0 1 h)), none, none, none, none, none, none]) (st2 := [vI (((6 : Int32) * (nI h)) + (nI r)), vR 8 1 0]) (m1 := (setA M a)) rfl ?_
    refine an_la 1 ((6 * h) + r) (by decide) (by show _ < 30; omega) (by simp only [ix_lit, pk_mul, nI_add]) rfl ?_
    refine an_b 1 (pc2 := if (zz m (5 + 12 * h + r)) = 0 then 164 else 157) (L2 := [some (vR 3 0 0), some (vI x), some (vI y), some (vR 8 0 0), some (vR 8 1 0), some (vR 8 2 0), some (vR 8 3 0), some (vR 8 4 0), some (vR 8 5 0), some (vR 8 6 0), some (vR 8 7 0), some (vR 8 8 0), some (vI ac), some (vI (nI h)), some (vI (nI r)), some (vI (clT (setA M a) 0 1 h)), none, none, none, none, none, none]) (st2 := []) (m1 := (setA M a)) (by rw [← eL]; rfl) ?_
    refine an_t c1 ?_
    exact rt
  by_cases c2 : clT (setA M a) 0 1 h = nI r
  · refine ⟨M, a, m, s, K, ?_, W, H⟩
    refine an_b 6 (pc2 := 153) (L2 := [some (vR 3 0 0), some (vI x), some (vI y), some (vR 8 0 0), some (vR 8 1 0), some (vR 8 2 0), some (vR 8 3 0), some (vR 8 4 0), some (vR 8 5 0), some (vR 8 6 0), some (vR 8 7 0), some (vR 8 8 0), some (vI ac), some (vI (nI h)), some (vI (nI r)), some (vI (clT (setA M a) 0 1 h)), none, none, none, none, none, none]) (st2 := [vI (((6 : Int32) * (nI h)) + (nI r)), vR 8 1 0]) (m1 := (setA M a)) rfl ?_
    refine an_la 1 ((6 * h) + r) (by decide) (by show _ < 30; omega) (by simp only [ix_lit, pk_mul, nI_add]) rfl ?_
    refine an_b 1 (pc2 := if (zz m (5 + 12 * h + r)) = 0 then 164 else 157) (L2 := [some (vR 3 0 0), some (vI x), some (vI y), some (vR 8 0 0), some (vR 8 1 0), some (vR 8 2 0), some (vR 8 3 0), some (vR 8 4 0), some (vR 8 5 0), some (vR 8 6 0), some (vR 8 7 0), some (vR 8 8 0), some (vI ac), some (vI (nI h)), some (vI (nI r)), some (vI (clT (setA M a) 0 1 h)), none, none, none, none, none, none]) (st2 := []) (m1 := (setA M a)) (by rw [← eL]; rfl) ?_
    refine an_f c1 ?_
    refine an_b 3 (pc2 := if ¬ (clT (setA M a) 0 1 h) = (nI r) then 166 else 164) (L2 := [some (vR 3 0 0), some (vI x), some (vI y), some (vR 8 0 0), some (vR 8 1 0), some (vR 8 2 0), some (vR 8 3 0), some (vR 8 4 0), some (vR 8 5 0), some (vR 8 6 0), some (vR 8 7 0), some (vR 8 8 0), some (vI ac), some (vI (nI h)), some (vI (nI r)), some (vI (clT (setA M a) 0 1 h)), none, none, none, none, none, none]) (st2 := []) (m1 := (setA M a)) rfl ?_
    refine an_f (fun q => q c2) ?_
    exact rt
  have hcr : ¬ v_X5_canRelease m h r = 0 := by
    unfold v_X5_canRelease
    rw [if_neg (show ¬ v_X5_lockOf m h r ≤ 0 from fun q => c1 (mo_0 (S.1 h r (by omega) (by omega)).2 q)), rowOf_R S.2.1 (show h < 8 by omega), if_neg c2]
    decide
  obtain ⟨M1, k2, W2⟩ := rc_release (wr_A W (up2 (up2 a 0 2 (nI (svN s))) 1 (6 * h + r) 0)) (show h < 8 by omega) (show r < 12 by omega) hcr
  have H1 : LA (up2 a 0 2 (nI (svN s))) (zz (svM m s)) (svN s, 0) := by rw [zz_svM]; exact la_s H (svN s)
  have H1' : LA (up2 (up2 a 0 2 (nI (svN s))) 1 (6 * h + r) 0) (zz (w_X5_setLock (svM m s) h r 0)) (svN s, 0) := by
    rw [zz_setLock]; exact la_set H1 hh hr 0
  obtain ⟨a2, k3, H3⟩ := r_settle (M := M1) H1' hr
  refine ⟨M1, a2, _, _, _, ?_, wr_A W2 a2, H3⟩
  have nx : An ML_act 181 [some (vR 3 0 0), some (vI x), some (vI y), some (vR 8 0 0), some (vR 8 1 0), some (vR 8 2 0), some (vR 8 3 0), some (vR 8 4 0), some (vR 8 5 0), some (vR 8 6 0), some (vR 8 7 0), some (vR 8 8 0), some (vI ac), some (vI (nI h)), some (vI (nI r)), some (vI (clT (setA M a) 0 1 h)), none, none, none, none, none, none] [] (setA M (up2 a 0 2 (nI (svN s)))) (.inl (some (vI 1))) (setA M1 a2) := by
    refine an_b 7 (pc2 := 192) (L2 := [some (vR 3 0 0), some (vI x), some (vI y), some (vR 8 0 0), some (vR 8 1 0), some (vR 8 2 0), some (vR 8 3 0), some (vR 8 4 0), some (vR 8 5 0), some (vR 8 6 0), some (vR 8 7 0), some (vR 8 8 0), some (vI ac), some (vI (nI h)), some (vI (nI r)), some (vI (clT (setA M a) 0 1 h)), none, none, none, none, none, none]) (st2 := [vI (0 : Int32), vI (((6 : Int32) * (nI h)) + (nI r)), vR 8 1 0]) (m1 := (setA M (up2 a 0 2 (nI (svN s))))) rfl ?_
    refine an_sa 1 ((6 * h) + r) (by decide) (by show _ < 30; omega) (by simp only [ix_lit, pk_mul, nI_add]) rfl ?_
    refine an_b 3 (pc2 := 198) (L2 := [some (vR 3 0 0), some (vI x), some (vI y), some (vR 8 0 0), some (vR 8 1 0), some (vR 8 2 0), some (vR 8 3 0), some (vR 8 4 0), some (vR 8 5 0), some (vR 8 6 0), some (vR 8 7 0), some (vR 8 8 0), some (vI ac), some (vI (nI h)), some (vI (nI r)), some (vI (clT (setA M a) 0 1 h)), none, none, none, none, none, none]) (st2 := [vI (nI r), vI (nI h), vR 3 0 0]) (m1 := (setA M (up2 (up2 a 0 2 (nI (svN s))) 1 ((6 * h) + r) (0 : Int32)))) rfl ?_
    refine an_call k2 rfl rfl rfl rfl ?_
    refine an_b 5 (pc2 := 211) (L2 := [some (vR 3 0 0), some (vI x), some (vI y), some (vR 8 0 0), some (vR 8 1 0), some (vR 8 2 0), some (vR 8 3 0), some (vR 8 4 0), some (vR 8 5 0), some (vR 8 6 0), some (vR 8 7 0), some (vR 8 8 0), some (vI ac), some (vI (nI h)), some (vI (nI r)), some (vI (clT (setA M a) 0 1 h)), none, none, none, none, none, none]) (st2 := [vI (nI r), vR 8 7 0, vR 8 3 0, vR 8 2 0, vR 8 1 0, vI (v_X5_releases (svM m s) h r)]) (m1 := (setA M1 (up2 (up2 a 0 2 (nI (svN s))) 1 ((6 * h) + r) (0 : Int32)))) rfl ?_
    refine an_call k3 rfl rfl rfl rfl ?_
    refine an_b 1 (pc2 := if ¬ (v_X5_releases (svM m s) h r) = (v_X5_settle (w_X5_setLock (svM m s) h r 0) r) then 221 else 217) (L2 := [some (vR 3 0 0), some (vI x), some (vI y), some (vR 8 0 0), some (vR 8 1 0), some (vR 8 2 0), some (vR 8 3 0), some (vR 8 4 0), some (vR 8 5 0), some (vR 8 6 0), some (vR 8 7 0), some (vR 8 8 0), some (vI ac), some (vI (nI h)), some (vI (nI r)), some (vI (clT (setA M a) 0 1 h)), none, none, none, none, none, none]) (st2 := []) (m1 := (setA M1 a2)) rfl ?_
    refine an_f (fun q => q rfl) ?_
    refine an_b 2 (pc2 := 222) (L2 := [some (vR 3 0 0), some (vI x), some (vI y), some (vR 8 0 0), some (vR 8 1 0), some (vR 8 2 0), some (vR 8 3 0), some (vR 8 4 0), some (vR 8 5 0), some (vR 8 6 0), some (vR 8 7 0), some (vR 8 8 0), some (vI ac), some (vI (nI h)), some (vI (nI r)), some (vI (clT (setA M a) 0 1 h)), none, none, none, none, none, none]) (st2 := [vI (1 : Int32)]) (m1 := (setA M1 a2)) rfl ?_
    exact an_ret rfl rfl rfl rfl rfl
  refine an_b 6 (pc2 := 153) (L2 := [some (vR 3 0 0), some (vI x), some (vI y), some (vR 8 0 0), some (vR 8 1 0), some (vR 8 2 0), some (vR 8 3 0), some (vR 8 4 0), some (vR 8 5 0), some (vR 8 6 0), some (vR 8 7 0), some (vR 8 8 0), some (vI ac), some (vI (nI h)), some (vI (nI r)), some (vI (clT (setA M a) 0 1 h)), none, none, none, none, none, none]) (st2 := [vI (((6 : Int32) * (nI h)) + (nI r)), vR 8 1 0]) (m1 := (setA M a)) rfl ?_
  refine an_la 1 ((6 * h) + r) (by decide) (by show _ < 30; omega) (by simp only [ix_lit, pk_mul, nI_add]) rfl ?_
  refine an_b 1 (pc2 := if (zz m (5 + 12 * h + r)) = 0 then 164 else 157) (L2 := [some (vR 3 0 0), some (vI x), some (vI y), some (vR 8 0 0), some (vR 8 1 0), some (vR 8 2 0), some (vR 8 3 0), some (vR 8 4 0), some (vR 8 5 0), some (vR 8 6 0), some (vR 8 7 0), some (vR 8 8 0), some (vI ac), some (vI (nI h)), some (vI (nI r)), some (vI (clT (setA M a) 0 1 h)), none, none, none, none, none, none]) (st2 := []) (m1 := (setA M a)) (by rw [← eL]; rfl) ?_
  refine an_f c1 ?_
  refine an_b 3 (pc2 := if ¬ (clT (setA M a) 0 1 h) = (nI r) then 166 else 164) (L2 := [some (vR 3 0 0), some (vI x), some (vI y), some (vR 8 0 0), some (vR 8 1 0), some (vR 8 2 0), some (vR 8 3 0), some (vR 8 4 0), some (vR 8 5 0), some (vR 8 6 0), some (vR 8 7 0), some (vR 8 8 0), some (vI ac), some (vI (nI h)), some (vI (nI r)), some (vI (clT (setA M a) 0 1 h)), none, none, none, none, none, none]) (st2 := []) (m1 := (setA M a)) rfl ?_
  refine an_t c2 ?_
  refine an_b 2 (pc2 := 168) (L2 := [some (vR 3 0 0), some (vI x), some (vI y), some (vR 8 0 0), some (vR 8 1 0), some (vR 8 2 0), some (vR 8 3 0), some (vR 8 4 0), some (vR 8 5 0), some (vR 8 6 0), some (vR 8 7 0), some (vR 8 8 0), some (vI ac), some (vI (nI h)), some (vI (nI r)), some (vI (clT (setA M a) 0 1 h)), none, none, none, none, none, none]) (st2 := [vI (2 : Int32), vR 8 0 0]) (m1 := (setA M a)) rfl ?_
  refine an_la 0 2 (by decide) (by show _ < 7; omega) rfl rfl ?_
  refine an_b 2 (pc2 := if (6 : Int32) ≤ (nI s) then 181 else 174) (L2 := [some (vR 3 0 0), some (vI x), some (vI y), some (vR 8 0 0), some (vR 8 1 0), some (vR 8 2 0), some (vR 8 3 0), some (vR 8 4 0), some (vR 8 5 0), some (vR 8 6 0), some (vR 8 7 0), some (vR 8 8 0), some (vI ac), some (vI (nI h)), some (vI (nI r)), some (vI (clT (setA M a) 0 1 h)), none, none, none, none, none, none]) (st2 := []) (m1 := (setA M a)) (by rw [H2]; rfl) ?_
  by_cases c6 : s < 6
  · refine an_f (nI_ge (b := 6) c6 (by omega)) ?_
    refine an_b 3 (pc2 := 177) (L2 := [some (vR 3 0 0), some (vI x), some (vI y), some (vR 8 0 0), some (vR 8 1 0), some (vR 8 2 0), some (vR 8 3 0), some (vR 8 4 0), some (vR 8 5 0), some (vR 8 6 0), some (vR 8 7 0), some (vR 8 8 0), some (vI ac), some (vI (nI h)), some (vI (nI r)), some (vI (clT (setA M a) 0 1 h)), none, none, none, none, none, none]) (st2 := [vI (2 : Int32), vR 8 0 0, vI (2 : Int32), vR 8 0 0]) (m1 := (setA M a)) rfl ?_
    refine an_la 0 2 (by decide) (by show _ < 7; omega) rfl rfl ?_
    refine an_b 2 (pc2 := 180) (L2 := [some (vR 3 0 0), some (vI x), some (vI y), some (vR 8 0 0), some (vR 8 1 0), some (vR 8 2 0), some (vR 8 3 0), some (vR 8 4 0), some (vR 8 5 0), some (vR 8 6 0), some (vR 8 7 0), some (vR 8 8 0), some (vI ac), some (vI (nI h)), some (vI (nI r)), some (vI (clT (setA M a) 0 1 h)), none, none, none, none, none, none]) (st2 := [vI ((a 0 2) + (1 : Int32)), vI (2 : Int32), vR 8 0 0]) (m1 := (setA M a)) rfl ?_
    rw [H2, nI_1, show s + 1 = svN s by unfold svN; rw [if_neg (by omega)]]
    refine an_sa 0 2 (by decide) (by show _ < 7; omega) rfl rfl ?_
    exact nx
  · have e6 : svN s = s := by unfold svN; rw [if_pos (by omega)]; omega
    have nx := an_me (show up2 a 0 2 (nI (svN s)) = a by rw [e6]; exact up2_e _ H2) nx
    refine an_t (nI_le (a := 6) (by omega) (by omega)) ?_
    exact nx
set_option maxRecDepth 100000 in
theorem act_giveUp (W : WR (setA M a) m s len K) (H : LA a (zz m) (s, 0)) (hh : h < 5) : AOK len 230 [some (vR 3 0 0), some (vI x), some (vI y), some (vR 8 0 0), some (vR 8 1 0), some (vR 8 2 0), some (vR 8 3 0), some (vR 8 4 0), some (vR 8 5 0), some (vR 8 6 0), some (vR 8 7 0), some (vR 8 8 0), some (vI ac), some (vI (nI h)), some (vI (nI r)), some (vI (clT (setA M a) 0 1 h)), none, none, none, none, none, none] M a := by
  have S := W.1.1
  have s6 : s ≤ 6 := W.2.1
  have hw := wait_c S (show h < 8 by omega)
  rcases rq_n S.2.1 H.2.1 (h := h) (by omega) with e | ⟨own, n, p, ho, hn5, hn, hqm, hp, e1, e2, e3⟩
  · refine ⟨M, a, m, s, K, ?_, W, H⟩
    rw [e]
    refine an_b 2 (pc2 := if 0 ≤ (-1 : Int32) then 237 else 235) (L2 := [some (vR 3 0 0), some (vI x), some (vI y), some (vR 8 0 0), some (vR 8 1 0), some (vR 8 2 0), some (vR 8 3 0), some (vR 8 4 0), some (vR 8 5 0), some (vR 8 6 0), some (vR 8 7 0), some (vR 8 8 0), some (vI ac), some (vI (nI h)), some (vI (nI r)), some (vI (-1 : Int32)), none, none, none, none, none, none]) (st2 := []) (m1 := (setA M a)) rfl ?_
    refine an_f (by decide) ?_
    refine an_b 1 (pc2 := 236) (L2 := [some (vR 3 0 0), some (vI x), some (vI y), some (vR 8 0 0), some (vR 8 1 0), some (vR 8 2 0), some (vR 8 3 0), some (vR 8 4 0), some (vR 8 5 0), some (vR 8 6 0), some (vR 8 7 0), some (vR 8 8 0), some (vI ac), some (vI (nI h)), some (vI (nI r)), some (vI (-1 : Int32)), none, none, none, none, none, none]) (st2 := [vI (1 : Int32)]) (m1 := (setA M a)) rfl ?_
    exact an_ret rfl rfl rfl rfl rfl
  have hwn : ¬ v_X5_waits m (nI h) = 0 := fun q => by
    rw [hw.mp q] at e1
    exact nI_nm1 (show own < 2 ^ 31 by omega) e1.symm
  rw [e1]
  obtain ⟨n2, _, g1, g2, g3⟩ := H.2.1.1 own ho
  obtain rfl : n = n2 := (nI_eq (by omega) (by omega)).mp (hn.symm.trans g1)
  have uq : ∀ k, k < n → ¬ k = p → ∀ w, zz m (137 + 8 * own + k) = nI w → w < 5 → ¬ nI w = nI h := by
    intro k hk hne w hw2 w5 e
    obtain rfl : w = h := (nI_eq (by omega) (by omega)).mp e
    obtain ⟨n4, _, y1, y2⟩ := S.2.1.1 own (by omega)
    obtain rfl : n = n4 := (nI_eq (by omega) (by omega)).mp (hn.symm.trans y1)
    obtain ⟨h2, x1, x2, _, x4, _⟩ := y2 k hk
    obtain rfl : w = h2 := (nI_eq (by omega) (by omega)).mp (hw2.symm.trans x2)
    exact hne ((nI_eq (by omega) (by omega)).mp (x4.symm.trans e2))
  -- the model's own words
  have zs0 := zz_svM m s
  have hro : v_X5_rowOf (svM m s) (nI h) = nI own := by rw [rowOf_cong zs0, rowOf_R S.2.1 (show h < 8 by omega)]; exact e1
  have eR : rowN (svM m s) (nI h) = own := by unfold rowN; rw [hro]; exact nI_clamp (by omega)
  have eP : plcN (svM m s) (nI h) own = p := by
    unfold plcN
    rw [placeIn_cong zs0, placeIn_R S.2.1 (show h < 8 by omega) (show own < 12 by omega), if_pos e1, e2]; exact nI_clamp (by omega)
  have eQ : qn (svM m s) own = n := by
    unfold qn
    rw [zs0, hn]; exact nI_clamp (by omega)
  have H1 : LA (lvK a own p n (n - 1)) (zz (w_X5_unqueue (svM m s) own p)) (s, 0) := by
    unfold w_X5_unqueue
    rw [zz_setz, eQ, zs0]
    exact la_leave H ho hn hn5 hp
  obtain ⟨a1, k3, H3⟩ := r_settle (M := M) H1 ho
  have H2 : a1 0 2 = nI s := H3.2.2.2.2.2.2.1
  obtain ⟨M1, k2, W2⟩ := rc_giveUp (wr_A W (up2 a1 0 2 (nI (svN s)))) (show h < 8 by omega) hwn
  rw [hro] at k2
  have eW : giveW m h s = w_X5_settle (w_X5_unqueue (svM m s) own p) own := by
    unfold giveW
    rw [eR, eP]
  rw [eW] at W2
  refine ⟨M1, up2 a1 0 2 (nI (svN s)), _, _, _, ?_, W2, la_s H3 (svN s)⟩
  have nx0 : ∀ g : Int32, An ML_act 316 [some (vR 3 0 0), some (vI x), some (vI y), some (vR 8 0 0), some (vR 8 1 0), some (vR 8 2 0), some (vR 8 3 0), some (vR 8 4 0), some (vR 8 5 0), some (vR 8 6 0), some (vR 8 7 0), some (vR 8 8 0), some (vI ac), some (vI (nI h)), some (vI (nI r)), some (vI (nI own)), some (vI g), none, none, none, none, none] [] (setA M (up2 a1 0 2 (nI (svN s)))) (.inl (some (vI 1))) (setA M1 (up2 a1 0 2 (nI (svN s)))) := by
    intro g
    refine an_b 2 (pc2 := 319) (L2 := [some (vR 3 0 0), some (vI x), some (vI y), some (vR 8 0 0), some (vR 8 1 0), some (vR 8 2 0), some (vR 8 3 0), some (vR 8 4 0), some (vR 8 5 0), some (vR 8 6 0), some (vR 8 7 0), some (vR 8 8 0), some (vI ac), some (vI (nI h)), some (vI (nI r)), some (vI (nI own)), some (vI g), none, none, none, none, none]) (st2 := [vI (nI h), vR 3 0 0]) (m1 := (setA M (up2 a1 0 2 (nI (svN s))))) rfl ?_
    refine an_call k2 rfl rfl rfl rfl ?_
    refine an_b 2 (pc2 := if ¬ (nI own) = (nI own) then 331 else 327) (L2 := [some (vR 3 0 0), some (vI x), some (vI y), some (vR 8 0 0), some (vR 8 1 0), some (vR 8 2 0), some (vR 8 3 0), some (vR 8 4 0), some (vR 8 5 0), some (vR 8 6 0), some (vR 8 7 0), some (vR 8 8 0), some (vI ac), some (vI (nI h)), some (vI (nI r)), some (vI (nI own)), some (vI g), none, none, none, none, none]) (st2 := []) (m1 := (setA M1 (up2 a1 0 2 (nI (svN s))))) rfl ?_
    refine an_f (fun q => q rfl) ?_
    refine an_b 2 (pc2 := 332) (L2 := [some (vR 3 0 0), some (vI x), some (vI y), some (vR 8 0 0), some (vR 8 1 0), some (vR 8 2 0), some (vR 8 3 0), some (vR 8 4 0), some (vR 8 5 0), some (vR 8 6 0), some (vR 8 7 0), some (vR 8 8 0), some (vI ac), some (vI (nI h)), some (vI (nI r)), some (vI (nI own)), some (vI g), none, none, none, none, none]) (st2 := [vI (1 : Int32)]) (m1 := (setA M1 (up2 a1 0 2 (nI (svN s))))) rfl ?_
    exact an_ret rfl rfl rfl rfl rfl
  have hk : An ML_act 286 [some (vR 3 0 0), some (vI x), some (vI y), some (vR 8 0 0), some (vR 8 1 0), some (vR 8 2 0), some (vR 8 3 0), some (vR 8 4 0), some (vR 8 5 0), some (vR 8 6 0), some (vR 8 7 0), some (vR 8 8 0), some (vI ac), some (vI (nI h)), some (vI (nI r)), some (vI (nI own)), none, none, none, none, none, none] [] (setA M (lvK a own p n (n - 1))) (.inl (some (vI 1))) (setA M1 (up2 a1 0 2 (nI (svN s)))) := by
    refine an_b 5 (pc2 := 296) (L2 := [some (vR 3 0 0), some (vI x), some (vI y), some (vR 8 0 0), some (vR 8 1 0), some (vR 8 2 0), some (vR 8 3 0), some (vR 8 4 0), some (vR 8 5 0), some (vR 8 6 0), some (vR 8 7 0), some (vR 8 8 0), some (vI ac), some (vI (nI h)), some (vI (nI r)), some (vI (nI own)), none, none, none, none, none, none]) (st2 := [vI (nI own), vR 8 7 0, vR 8 3 0, vR 8 2 0, vR 8 1 0]) (m1 := (setA M (lvK a own p n (n - 1)))) rfl ?_
    refine an_call k3 rfl rfl rfl rfl ?_
    refine an_b 1 (pc2 := 301) (L2 := [some (vR 3 0 0), some (vI x), some (vI y), some (vR 8 0 0), some (vR 8 1 0), some (vR 8 2 0), some (vR 8 3 0), some (vR 8 4 0), some (vR 8 5 0), some (vR 8 6 0), some (vR 8 7 0), some (vR 8 8 0), some (vI ac), some (vI (nI h)), some (vI (nI r)), some (vI (nI own)), some (vI (v_X5_settle (w_X5_unqueue (svM m s) own p) own)), none, none, none, none, none]) (st2 := []) (m1 := (setA M a1)) rfl ?_
    have nx := nx0 (v_X5_settle (w_X5_unqueue (svM m s) own p) own)
    refine an_b 2 (pc2 := 303) (L2 := [some (vR 3 0 0), some (vI x), some (vI y), some (vR 8 0 0), some (vR 8 1 0), some (vR 8 2 0), some (vR 8 3 0), some (vR 8 4 0), some (vR 8 5 0), some (vR 8 6 0), some (vR 8 7 0), some (vR 8 8 0), some (vI ac), some (vI (nI h)), some (vI (nI r)), some (vI (nI own)), some (vI (v_X5_settle (w_X5_unqueue (svM m s) own p) own)), none, none, none, none, none]) (st2 := [vI (2 : Int32), vR 8 0 0]) (m1 := (setA M a1)) rfl ?_
    refine an_la 0 2 (by decide) (by show _ < 7; omega) rfl rfl ?_
    refine an_b 2 (pc2 := if (6 : Int32) ≤ (nI s) then 316 else 309) (L2 := [some (vR 3 0 0), some (vI x), some (vI y), some (vR 8 0 0), some (vR 8 1 0), some (vR 8 2 0), some (vR 8 3 0), some (vR 8 4 0), some (vR 8 5 0), some (vR 8 6 0), some (vR 8 7 0), some (vR 8 8 0), some (vI ac), some (vI (nI h)), some (vI (nI r)), some (vI (nI own)), some (vI (v_X5_settle (w_X5_unqueue (svM m s) own p) own)), none, none, none, none, none]) (st2 := []) (m1 := (setA M a1)) (by rw [H2]; rfl) ?_
    by_cases c6 : s < 6
    · refine an_f (nI_ge (b := 6) c6 (by omega)) ?_
      refine an_b 3 (pc2 := 312) (L2 := [some (vR 3 0 0), some (vI x), some (vI y), some (vR 8 0 0), some (vR 8 1 0), some (vR 8 2 0), some (vR 8 3 0), some (vR 8 4 0), some (vR 8 5 0), some (vR 8 6 0), some (vR 8 7 0), some (vR 8 8 0), some (vI ac), some (vI (nI h)), some (vI (nI r)), some (vI (nI own)), some (vI (v_X5_settle (w_X5_unqueue (svM m s) own p) own)), none, none, none, none, none]) (st2 := [vI (2 : Int32), vR 8 0 0, vI (2 : Int32), vR 8 0 0]) (m1 := (setA M a1)) rfl ?_
      refine an_la 0 2 (by decide) (by show _ < 7; omega) rfl rfl ?_
      refine an_b 2 (pc2 := 315) (L2 := [some (vR 3 0 0), some (vI x), some (vI y), some (vR 8 0 0), some (vR 8 1 0), some (vR 8 2 0), some (vR 8 3 0), some (vR 8 4 0), some (vR 8 5 0), some (vR 8 6 0), some (vR 8 7 0), some (vR 8 8 0), some (vI ac), some (vI (nI h)), some (vI (nI r)), some (vI (nI own)), some (vI (v_X5_settle (w_X5_unqueue (svM m s) own p) own)), none, none, none, none, none]) (st2 := [vI ((a1 0 2) + (1 : Int32)), vI (2 : Int32), vR 8 0 0]) (m1 := (setA M a1)) rfl ?_
      rw [H2, nI_1, show s + 1 = svN s by unfold svN; rw [if_neg (by omega)]]
      refine an_sa 0 2 (by decide) (by show _ < 7; omega) rfl rfl ?_
      exact nx
    · have e6 : svN s = s := by unfold svN; rw [if_pos (by omega)]; omega
      have nx := an_me (show up2 a1 0 2 (nI (svN s)) = a1 by rw [e6]; exact up2_e _ H2) nx
      refine an_t (nI_le (a := 6) (by omega) (by omega)) ?_
      exact nx
  have T2 : ∀ k, k ≤ p → An ML_act 246 [some (vR 3 0 0), some (vI x), some (vI y), some (vR 8 0 0), some (vR 8 1 0), some (vR 8 2 0), some (vR 8 3 0), some (vR 8 4 0), some (vR 8 5 0), some (vR 8 6 0), some (vR 8 7 0), some (vR 8 8 0), some (vI ac), some (vI (nI h)), some (vI (nI r)), some (vI (nI own)), some (vI (nI k + (-1 : Int32))), none, none, none, none, none] [] (setA M (lvK a own p n (n - 1))) (.inl (some (vI 1))) (setA M1 (up2 a1 0 2 (nI (svN s)))) := by
    intro k
    induction k with
    | zero =>
      intro _
      refine an_b 2 (pc2 := if (nI 0 + (-1 : Int32)) < 0 then 286 else 251) (L2 := [some (vR 3 0 0), some (vI x), some (vI y), some (vR 8 0 0), some (vR 8 1 0), some (vR 8 2 0), some (vR 8 3 0), some (vR 8 4 0), some (vR 8 5 0), some (vR 8 6 0), some (vR 8 7 0), some (vR 8 8 0), some (vI ac), some (vI (nI h)), some (vI (nI r)), some (vI (nI own)), some (vI (nI 0 + (-1 : Int32))), none, none, none, none, none]) (st2 := []) (m1 := (setA M (lvK a own p n (n - 1)))) rfl ?_
      refine an_t (by decide) ?_
      exact an_weak (L := [some (vR 3 0 0), some (vI x), some (vI y), some (vR 8 0 0), some (vR 8 1 0), some (vR 8 2 0), some (vR 8 3 0), some (vR 8 4 0), some (vR 8 5 0), some (vR 8 6 0), some (vR 8 7 0), some (vR 8 8 0), some (vI ac), some (vI (nI h)), some (vI (nI r)), some (vI (nI own)), none, none, none, none, none, none]) ⟨rfl, rfl, rfl, rfl, rfl, rfl, rfl, rfl, rfl, rfl, rfl, rfl, rfl, rfl, rfl, rfl, trivial⟩ hk
    | succ k ih =>
      intro hkp
      have e4 : nI (k + 1) + (-1 : Int32) = nI k := by
        rw [← Int32.sub_eq_add_neg]; exact nI_pred k
      rw [e4]
      obtain ⟨w, md2, u1, u2, u3, u4, u5, u6⟩ := g3 k (by omega)
      have hne := uq k (by omega) (by omega) w u4 u1
      have u7 : lvK a own p n (n - 1) 2 (5 * own + k) = nI (w + 8 * md2) := by
        unfold lvK
        rw [if_neg (by omega), if_neg (by omega)]; exact u6
      refine an_b 2 (pc2 := if (nI k) < 0 then 286 else 251) (L2 := [some (vR 3 0 0), some (vI x), some (vI y), some (vR 8 0 0), some (vR 8 1 0), some (vR 8 2 0), some (vR 8 3 0), some (vR 8 4 0), some (vR 8 5 0), some (vR 8 6 0), some (vR 8 7 0), some (vR 8 8 0), some (vI ac), some (vI (nI h)), some (vI (nI r)), some (vI (nI own)), some (vI (nI k)), none, none, none, none, none]) (st2 := []) (m1 := (setA M (lvK a own p n (n - 1)))) rfl ?_
      refine an_f (nI_pos (by omega)) ?_
      refine an_b 6 (pc2 := 260) (L2 := [some (vR 3 0 0), some (vI x), some (vI y), some (vR 8 0 0), some (vR 8 1 0), some (vR 8 2 0), some (vR 8 3 0), some (vR 8 4 0), some (vR 8 5 0), some (vR 8 6 0), some (vR 8 7 0), some (vR 8 8 0), some (vI ac), some (vI (nI h)), some (vI (nI r)), some (vI (nI own)), some (vI (nI k)), none, none, none, none, none]) (st2 := [vI (((5 : Int32) * (nI own)) + (nI k)), vR 8 2 0]) (m1 := (setA M (lvK a own p n (n - 1)))) rfl ?_
      refine an_la 2 ((5 * own) + k) (by decide) (by show _ < 36; omega) (by simp only [ix_lit, pk_mul, nI_add]) rfl ?_
      refine an_b 4 (pc2 := if ¬ (nI w) = (nI h) then 280 else 269) (L2 := [some (vR 3 0 0), some (vI x), some (vI y), some (vR 8 0 0), some (vR 8 1 0), some (vR 8 2 0), some (vR 8 3 0), some (vR 8 4 0), some (vR 8 5 0), some (vR 8 6 0), some (vR 8 7 0), some (vR 8 8 0), some (vI ac), some (vI (nI h)), some (vI (nI r)), some (vI (nI own)), some (vI (nI k)), none, none, none, none, none]) (st2 := []) (m1 := (setA M (lvK a own p n (n - 1)))) (by rw [u7, ← rem8 w u1 md2 u3]; rfl) ?_
      refine an_t hne ?_
      refine an_b 2 (pc2 := 246) (L2 := [some (vR 3 0 0), some (vI x), some (vI y), some (vR 8 0 0), some (vR 8 1 0), some (vR 8 2 0), some (vR 8 3 0), some (vR 8 4 0), some (vR 8 5 0), some (vR 8 6 0), some (vR 8 7 0), some (vR 8 8 0), some (vI ac), some (vI (nI h)), some (vI (nI r)), some (vI (nI own)), some (vI ((nI k) + (-1 : Int32))), none, none, none, none, none]) (st2 := []) (m1 := (setA M (lvK a own p n (n - 1)))) rfl ?_
      exact ih (by omega)
  have T1 : ∀ k, p < k → k ≤ n → An ML_act 246 [some (vR 3 0 0), some (vI x), some (vI y), some (vR 8 0 0), some (vR 8 1 0), some (vR 8 2 0), some (vR 8 3 0), some (vR 8 4 0), some (vR 8 5 0), some (vR 8 6 0), some (vR 8 7 0), some (vR 8 8 0), some (vI ac), some (vI (nI h)), some (vI (nI r)), some (vI (nI own)), some (vI (nI k + (-1 : Int32))), none, none, none, none, none] [] (setA M a) (.inl (some (vI 1))) (setA M1 (up2 a1 0 2 (nI (svN s)))) := by
    intro k
    induction k with
    | zero => intro q; omega
    | succ k ih =>
      intro hpk hkn
      have e4 : nI (k + 1) + (-1 : Int32) = nI k := by
        rw [← Int32.sub_eq_add_neg]; exact nI_pred k
      rw [e4]
      obtain ⟨w, md2, u1, u2, u3, u4, u5, u6⟩ := g3 k (by omega)
      refine an_b 2 (pc2 := if (nI k) < 0 then 286 else 251) (L2 := [some (vR 3 0 0), some (vI x), some (vI y), some (vR 8 0 0), some (vR 8 1 0), some (vR 8 2 0), some (vR 8 3 0), some (vR 8 4 0), some (vR 8 5 0), some (vR 8 6 0), some (vR 8 7 0), some (vR 8 8 0), some (vI ac), some (vI (nI h)), some (vI (nI r)), some (vI (nI own)), some (vI (nI k)), none, none, none, none, none]) (st2 := []) (m1 := (setA M a)) rfl ?_
      refine an_f (nI_pos (by omega)) ?_
      refine an_b 6 (pc2 := 260) (L2 := [some (vR 3 0 0), some (vI x), some (vI y), some (vR 8 0 0), some (vR 8 1 0), some (vR 8 2 0), some (vR 8 3 0), some (vR 8 4 0), some (vR 8 5 0), some (vR 8 6 0), some (vR 8 7 0), some (vR 8 8 0), some (vI ac), some (vI (nI h)), some (vI (nI r)), some (vI (nI own)), some (vI (nI k)), none, none, none, none, none]) (st2 := [vI (((5 : Int32) * (nI own)) + (nI k)), vR 8 2 0]) (m1 := (setA M a)) rfl ?_
      refine an_la 2 ((5 * own) + k) (by decide) (by show _ < 36; omega) (by simp only [ix_lit, pk_mul, nI_add]) rfl ?_
      refine an_b 4 (pc2 := if ¬ (nI w) = (nI h) then 280 else 269) (L2 := [some (vR 3 0 0), some (vI x), some (vI y), some (vR 8 0 0), some (vR 8 1 0), some (vR 8 2 0), some (vR 8 3 0), some (vR 8 4 0), some (vR 8 5 0), some (vR 8 6 0), some (vR 8 7 0), some (vR 8 8 0), some (vI ac), some (vI (nI h)), some (vI (nI r)), some (vI (nI own)), some (vI (nI k)), none, none, none, none, none]) (st2 := []) (m1 := (setA M a)) (by rw [show a 2 (5 * own + k) = nI (w + 8 * md2) from u6, ← rem8 w u1 md2 u3]; rfl) ?_
      by_cases ck : k = p
      · subst ck
        have ew : nI w = nI h := u4.symm.trans e3
        refine an_f (fun u => u ew) ?_
        refine an_b 4 (pc2 := 277) (L2 := [some (vR 3 0 0), some (vI x), some (vI y), some (vR 8 0 0), some (vR 8 1 0), some (vR 8 2 0), some (vR 8 3 0), some (vR 8 4 0), some (vR 8 5 0), some (vR 8 6 0), some (vR 8 7 0), some (vR 8 8 0), some (vI ac), some (vI (nI h)), some (vI (nI r)), some (vI (nI own)), some (vI (nI k)), none, none, none, none, none]) (st2 := [vI (nI k), vI (nI own), vR 8 3 0, vR 8 2 0]) (m1 := (setA M a)) rfl ?_
        refine an_call (r_leave (p := k) (n := n) ho g2 hn5 hp) rfl rfl rfl rfl ?_
        refine an_b 2 (pc2 := 246) (L2 := [some (vR 3 0 0), some (vI x), some (vI y), some (vR 8 0 0), some (vR 8 1 0), some (vR 8 2 0), some (vR 8 3 0), some (vR 8 4 0), some (vR 8 5 0), some (vR 8 6 0), some (vR 8 7 0), some (vR 8 8 0), some (vI ac), some (vI (nI h)), some (vI (nI r)), some (vI (nI own)), some (vI ((nI k) + (-1 : Int32))), none, none, none, none, none]) (st2 := []) (m1 := (setA M (lvK a own k n (n - 1)))) rfl ?_
        exact T2 k (Nat.le_refl k)
      · have hne := uq k (by omega) ck w u4 u1
        refine an_t hne ?_
        refine an_b 2 (pc2 := 246) (L2 := [some (vR 3 0 0), some (vI x), some (vI y), some (vR 8 0 0), some (vR 8 1 0), some (vR 8 2 0), some (vR 8 3 0), some (vR 8 4 0), some (vR 8 5 0), some (vR 8 6 0), some (vR 8 7 0), some (vR 8 8 0), some (vI ac), some (vI (nI h)), some (vI (nI r)), some (vI (nI own)), some (vI ((nI k) + (-1 : Int32))), none, none, none, none, none]) (st2 := []) (m1 := (setA M a)) rfl ?_
        exact ih (by omega) (by omega)
  refine an_b 2 (pc2 := if 0 ≤ (nI own) then 237 else 235) (L2 := [some (vR 3 0 0), some (vI x), some (vI y), some (vR 8 0 0), some (vR 8 1 0), some (vR 8 2 0), some (vR 8 3 0), some (vR 8 4 0), some (vR 8 5 0), some (vR 8 6 0), some (vR 8 7 0), some (vR 8 8 0), some (vI ac), some (vI (nI h)), some (vI (nI r)), some (vI (nI own)), none, none, none, none, none, none]) (st2 := []) (m1 := (setA M a)) rfl ?_
  refine an_t (nI_pos' (by omega)) ?_
  refine an_b 2 (pc2 := 241) (L2 := [some (vR 3 0 0), some (vI x), some (vI y), some (vR 8 0 0), some (vR 8 1 0), some (vR 8 2 0), some (vR 8 3 0), some (vR 8 4 0), some (vR 8 5 0), some (vR 8 6 0), some (vR 8 7 0), some (vR 8 8 0), some (vI ac), some (vI (nI h)), some (vI (nI r)), some (vI (nI own)), none, none, none, none, none, none]) (st2 := [vI (nI own), vR 8 3 0]) (m1 := (setA M a)) rfl ?_
  refine an_la 3 own (by decide) (by show _ < 6; omega) rfl rfl ?_
  refine an_b 3 (pc2 := 246) (L2 := [some (vR 3 0 0), some (vI x), some (vI y), some (vR 8 0 0), some (vR 8 1 0), some (vR 8 2 0), some (vR 8 3 0), some (vR 8 4 0), some (vR 8 5 0), some (vR 8 6 0), some (vR 8 7 0), some (vR 8 8 0), some (vI ac), some (vI (nI h)), some (vI (nI r)), some (vI (nI own)), some (vI ((a 3 own) - (1 : Int32))), none, none, none, none, none]) (st2 := []) (m1 := (setA M a)) rfl ?_
  have k4 := T1 n hp (Nat.le_refl n)
  rw [← Int32.sub_eq_add_neg, ← g2] at k4
  exact k4
end
