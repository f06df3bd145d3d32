/-! in how many ticks a row burns -/
theorem stz_l {r : Nat} (hr : r < 12) : ∀ (n : Nat) (z : Nat → Int32) (x : Int32), QV z r n → ∀ h r', h < 8 → r' < 12 → ¬ r' = r → (stz r n z x).2 (5 + 12 * h + r') = z (5 + 12 * h + r') := by
  intro n
  induction n with
  | zero => intro z x _ h r' _ _ _; rfl
  | succ n ih =>
    intro z x hq h r' hh hr' hne
    unfold stz
    obtain ⟨h0, a1, a2⟩ := hq.2.2 0 (by omega)
    have a2 : z (137 + 8 * r) = nI h0 := a2
    by_cases cc : clz z r (z (233 + 8 * r)) (z (137 + 8 * r)) = 0
    · rw [if_pos cc, a2, nI_clamp (by omega), ih _ _ (qv_grz hr a1 hq) h r' hh hr' hne]
      unfold grz
      have := hq.2.1
      rw [uqz_lo _ hr (by omega) (by omega), upd_o _ _ _ (by omega), upd_o _ _ _ (by omega)]
    · rw [if_neg cc]
theorem settle_l {m : PM} {c : Nat → Nat → Int32} (H : SA c (zz m)) {r h r' : Nat} (hr : r < 12) (hh : h < 8) (hr' : r' < 12) (hne : ¬ r' = r) : zz (w_X5_settle m r) (5 + 12 * h + r') = zz m (5 + 12 * h + r') := by
  unfold w_X5_settle
  rw [zz_setz]
  exact stz_l hr _ _ _ (rq_qa H.2.1 r hr) h r' hh hr' hne
theorem burn_l {m : PM} {c : Nat → Nat → Int32} (H : SA c (zz m)) {r h r' : Nat} (hr : r < 12) (hh : h < 8) (hr' : r' < 12) (hne : ¬ r' = r) : zz (w_X5_burn m r) (5 + 12 * h + r') = zz m (5 + 12 * h + r') := by
  obtain ⟨e1, e2, c2, e3, K, C, E, S, Z, L⟩ := burn_R m m m 0 hr H
  unfold w_X5_burn
  rw [zz_wI, upd_o _ _ _ (by omega), L h r' hh hr', if_neg (fun u => hne u.1)]
theorem great_cong {m m2 : PM} {r : Nat} (e : ∀ h, h < 8 → zz m2 (5 + 12 * h + r) = zz m (5 + 12 * h + r)) : v_X5_greatestOf m2 r = v_X5_greatestOf m r := by
  unfold v_X5_greatestOf
  refine lp_cong 8 (fun j s hj => ?_) 8 0 0 rfl
  unfold b_X5_greatestOf_1 v_X5_lockOf
  rw [show m2.1 8 0 0 (5 + 12 * j + r) = m.1 8 0 0 (5 + 12 * j + r) from e j hj]
theorem great_0 {m : PM} {lk : Nat → Int32} (H : RK lk (zz m)) {r : Nat} (hr : r < 12) : v_X5_greatestOf m r = 0 ↔ ∀ h, h < 8 → zz m (5 + 12 * h + r) ≤ 0 := by
  have k := lp_inv (b_X5_greatestOf_1 m r) 8 (fun j s => (∀ h, h < j → zz m (5 + 12 * h + r) ≤ s) ∧ (s = 0 ∨ 0 < s ∧ ∃ h, h < 8 ∧ zz m (5 + 12 * h + r) = s)) (fun j s hj hs => ?_) 8 0 0 rfl ⟨fun h hh => by omega, Or.inl rfl⟩
  · constructor
    · intro e h hh
      have := k.1 h hh
      rw [show lp (b_X5_greatestOf_1 m r) 8 0 0 = 0 from e] at this
      exact this
    · intro e
      rcases k.2 with q | ⟨q1, h, hh, q2⟩
      · exact q
      · have := e h hh
        rw [q2] at this
        exact absurd q1 (Int32.not_lt.mpr this)
  · have e : v_X5_lockOf m j r = zz m (5 + 12 * j + r) := rfl
    unfold b_X5_greatestOf_1
    rw [e]
    by_cases c : zz m (5 + 12 * j + r) ≤ s
    · rw [if_pos c]
      refine ⟨fun h hh => ?_, hs.2⟩
      by_cases q : h = j
      · subst q; exact c
      · exact hs.1 h (by omega)
    · rw [if_neg c]
      have c2 := Int32.not_le.mp c
      refine ⟨fun h hh => ?_, Or.inr ⟨?_, j, hj, rfl⟩⟩
      · by_cases q : h = j
        · subst q; exact Int32.le_refl _
        · exact Int32.le_of_lt (Int32.lt_of_le_of_lt (hs.1 h (by omega)) c2)
      · rcases hs.2 with q | q
        · rw [q] at c2; exact c2
        · exact Int32.lt_trans q.1 c2
theorem cntP_z (P : Nat → Bool) (N : Nat) : cntP P N = 0 ↔ ∀ h, h < N → P h = false := by
  refine ⟨fun e h hh => ?_, cntP_0 P N⟩
  cases c : P h
  · rfl
  · have := cntP_rm P h c N
    rw [if_pos hh] at this
    omega
theorem burn_0 {m : PM} {c : Nat → Nat → Int32} (H : SA c (zz m)) {r : Nat} (hr : r < 12) : v_X5_burn m r ≤ 0 ↔ v_X5_greatestOf m r = 0 := by
  obtain ⟨_, e, _⟩ := burn_A m m m 0 hr H
  have h8 := cntP_N (fun h => !decide (zz m (5 + 12 * h + r) ≤ 0)) 8
  rw [e, great_0 H.1 hr]
  have z := cntP_z (fun h => !decide (zz m (5 + 12 * h + r) ≤ 0)) 8
  constructor
  · intro q h hh
    have q0 : cntP (fun h => !decide (zz m (5 + 12 * h + r) ≤ 0)) 8 = 0 := by
      refine Classical.byContradiction fun u => ?_
      exact nI_nle (by omega) (by omega) q
    have := z.mp q0 h hh
    simpa using this
  · intro q
    rw [z.mpr (fun h hh => by simpa using q h hh)]
    decide
theorem burn_lz {m : PM} {c : Nat → Nat → Int32} (H : SA c (zz m)) {r h : Nat} (hr : r < 12) (hh : h < 8) : zz (w_X5_burn m r) (5 + 12 * h + r) = 0 := by
  obtain ⟨e1, e2, c2, e3, K, C, E, S, Z, L⟩ := burn_R m m m 0 hr H
  unfold w_X5_burn
  rw [zz_wI, upd_o _ _ _ (by omega), L h r hh hr, if_pos ⟨rfl, hh⟩]
/-- heat and settings are the same -/
def HS (z z2 : Nat → Int32) : Prop := ∀ i, i < 3 ∨ (101 ≤ i ∧ i < 113) → z2 i = z i
theorem hs_c {c c2 : Nat → Nat → Int32} {z z2 : Nat → Int32} (H : SA c z) (H2 : SA c2 z2) (e4 : c2 4 = c 4) (e10 : c2 10 = c 10) : HS z z2 := by
  intro i hi
  rcases hi with hi | hi
  · have a := H.2.2.1.1 10 i (by omega) (by omega) (show i < 3 from hi)
    have b := H2.2.2.1.1 10 i (by omega) (by omega) (show i < 3 from hi)
    rw [e10, a] at b
    have e : zof 10 + i = i := Nat.zero_add i
    rw [e] at b
    exact b.symm
  · have a := H.2.2.1.1 4 (i - 101) (by omega) (by omega) (show i - 101 < 12 by omega)
    have b := H2.2.2.1.1 4 (i - 101) (by omega) (by omega) (show i - 101 < 12 by omega)
    rw [e4, a] at b
    have e : zof 4 + (i - 101) = i := by show 101 + (i - 101) = i; omega
    rw [e] at b
    exact b.symm
/-- what a tick does to row r -/
theorem tick_row {m : PM} {c : Nat → Nat → Int32} (H : SA c (zz m)) (B : BC c) {r n k a b w : Nat} (hr : r < 12) (z4 : zz m (101 + r) = nI n) (hn : n ≤ 1000) (ek : v_X5_greatestOf m r = nI k) (hk : k ≤ 3) (z0 : zz m 0 = nI w) (hw : w ≤ 900) (z1 : zz m 1 = nI a) (ha : a ≤ 20) (z2 : zz m 2 = nI b) (hb : b ≤ 50) : (bit (v_X5_tick m) r = true ↔ ¬ k = 0 ∧ w < htN n k a b) ∧ (bit (v_X5_tick m) r = false → ∃ c2, SA c2 (zz (w_X5_tick m)) ∧ BC c2 ∧ zz (w_X5_tick m) 0 = nI w ∧ zz (w_X5_tick m) 1 = nI a ∧ zz (w_X5_tick m) 2 = nI b ∧ zz (w_X5_tick m) (101 + r) = nI (htN n k a b) ∧ v_X5_greatestOf (w_X5_tick m) r = nI k) := by
  -- the first half
  have T := lp_inv b_X5_tick_1 12 (fun j s => (∀ i, ¬ i = 3 → ¬ (101 ≤ i ∧ i < 101 + j) → zz s i = zz m i) ∧ (r < j → zz s (101 + r) = nI (htN n k a b))) (fun j s hj hs => ?_) 12 0 (wI m 8 0 0 3 (m.1 8 0 0 3 + 1)) rfl ⟨fun i h3 _ => by rw [zz_wI, upd_o _ _ _ h3], fun q => by omega⟩
  · change (∀ i, ¬ i = 3 → ¬ (101 ≤ i ∧ i < 101 + 12) → zz (tick_1 m) i = zz m i) ∧ (r < 12 → zz (tick_1 m) (101 + r) = nI (htN n k a b)) at T
    obtain ⟨T1, T2⟩ := T
    have T2 := T2 hr
    obtain ⟨c1, _, S1, B1, _⟩ := tick_1R m m m 0 H B
    have g1 : v_X5_greatestOf (tick_1 m) r = nI k := by rw [← ek]; exact great_cong (fun h hh => T1 _ (by omega) (by omega))
    have hl := htN_le (k := k) (a := a) (b := b) hn
    -- the second half
    have U := lp_inv b_X5_tick_2 12 (fun j s => ∃ c2, SA c2 (zz s.2) ∧ BC c2 ∧ HS (zz (tick_1 m)) (zz s.2) ∧ (j ≤ r → bit s.1 r = false) ∧ (r < j → (bit s.1 r = true ↔ ¬ k = 0 ∧ w < htN n k a b)) ∧ (bit s.1 r = false → v_X5_greatestOf s.2 r = nI k)) (fun j s hj hs => ?_) 12 0 (0, tick_1 m) rfl ⟨c1, S1, B1, fun _ _ => rfl, fun _ => bit_0 r, fun q => by omega, fun _ => g1⟩
    · obtain ⟨c2, S2, B2, E, _, U1, U2⟩ := U
      refine ⟨U1 hr, fun q => ⟨c2, S2, B2, ?_, ?_, ?_, ?_, U2 q⟩⟩
      · exact (E 0 (by omega)).trans ((T1 0 (by omega) (by omega)).trans z0)
      · exact (E 1 (by omega)).trans ((T1 1 (by omega) (by omega)).trans z1)
      · exact (E 2 (by omega)).trans ((T1 2 (by omega) (by omega)).trans z2)
      · exact (E (101 + r) (by omega)).trans T2
    · obtain ⟨x, s⟩ := s
      obtain ⟨c2, S2, B2, E, b1, b2, b3⟩ := hs
      change SA c2 (zz s) at S2
      change HS (zz (tick_1 m)) (zz s) at E
      change j ≤ r → bit x r = false at b1
      change r < j → (bit x r = true ↔ ¬ k = 0 ∧ w < htN n k a b) at b2
      change bit x r = false → v_X5_greatestOf s r = nI k at b3
      have e0 : zz s 0 = nI w := (E 0 (by omega)).trans ((T1 0 (by omega) (by omega)).trans z0)
      have er : zz s (101 + r) = nI (htN n k a b) := (E (101 + r) (by omega)).trans T2
      have bO : ¬ j = r → ∀ X, bit (x ||| X) r = (bit x r || bit X r) := fun _ X => bit_or _ _ _
      have bJ : ¬ j = r → bit ((1 : Int32) <<< (nI j &&& (31 : Int32))) r = false := fun q => by rw [bit_1 (by omega) (by omega)]; exact decide_eq_false (fun u => q u.symm)
      unfold b_X5_tick_2 tickV tickW
      dsimp only
      rw [show s.1 8 0 0 0 = zz s 0 from rfl, show s.1 8 0 0 (101 + j) = zz s (101 + j) from rfl]
      by_cases cc : zz s (101 + j) ≤ zz s 0
      · simp only [if_pos cc, if_pos (show (0 : Int32) ≤ 0 by decide), Int32.or_zero]
        refine ⟨c2, S2, B2, E, fun q => b1 (by omega), fun q => ?_, b3⟩
        by_cases cj : j = r
        · subst cj
          rw [er, e0] at cc
          rw [b1 (Nat.le_refl _)]
          constructor
          · intro u; exact absurd u (by decide)
          · intro u; exact absurd cc (nI_ge u.2 (by omega))
        · exact b2 (by omega)
      · simp only [if_neg cc]
        obtain ⟨f1, f2, c3, f3, S3, E3, f4⟩ := burn_A m m s 0 hj S2
        have B3 : BC c3 := bc_c B2 (E3 4 (by omega) (by omega)) (E3 10 (by omega) (by omega))
        have H3 : HS (zz s) (zz (w_X5_burn s j)) := hs_c S2 S3 (E3 4 (by omega) (by omega)) (E3 10 (by omega) (by omega))
        have g3 : ¬ j = r → v_X5_greatestOf (w_X5_burn s j) r = v_X5_greatestOf s r := fun q => great_cong (fun h hh => burn_l S2 hj hh hr (fun u => q u.symm))
        by_cases c0 : v_X5_burn s j ≤ 0
        · simp only [if_pos c0, Int32.or_zero]
          refine ⟨c3, S3, B3, fun i hi => (H3 i hi).trans (E i hi), fun q => b1 (by omega), fun q => ?_, fun q => ?_⟩
          · by_cases cj : j = r
            · subst cj
              have k0 := (burn_0 S2 hj).mp c0
              rw [b3 (b1 (Nat.le_refl _))] at k0
              rw [b1 (Nat.le_refl _)]
              constructor
              · intro u; exact absurd u (by decide)
              · intro u; exact absurd k0 (nI_ne0 (by omega) (by omega))
            · exact b2 (by omega)
          · by_cases cj : j = r
            · subst cj
              have k0 := (burn_0 S2 hj).mp c0
              rw [b3 q] at k0
              rw [k0]
              refine (great_0 S3.1 hj).mpr (fun h hh => ?_)
              rw [burn_lz S2 hj hh]
              decide
            · rw [g3 cj]; exact b3 q
        · simp only [if_neg c0]
          obtain ⟨_, c4, q2, q3, q4, _⟩ := settle_R m (w_X5_burn s j) 0 hj S3
          have H4 : HS (zz (w_X5_burn s j)) (zz (w_X5_settle (w_X5_burn s j) j)) := hs_c S3 q3 (q4.2.2 4 (by omega)) (q4.2.2 10 (by omega))
          refine ⟨c4, q3, bc_c B3 (q4.2.2 4 (by omega)) (q4.2.2 10 (by omega)), fun i hi => (H4 i hi).trans ((H3 i hi).trans (E i hi)), fun q => ?_, fun q => ?_, fun q => ?_⟩
          · rw [bO (by omega), bJ (by omega), b1 (by omega)]; rfl
          · by_cases cj : j = r
            · subst cj
              rw [bit_or, bit_1 (by omega) (by omega), decide_eq_true (rfl : j = j), Bool.or_true]
              refine ⟨fun _ => ⟨fun k0 => c0 ((burn_0 S2 hj).mpr ?_), ?_⟩, fun _ => rfl⟩
              · rw [b3 (b1 (Nat.le_refl _)), k0]; rfl
              · rw [er, e0] at cc
                refine Classical.byContradiction fun u => cc (nI_le (by omega) (by omega))
            · rw [bO cj, bJ cj, Bool.or_false]
              exact b2 (by omega)
          · by_cases cj : j = r
            · subst cj
              rw [bit_or, bit_1 (by omega) (by omega), decide_eq_true (rfl : j = j), Bool.or_true] at q
              exact absurd q (by decide)
            · rw [bO cj, bJ cj, Bool.or_false] at q
              rw [← b3 q, ← g3 cj]
              exact great_cong (fun h hh => settle_l S3 hj hh hr (fun u => cj u.symm))
  · obtain ⟨Z, R⟩ := hs
    have e1 : s.1 8 0 0 1 = nI a := (Z 1 (by omega) (by omega)).trans z1
    have e2 : s.1 8 0 0 2 = nI b := (Z 2 (by omega) (by omega)).trans z2
    unfold b_X5_tick_1
    rw [zz_wI]
    refine ⟨fun i h3 hi => ?_, fun hlt => ?_⟩
    · rw [upd_o _ _ _ (by omega)]
      exact Z i h3 (by omega)
    · by_cases cj : j = r
      · subst cj
        rw [upd_s]
        refine heat_M hn hk ha hb ?_
        unfold heatN
        rw [great_cong (m := m) (fun h hh => Z _ (by omega) (by omega)), ek, e1, e2, show s.1 8 0 0 (101 + j) = nI n from (Z (101 + j) (by omega) (by omega)).trans z4]
      · rw [upd_o _ _ _ (by omega)]
        exact R (by omega)
