/-! burnt hands, and the whole tick -/
theorem cntP_s (P : Nat → Bool) (N : Nat) : cntP P (N + 1) = cntP P N + (if P N then 1 else 0) := rfl
/-- as far as hand j, in class (x, s) and model (y, t) -/
def BR (M m : PM) (g r : Nat) (c : Nat → Nat → Int32) (j : Nat) (s t : Int32 × PM) : Prop := s.1 = t.1 ∧ s.1 = nI (cntP (fun h => !decide (zz m (5 + 12 * h + r) ≤ 0)) j) ∧ ∃ c2, s.2 = setS M g c2 ∧ RK (c2 0) (zz t.2) ∧ (∀ k i, 4 ≤ k → k ≤ 10 → i < nlen k → c2 k i = zz t.2 (zof k + i)) ∧ (∀ k, ¬ k = 0 → ¬ k = 6 → c2 k = c k) ∧ bsum (c2 6) = bsum (c 6) + s.1 ∧ (∀ i, i < 5 ∨ (125 ≤ i ∧ i < 329) → zz t.2 i = zz m i) ∧ ∀ h r', h < 8 → r' < 12 → zz t.2 (5 + 12 * h + r') = if r' = r ∧ h < j then 0 else zz m (5 + 12 * h + r')
theorem burn_R (M0 M m : PM) (g : Nat) {r : Nat} (hr : r < 12) {c : Nat → Nat → Int32} (H : SA c (zz m)) : BR M m g r c 8 (lp (b_X2_burn_1 M0 g (nI r)) 8 0 ((0 : Int32), setS M g c)) (lp (b_X5_burn_1 m r) 8 0 ((0 : Int32), m)) := by
  refine lp_rel (b_X2_burn_1 M0 g (nI r)) (b_X5_burn_1 m r) 8 (BR M m g r c) (fun j s t hj hs => ?_) 8 0 _ _ rfl ⟨rfl, rfl, c, rfl, H.1, H.2.2.1.1, fun _ _ _ => rfl, (Int32.add_zero _).symm, fun _ _ => rfl, fun h r' _ _ => by rw [if_neg (by omega)]⟩
  obtain ⟨x, s⟩ := s
  obtain ⟨y, t⟩ := t
  obtain ⟨e1, e2, c2, e3, K, C, E, S, Z, L⟩ := hs
  change x = y at e1
  change x = nI (cntP (fun h => !decide (zz m (5 + 12 * h + r) ≤ 0)) j) at e2
  change s = setS M g c2 at e3
  change RK (c2 0) (zz t) at K
  change ∀ k i, 4 ≤ k → k ≤ 10 → i < nlen k → c2 k i = zz t (zof k + i) at C
  change bsum (c2 6) = bsum (c 6) + x at S
  change ∀ i, i < 5 ∨ (125 ≤ i ∧ i < 329) → zz t i = zz m i at Z
  change ∀ h r', h < 8 → r' < 12 → zz t (5 + 12 * h + r') = if r' = r ∧ h < j then 0 else zz m (5 + 12 * h + r') at L
  subst e1
  subst e3
  have lj := L j r hj hr
  rw [if_neg (by omega)] at lj
  have kj := (K j r hj hr).1
  have eM : v_X5_lockOf t j r = zz t (5 + 12 * j + r) := rfl
  unfold BR b_X2_burn_1 b_X5_burn_1
  dsimp only
  rw [cell_in, at_S M g 0 (j * 12 + r) c2 (by omega) (show j * 12 + r < 96 by omega), kj, eM]
  by_cases cc : zz t (5 + 12 * j + r) ≤ 0
  · simp only [if_pos cc]
    refine ⟨trivial, ?_, c2, rfl, K, C, E, S, Z, fun h r' hh hr' => ?_⟩
    · rw [e2, cntP_s, ← lj, decide_eq_true cc]
      rfl
    · rw [L h r' hh hr']
      by_cases q : r' = r ∧ h = j
      · obtain ⟨rfl, rfl⟩ := q
        rw [if_neg (by omega), if_pos (by omega), ← lj]
        exact mo_0 (K h r' hh hr').2 cc
      · by_cases q2 : r' = r ∧ h < j
        · rw [if_pos q2, if_pos (by omega)]
        · rw [if_neg q2, if_neg (by omega)]
  · simp only [if_neg cc]
    have b6 : c2 6 j = zz t (329 + j) := C 6 j (by omega) (by omega) (show j < 8 from hj)
    have eS : w_X1_raise (w_X1_put (setS M g c2) 0 g (nI (j * 12 + r)) 0) 6 g (nI j) = setS M g (up2 (up2 c2 0 (j * 12 + r) 0) 6 j (c2 6 j + 1)) := by
      rw [put_S M g 0 (j * 12 + r) c2 _ (by omega) (show j * 12 + r < 96 by omega), raise_S M g 6 j _ (by omega) (show j < 8 from hj), up2_o _ _ _ _ (show ¬ 6 = 0 by decide)]
    have eZ : zz (wI (w_X5_setLock t j r 0) 8 0 0 (329 + j) ((w_X5_setLock t j r 0).1 8 0 0 (329 + j) + 1)) = upd (upd (zz t) (5 + 12 * j + r) 0) (329 + j) (c2 6 j + 1) := by
      have k : (w_X5_setLock t j r 0).1 8 0 0 (329 + j) = zz t (329 + j) := by
        have q := congrFun (zz_setLock t j r 0) (329 + j)
        rw [upd_o _ _ _ (by omega)] at q
        exact q
      rw [zz_wI, zz_setLock, k, b6]
    rw [eS, eZ]
    refine ⟨trivial, ?_, _, rfl, ?_, fun k i h4 h10 hi => ?_, fun k h0 h6 => ?_, ?_, fun i hi => ?_, fun h r' hh hr' => ?_⟩
    · rw [e2, nI_1, cntP_s, ← lj, decide_eq_false cc]
      rfl
    · rw [up2_o _ _ _ _ (show ¬ 0 = 6 by decide)]
      exact rk_z (rk_up K hr (Or.inl rfl)) (fun i a b => upd_o _ _ _ (by omega))
    · have hz := zof_in h4 h10 hi
      unfold up2 upd
      by_cases q : k = 6 ∧ i = j
      · obtain ⟨rfl, rfl⟩ := q
        rw [if_pos ⟨rfl, rfl⟩, if_pos (show zof 6 + i = 329 + i from rfl)]
      · rw [if_neg q, if_neg (by omega), if_neg (show ¬ zof k + i = 329 + j from fun u => q (zof_inj (k := 6) (i := j) (by omega) (by omega) (show j < 8 from hj) h4 h10 hi u)), if_neg (by omega)]
        exact C k i h4 h10 hi
    · rw [up2_o _ _ _ _ h6, up2_o _ _ _ _ h0]
      exact E k h0 h6
    · rw [bsum_up (c2 6) hj _ (fun i => by
        unfold up2
        by_cases q : i = j
        · rw [if_pos ⟨rfl, q⟩, if_pos q]
        · rw [if_neg (fun u => q u.2), if_neg q, if_neg (by omega)]), S]
      exact Int32.add_assoc _ _ _
    · rw [upd_o _ _ _ (by omega), upd_o _ _ _ (by omega)]
      exact Z i hi
    · rw [upd_o _ _ _ (by omega)]
      by_cases q : r' = r ∧ h = j
      · obtain ⟨rfl, rfl⟩ := q
        rw [upd_s, if_pos (by omega)]
      · rw [upd_o _ _ _ (by omega), L h r' hh hr']
        by_cases q2 : r' = r ∧ h < j
        · rw [if_pos q2, if_pos (by omega)]
        · rw [if_neg q2, if_neg (by omega)]
/-- a row's locks are burnt -/
theorem burn_A (M0 M m : PM) (g : Nat) {r : Nat} (hr : r < 12) {c : Nat → Nat → Int32} (H : SA c (zz m)) : (lp (b_X2_burn_1 M0 g (nI r)) 8 0 ((0 : Int32), setS M g c)).1 = v_X5_burn m r ∧ v_X5_burn m r = nI (cntP (fun h => !decide (zz m (5 + 12 * h + r) ≤ 0)) 8) ∧ ∃ c2, (lp (b_X2_burn_1 M0 g (nI r)) 8 0 ((0 : Int32), setS M g c)).2 = setS M g c2 ∧ SA c2 (zz (w_X5_burn m r)) ∧ (∀ k, ¬ k = 0 → ¬ k = 6 → c2 k = c k) ∧ zz (w_X5_burn m r) 4 = zz m 4 + v_X5_burn m r := by
  obtain ⟨e1, e2, c2, e3, K, C, E, S, Z, L⟩ := burn_R M0 M m g hr H
  have e4 : zz (w_X5_burn m r) = upd (zz (lp (b_X5_burn_1 m r) 8 0 ((0 : Int32), m)).2) 4 (zz m 4 + v_X5_burn m r) := by
    unfold w_X5_burn
    rw [zz_wI]
    rw [show (lp (b_X5_burn_1 m r) 8 0 ((0 : Int32), m)).2.1 8 0 0 4 = zz m 4 from Z 4 (by omega)]
    rfl
  have e2' : v_X5_burn m r = nI (cntP (fun h => !decide (zz m (5 + 12 * h + r) ≤ 0)) 8) := e1.symm.trans e2
  refine ⟨e1, e2', c2, e3, ?_, E, ?_⟩
  · rw [e4]
    refine ⟨rk_z K (fun i a b => upd_o _ _ _ (by omega)), ?_, ⟨fun k i h4 h10 hi => ?_, ?_, ?_⟩, ?_⟩
    · rw [E 1 (by omega) (by omega), E 2 (by omega) (by omega), E 3 (by omega) (by omega)]
      refine rq_z H.2.1 (fun i a b => ?_)
      rw [upd_o _ _ _ (by omega)]
      exact Z i (by omega)
    · have hz := zof_in h4 h10 hi
      rw [upd_o _ _ _ (by omega)]
      exact C k i h4 h10 hi
    · rw [upd_o _ _ _ (by omega), Z 3 (by omega), E 11 (by omega) (by omega)]
      exact H.2.2.1.2.1
    · rw [upd_s, S, H.2.2.1.2.2]
      rw [e1]
      rfl
    · intro r2 n p q hr2 hn h8 hpq hq
      have Z2 : ∀ i, 125 ≤ i → i < 329 → upd (zz (lp (b_X5_burn_1 m r) 8 0 ((0 : Int32), m)).2) 4 (zz m 4 + v_X5_burn m r) i = zz m i := fun i a b => by rw [upd_o _ _ _ (by omega)]; exact Z i (by omega)
      rw [Z2 _ (by omega) (by omega)] at hn
      obtain ⟨n2, hn2, en2, kn⟩ := H.2.1.1 r2 hr2
      rw [hn] at en2
      obtain rfl := (nI_eq (by omega) (by omega)).mp en2
      have V : ∀ a, a < n → lkz (upd (zz (lp (b_X5_burn_1 m r) 8 0 ((0 : Int32), m)).2) 4 (zz m 4 + v_X5_burn m r)) r2 a = if r2 = r then 0 else lkz (zz m) r2 a := by
        intro a ha
        obtain ⟨h0, a1, a2, _⟩ := kn a ha
        rw [lkz_h a1 a2, lkz_h a1 (by rw [Z2 _ (by omega) (by omega)]; exact a2), upd_o _ _ _ (by omega), L h0 r2 a1 hr2]
        by_cases k : r2 = r
        · rw [if_pos ⟨k, a1⟩, if_pos k]
        · rw [if_neg (fun u => k u.1), if_neg k]
      rw [V q hq, V p (by omega)]
      by_cases k : r2 = r
      · rw [if_pos k, if_pos k]; exact fun u => absurd (by decide) u
      · rw [if_neg k, if_neg k]; exact H.2.2.2 r2 n p q hr2 hn h8 hpq hq
  · rw [e4, upd_s]
theorem tick_2R (M0 M m : PM) (g : Nat) {c : Nat → Nat → Int32} (H : SA c (zz m)) (B : BC c) : ∃ c2, (lp (b_X2_tick_2 M0 g) 12 0 ((0 : Int32), setS M g c)).2 = setS M g c2 ∧ SA c2 (zz (lp b_X5_tick_2 12 0 ((0 : Int32), m)).2) ∧ BC c2 ∧ (∀ K, CN c K → CN c2 K) ∧ (lp (b_X2_tick_2 M0 g) 12 0 ((0 : Int32), setS M g c)).1 = zz (lp b_X5_tick_2 12 0 ((0 : Int32), m)).2 4 - zz m 4 := by
  refine lp_rel (b_X2_tick_2 M0 g) b_X5_tick_2 12 (fun _ s t => ∃ c2, s.2 = setS M g c2 ∧ SA c2 (zz t.2) ∧ BC c2 ∧ (∀ K, CN c K → CN c2 K) ∧ s.1 = zz t.2 4 - zz m 4) (fun j s t hj hs => ?_) 12 0 _ _ rfl ⟨c, rfl, H, B, fun _ k => k, (Int32.sub_self _).symm⟩
  obtain ⟨x, s⟩ := s
  obtain ⟨y, t⟩ := t
  obtain ⟨c2, e1, S, B2, N, e2⟩ := hs
  change s = setS M g c2 at e1
  change SA c2 (zz t) at S
  change x = zz t 4 - zz m 4 at e2
  subst e1
  have b4 := S.2.2.1.1 4 j (by omega) (by omega) (show j < 12 from hj)
  have b0 := S.2.2.1.1 10 0 (by omega) (by omega) (show 0 < 3 by omega)
  unfold b_X2_tick_2 b_X5_tick_2 tickV tickW
  dsimp only
  rw [at_S M g 4 j c2 (by omega) (show j < 12 from hj), show v_X1_at (setS M g c2) 10 g (0 : Int32) = c2 10 0 from at_S M g 10 0 c2 (by omega) (show 0 < 3 by omega), show t.1 8 0 0 (101 + j) = c2 4 j from b4.symm, show t.1 8 0 0 0 = c2 10 0 from b0.symm]
  by_cases cc : c2 4 j ≤ c2 10 0
  · simp only [if_pos cc, if_pos (show (0 : Int32) ≤ 0 by decide)]
    exact ⟨c2, rfl, S, B2, N, e2⟩
  · simp only [if_neg cc]
    obtain ⟨f1, f2, c3, f3, S3, E3, f4⟩ := burn_A (setS M g c2) M t g hj S
    have N3 : ∀ K, CN c2 K → CN c3 K := fun K k => ec_cn ⟨E3 1 (by omega) (by omega), E3 8 (by omega) (by omega), E3 9 (by omega) (by omega)⟩ k
    have B3 : BC c3 := bc_c B2 (E3 4 (by omega) (by omega)) (E3 10 (by omega) (by omega))
    unfold v_X2_burn w_X2_burn
    rw [f1, f3]
    have e5 : x + v_X5_burn t j = zz (w_X5_burn t j) 4 - zz m 4 := by
      rw [f4, e2]
      grind
    by_cases c0 : v_X5_burn t j ≤ 0
    · rw [if_pos c0, if_pos c0]
      exact ⟨c3, rfl, S3, B3, fun K k => N3 K (N K k), e5⟩
    · rw [if_neg c0, if_neg c0]
      obtain ⟨_, c4, q2, q3, q4, _⟩ := settle_R M (w_X5_burn t j) g hj S3
      refine ⟨c4, q2, q3, bc_c B3 (q4.2.2 4 (by omega)) (q4.2.2 10 (by omega)), fun K k => q4.2.1 K (N3 K (N K k)), ?_⟩
      rw [e5]
      have z4 := q3.2.2.1.2.2
      rw [q4.2.2 6 (by omega), ← S3.2.2.1.2.2] at z4
      rw [z4]
theorem tick_R (M m : PM) (g : Nat) {c : Nat → Nat → Int32} (H : SA c (zz m)) (B : BC c) : ∃ c2, w_X2_tick (setS M g c) g = setS M g c2 ∧ SA c2 (zz (w_X5_tick m)) ∧ BC c2 ∧ (∀ K, CN c K → CN c2 K) ∧ v_X2_tick (setS M g c) g = zz (w_X5_tick m) 4 - zz m 4 := by
  obtain ⟨c1, e1, S1, B1, E1, z1⟩ := tick_1R (setS M g c) M m g H B
  obtain ⟨c2, e2, S2, B2, N2, e3⟩ := tick_2R (setS M g c) M (tick_1 m) g S1 B1
  unfold w_X2_tick v_X2_tick
  rw [tk_S, wT_S, e1]
  refine ⟨c2, e2, S2, B2, fun K k => N2 K (ec_cn E1 k), ?_⟩
  rw [e3, z1]
  rfl

