/-! the turns of a ring; asking -/
theorem ring_R (M0 M : PM) (g : Nat) (a2 a3 : Int32) {h : Nat} (hh : h < 8) : ∀ (d j : Nat) (c : Nat → Nat → Int32) (m : PM), SA c (zz m) → ∃ c2, lqv (lq (b_X2_takeAsking_1 M0 g (nI h) a2 a3) d j (setS M g c)) = setS M g c2 ∧ SA c2 (zz (ring h d m)) ∧ MC c c2 := by
  intro d
  induction d with
  | zero => intro j c m H; rw [lq_0]; exact ⟨c, rfl, H, mc_refl c⟩
  | succ d ih =>
    intro j c m H
    have hL := loser_R (sa_rgm M m g H) hh
    unfold ring
    by_cases cr : v_X5_isInRing m (nI h) = 0
    · rw [if_pos cr] at hL
      have hb : b_X2_takeAsking_1 M0 g (nI h) a2 a3 j (setS M g c) = .inr (setS M g c) := by
        unfold b_X2_takeAsking_1
        rw [hL, if_neg (fun q => q rfl)]
      rw [lq_r hb, if_pos cr]
      exact ⟨c, rfl, H, mc_refl c⟩
    · obtain ⟨l, hl, el⟩ := loser_in hh cr
      rw [if_neg cr, el] at hL
      obtain ⟨c2, q1, q2, q3, _⟩ := lose_R M0 M m g j (nI h) a2 a3 H hl hL
      have hb : b_X2_takeAsking_1 M0 g (nI h) a2 a3 j (setS M g c) = .inl (setS M g c2) := by
        unfold b_X2_takeAsking_1
        rw [hL, if_pos (nI_nm1 (by omega)), q1]
      rw [lq_l hb, if_neg cr, el, nI_clamp (by omega)]
      obtain ⟨c3, w1, w2, w3⟩ := ih (j + 1) c2 _ q2
      exact ⟨c3, w1, w2, mc_trans q3 w3⟩
/-- how many hands wait -/
def cntW (c : Nat → Nat → Int32) : Nat := cntP (fun h => !decide (c 1 h = -1)) 8
theorem cntP_le (P Q : Nat → Bool) : ∀ N, (∀ h, h < N → P h = true → Q h = true) → cntP P N ≤ cntP Q N := by
  intro N
  induction N with
  | zero => intro _; exact Nat.le_refl _
  | succ N ih =>
    intro h
    unfold cntP
    have k := ih (fun q hq => h q (by omega))
    by_cases c : P N = true
    · rw [if_pos c, if_pos (h N (by omega) c)]; omega
    · rw [if_neg c]; omega
theorem cntP_N (P : Nat → Bool) : ∀ N, cntP P N ≤ N := by
  intro N
  induction N with
  | zero => exact Nat.le_refl _
  | succ N ih => unfold cntP; split <;> omega
theorem cntP_lt (P : Nat → Bool) {h : Nat} (hp : P h = false) : ∀ N, h < N → cntP P N < N := by
  intro N
  induction N with
  | zero => intro q; omega
  | succ N ih =>
    intro hN
    unfold cntP
    by_cases c : h = N
    · subst c
      rw [hp]
      have := cntP_N P h
      simp
      omega
    · have := ih (by omega)
      split <;> omega
theorem cntW_lt {c c2 : Nat → Nat → Int32} (hm : MC c c2) {l : Nat} (hl : l < 8) (h1 : ¬ c 1 l = -1) (h2 : c2 1 l = -1) : cntW c2 < cntW c := by
  unfold cntW
  rw [cntP_rm (fun h => !decide (c 1 h = -1)) l (by simp [h1]) 8, if_pos hl]
  have k := cntP_le (fun h => !decide (c2 1 h = -1)) (fun h => (!decide (c 1 h = -1)) && !decide (h = l)) 8 (fun h hh q => by
    have q : ¬ c2 1 h = -1 := by simpa using q
    have q1 := hm.1 h hh q
    have q2 : ¬ h = l := fun e => by subst e; exact q h2
    simp [q1, q2])
  omega
theorem reach_0 (M : PM) (g : Nat) {c : Nat → Nat → Int32} {h : Nat} (hh : h < 8) (hw : c 1 h = -1) : v_X2_reach (setS M g c) g (nI h) = 0 := by
  have e : v_X2_direct (setS M g c) g (nI h) = 0 := by
    unfold v_X2_direct v_X2_isWaiting
    rw [at_S M g 1 h c (by omega) (show h < 8 from hh), if_pos hw, if_neg (fun q => q rfl)]
  have e2 : ∀ j, lp (b_X2_reach_2 (setS M g c) g (nI h) j 0) 8 0 0 = 0 := by
    intro j
    refine lp_inv (b_X2_reach_2 (setS M g c) g (nI h) j 0) 8 (fun _ s => s = 0) (fun i s hi hs => ?_) 8 0 0 rfl rfl
    unfold b_X2_reach_2
    rw [hs, if_pos ((has_bit (setS M g c) _ (by omega)).mpr (by rw [bit_0]; decide))]
  unfold v_X2_reach
  rw [e]
  have hb : b_X2_reach_1 (setS M g c) g (nI h) 0 0 = .inr 0 := by
    unfold b_X2_reach_1
    rw [e2 0, if_neg (fun q => q rfl)]
  rw [lq_r hb]
  rfl
theorem over_0 {c : Nat → Nat → Int32} {m : PM} (H : SA c (zz m)) {h : Nat} (hh : h < 8) (hw : c 1 h = -1) : v_X5_waitsOver m (nI h) = 0 := by
  rw [← reach_R (sa_rgm m m 0 H) hh]
  exact reach_0 m 0 hh hw
theorem loser_w {c : Nat → Nat → Int32} {m : PM} (H : SA c (zz m)) {h l : Nat} (hh : h < 8) (hl : l < 8) (e : v_X5_loserFor m (nI h) = nI l) : ¬ c 1 l = -1 := by
  have k := lp_inv (b_X5_loserFor_1 m (nI h)) 8 (fun _ s => s = -1 ∨ ∃ l, l < 8 ∧ s = nI l ∧ bit (v_X5_waitsOver m (nI l)) h = true) (fun j s hj hs => by
    unfold b_X5_loserFor_1
    by_cases c1 : (v_X5_waitsOver m (nI h) >>> (nI j &&& (31 : Int32))) &&& (1 : Int32) = 1
    · rw [if_pos c1]
      by_cases c2 : (v_X5_waitsOver m (nI j) >>> (nI h &&& (31 : Int32))) &&& (1 : Int32) = 1
      · rw [if_pos c2]
        have b2 := (bit_q1 (show h < 32 by omega)).mp c2
        split
        · exact Or.inr ⟨j, hj, rfl, b2⟩
        · split
          · exact hs
          · exact Or.inr ⟨j, hj, rfl, b2⟩
      · rw [if_neg c2]; exact hs
    · rw [if_neg c1]; exact hs) 8 0 (-1) rfl (Or.inl rfl)
  intro cw
  rcases k with k | ⟨l2, hl2, k1, k2⟩
  · have e2 : v_X5_loserFor m (nI h) = -1 := k
    rw [e] at e2
    exact nI_nm1 (by omega) e2
  · have e2 : v_X5_loserFor m (nI h) = nI l2 := k1
    rw [e] at e2
    obtain rfl := (nI_eq (by omega) (by omega)).mp e2
    rw [over_0 H hl cw, bit_0] at k2
    exact absurd k2 (by decide)
theorem ring_end {h : Nat} (hh : h < 8) : ∀ (d : Nat) (c : Nat → Nat → Int32) (m : PM), SA c (zz m) → cntW c ≤ d → v_X5_isInRing (ring h d m) (nI h) = 0 := by
  intro d
  induction d with
  | zero =>
    intro c m H hc
    unfold ring
    refine (inRing_bit m hh).mpr ?_
    have hw : c 1 h = -1 := by
      refine Classical.byContradiction fun q => ?_
      have := cntP_rm (fun h => !decide (c 1 h = -1)) h (by simp [q]) 8
      rw [if_pos hh] at this
      unfold cntW at hc
      omega
    rw [over_0 H hh hw, bit_0]
    decide
  | succ d ih =>
    intro c m H hc
    unfold ring
    by_cases cr : v_X5_isInRing m (nI h) = 0
    · rw [if_pos cr]; exact cr
    · obtain ⟨l, hl, el⟩ := loser_in hh cr
      rw [if_neg cr, el, nI_clamp (by omega)]
      have hL := loser_R (sa_rgm m m 0 H) hh
      rw [if_neg cr, el] at hL
      obtain ⟨c2, _, q2, q3, q4⟩ := lose_R m m m 0 0 (nI h) 0 0 H hl hL
      have := cntW_lt q3 hl (loser_w H hh hl el) q4
      exact ih c2 _ q2 (by omega)
theorem row_cnt {rr rm rp z : Nat → Int32} (H : RQ rr rm rp z) {r n : Nat} (hr : r < 12) (en : z (125 + r) = nI n) (hn : n ≤ 8) : cntP (fun h => decide (rr h = nI r)) 8 = n := by
  obtain ⟨n2, hn2, en2, kn⟩ := H.1 r hr
  rw [en] at en2
  obtain rfl := (nI_eq (by omega) (by omega)).mp en2
  refine cntP_n 8 n _ (fun p => (z (137 + 8 * r + p)).toNatClampNeg) (fun p hp => ?_) (fun p q hp hq e => ?_) (fun h hh hP => ?_)
  · obtain ⟨h, hh, f1, f2, _⟩ := kn p hp
    have e : (z (137 + 8 * r + p)).toNatClampNeg = h := by rw [f1]; exact nI_clamp (by omega)
    show (z (137 + 8 * r + p)).toNatClampNeg < 8 ∧ _
    rw [e]
    exact ⟨hh, decide_eq_true f2⟩
  · obtain ⟨h, hh, f1, f2, f3, _⟩ := kn p hp
    obtain ⟨h2, hh2, g1, g2, g3, _⟩ := kn q hq
    have e : (z (137 + 8 * r + p)).toNatClampNeg = (z (137 + 8 * r + q)).toNatClampNeg := e
    rw [f1, g1, nI_clamp (by omega), nI_clamp (by omega)] at e
    subst e
    rw [f3] at g3
    exact (nI_eq (by omega) (by omega)).mp g3
  · have hP : rr h = nI r := of_decide_eq_true hP
    rcases H.2 h hh with ⟨a, _⟩ | ⟨r2, n2, p2, h1, h2, h3, h4, h5, h6, h7⟩
    · rw [hP] at a; exact absurd a (nI_nm1 (by omega))
    · rw [hP] at h5
      obtain rfl := (nI_eq (by omega) (by omega)).mp h5
      rw [en] at h2
      obtain rfl := (nI_eq (by omega) (by omega)).mp h2
      refine ⟨p2, h4, ?_⟩
      show (z (137 + 8 * r + p2)).toNatClampNeg = h
      rw [h7]
      exact nI_clamp (by omega)
theorem row_lt {rr rm rp z : Nat → Int32} (H : RQ rr rm rp z) {h r n : Nat} (hh : h < 8) (hr : r < 12) (en : z (125 + r) = nI n) (hn : n ≤ 8) (hw : rr h = -1) : n < 8 := by
  have k := row_cnt H hr en hn
  have k2 := cntP_lt (fun h => decide (rr h = nI r)) (h := h) (decide_eq_false (by rw [hw]; exact fun q => nI_nm1 (show r < 2 ^ 31 by omega) q.symm)) 8 hh
  omega
/-- behind asking: counts of asking may be one more -/
def AK (c c2 : Nat → Nat → Int32) : Prop := (∀ K, CN c K → CN c2 (K + 1)) ∧ ∀ k, k = 4 ∨ k = 6 ∨ k = 10 ∨ k = 11 → c2 k = c k
theorem takeAsking_R (M m : PM) (g : Nat) {c : Nat → Nat → Int32} (H : SA c (zz m)) {h r : Nat} {md : Int32} (hh : h < 8) (hr : r < 12) (hm : MO md) (hw : c 1 h = -1) : v_X2_takeAsking (setS M g c) g (nI h) (nI r) md = v_X5_asks m h r md ∧ (∃ c2, w_X2_takeAsking (setS M g c) g (nI h) (nI r) md = setS M g c2 ∧ SA c2 (zz (w_X5_asks m h r md)) ∧ AK c c2) ∧ qn m r < 8 ∧ (v_X5_lockOf (askA m h) h r < md → v_X5_isInRing (askR m h r md) (nI h) = 0) := by
  -- the count of asking
  have A := sa_raise H (k := 9) (i := h) (by omega) (by omega) (by omega) (show h < 8 from hh) (c 9 h + 1)
  have eA : zz (askA m h) = upd (zz m) (zof 9 + h) (c 9 h + 1) := by
    unfold askA
    rw [zz_wI, H.2.2.1.1 9 h (by omega) (by omega) (show h < 8 from hh)]
    rfl
  rw [← eA] at A
  have w1 : up2 c 9 h (c 9 h + 1) 1 h = -1 := by rw [up2_o _ _ _ _ (by decide)]; exact hw
  have eR := raise_S M g 9 h c (by omega) (show h < 8 from hh)
  have aA : ∀ K, CN c K → CN (up2 c 9 h (c 9 h + 1)) (K + 1) ∧ ∃ a q : Nat, up2 c 9 h (c 9 h + 1) 9 h = nI a ∧ up2 c 9 h (c 9 h + 1) 8 h = nI q ∧ q + 1 ≤ a ∧ a ≤ K + 1 := by
    intro K hK
    have e9 : ∀ i, up2 c 9 h (c 9 h + 1) 9 i = if i = h then c 9 h + 1 else c 9 i := by
      intro i
      unfold up2
      by_cases q : i = h
      · rw [if_pos ⟨rfl, q⟩, if_pos q]
      · rw [if_neg (fun k => q k.2), if_neg q]
    have e8 : up2 c 9 h (c 9 h + 1) 8 = c 8 := up2_o _ _ _ _ (by decide)
    have e1 : up2 c 9 h (c 9 h + 1) 1 = c 1 := up2_o _ _ _ _ (by decide)
    refine ⟨fun i hi => ?_, ?_⟩
    · obtain ⟨a, q, b1, b2, b3, b4⟩ := hK i hi
      rw [e9, e8, e1]
      by_cases k : i = h
      · subst k
        exact ⟨a + 1, q, by rw [if_pos rfl, b1, nI_1], b2, by omega, by omega⟩
      · exact ⟨a, q, by rw [if_neg k]; exact b1, b2, b3, by omega⟩
    · obtain ⟨a, q, b1, b2, b3, b4⟩ := hK h hh
      rw [e9, e8, if_pos rfl]
      exact ⟨a + 1, q, by rw [b1, nI_1], b2, by omega, by omega⟩
  obtain ⟨n, hn, en, kn⟩ := A.2.1.1 r hr
  have n8 : n < 8 := row_lt A.2.1 hh hr en hn w1
  have en0 : zz m (125 + r) = nI n := by rw [eA, show zof 9 + h = 353 + h from rfl, upd_o _ _ _ (show ¬ 125 + r = 353 + h by omega)] at en; exact en
  have eq0 : qn m r = n := qn_of en0 hn
  have eq : qn (askA m h) r = n := qn_of en hn
  have eL : v_X5_lockOf (askA m h) h r = c 0 (h * 12 + r) := by
    have k := (A.1 h r hh hr).1
    rw [up2_o _ _ _ _ (by decide)] at k
    exact k.symm
  -- the request
  have pl := plz_le (zz (askA m h)) r h n
  have B : SA (enC (up2 c 9 h (c 9 h + 1)) h r md (plz (zz (askA m h)) r h n)) (zz (w_X5_enqueue (askA m h) r h md)) := by
    unfold w_X5_enqueue
    rw [zz_setz, eq]
    refine ⟨?_, rq_en A.2.1 hh hr en n8 pl hm w1, ?_, hf_en A.2.2.2 A.2.1 hh hr en n8 w1⟩
    · rw [enC_o _ _ _ _ _ _ (by decide) (by decide) (by decide)]
      exact rk_z A.1 (fun i a b => enz_lo _ hr n8 pl (by omega))
    · exact sc_c (c := up2 c 9 h (c 9 h + 1)) (sc_z A.2.2.1 (fun i a => enz_lo _ hr n8 pl (by omega))) (fun k a => enC_o _ _ _ _ _ _ (by omega) (by omega) (by omega))
  have eE := enqueue_S M g h r _ md (up2 c 9 h (c 9 h + 1)) hh (plS_A M g A hh hr en hn)
  obtain ⟨_, c3, s1, s2, s3, _⟩ := settle_R M (w_X5_enqueue (askA m h) r h md) g hr B
  have s2 : SA c3 (zz (askC m h r md)) := s2
  obtain ⟨c4, t1, t2, t3⟩ := ring_R (setS M g c) M g (nI r) md hh 8 0 c3 _ s2
  have t2 : SA c4 (zz (askR m h r md)) := t2
  have aB : ∀ K, CN c K → CN (enC (up2 c 9 h (c 9 h + 1)) h r md (plz (zz (askA m h)) r h n)) (K + 1) := by
    intro K hK i hi
    obtain ⟨k1, a, q, b1, b2, b3, b4⟩ := aA K hK
    rw [enC_o _ _ _ _ _ _ (by decide) (by decide) (by decide), enC_o _ _ _ _ _ _ (by decide) (by decide) (by decide), enC_1]
    by_cases k : i = h
    · subst k
      rw [if_pos rfl, if_neg (nI_nm1 (by omega))]
      exact ⟨a, q, b1, b2, b3, b4⟩
    · rw [if_neg k]; exact k1 i hi
  unfold v_X2_takeAsking w_X2_takeAsking v_X5_asks w_X5_asks
  rw [eR, cell_in, at_S M g 0 (h * 12 + r) _ (by omega) (show h * 12 + r < 96 by omega), up2_o _ _ _ _ (show ¬ 0 = 9 by decide), eL, eE, s1, t1, eq0]
  refine ⟨?_, ?_, n8, fun _ => ring_end hh 8 c3 _ s2 (cntP_N _ 8)⟩
  · by_cases c0 : c 0 (h * 12 + r) < md
    · rw [if_pos c0, if_pos c0, cell_in, at_S M g 0 (h * 12 + r) _ (by omega) (show h * 12 + r < 96 by omega), (t2.1 h r hh hr).1, ← waits_R (M := setS M g c4) (m := askR m h r md) (g := g) (rm := c4 2) (rp := c4 3) (by rw [cl_setS M g 1 c4 (by omega)]; exact t2.2.1) hh]
      rfl
    · rw [if_neg c0, if_neg c0]
  · by_cases c0 : c 0 (h * 12 + r) < md
    · rw [if_pos c0, if_pos c0]
      refine ⟨c4, rfl, t2, fun K hK => t3.2.1 _ (s3.2.1 _ (aB K hK)), fun k hk => ?_⟩
      rw [t3.2.2 k hk, s3.2.2 k hk, enC_o _ _ _ _ _ _ (by omega) (by omega) (by omega), up2_o _ _ _ _ (by omega)]
    · rw [if_neg c0, if_neg c0, raise_S M g 8 h _ (by omega) (show h < 8 from hh)]
      have D := sa_raise A (k := 8) (i := h) (by omega) (by omega) (by omega) (show h < 8 from hh) (up2 c 9 h (c 9 h + 1) 8 h + 1)
      refine ⟨_, rfl, ?_, fun K hK => ?_, fun k hk => ?_⟩
      · rw [zz_wI]
        have e8 := A.2.2.1.1 8 h (by omega) (by omega) (show h < 8 from hh)
        rw [show (askA m h).1 8 0 0 (345 + h) = up2 c 9 h (c 9 h + 1) 8 h from e8.symm]
        exact D
      · intro i hi
        obtain ⟨k1, a, q, b1, b2, b3, b4⟩ := aA K hK
        rw [up2_o _ _ _ _ (show ¬ 9 = 8 by decide), up2_o (up2 c 9 h (c 9 h + 1)) _ _ _ (show ¬ 1 = 8 by decide)]
        by_cases k : i = h
        · subst k
          refine ⟨a, q + 1, b1, ?_, ?_, b4⟩
          · unfold up2 at b2 ⊢
            rw [if_pos ⟨rfl, rfl⟩, b2, nI_1]
          · rw [w1, if_pos rfl]; omega
        · obtain ⟨a2, q2, d1, d2, d3, d4⟩ := k1 i hi
          refine ⟨a2, q2, d1, ?_, d3, d4⟩
          rw [← d2]
          show up2 _ 8 h _ 8 i = _
          unfold up2
          rw [if_neg (fun u => k u.2)]
      · rw [up2_o _ _ _ _ (by omega), up2_o _ _ _ _ (by omega)]

