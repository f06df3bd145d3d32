/-! the relation of a state's numbers c and the model's row z -/
theorem up2_o (c : Nat → Nat → Int32) (k i : Nat) (x : Int32) {k2 : Nat} (h : ¬ k2 = k) : up2 c k i x k2 = c k2 := by
  funext j
  unfold up2
  rw [if_neg (fun q => h q.1)]
theorem upd_o (z : Nat → Int32) (i : Nat) (v : Int32) {j : Nat} (h : ¬ j = i) : upd z i v j = z j := by unfold upd; rw [if_neg h]
theorem upd_s (z : Nat → Int32) (i : Nat) (v : Int32) : upd z i v i = v := by unfold upd; rw [if_pos rfl]
def zof (k : Nat) : Nat := match k with
  | 4 => 101 | 5 => 113 | 6 => 329 | 7 => 337 | 8 => 345 | 9 => 353 | _ => 0
/-- heat, counts, settings -/
def bsum (f : Nat → Int32) : Int32 := lp (fun j s => s + f j) 8 0 0
def SC (c : Nat → Nat → Int32) (z : Nat → Int32) : Prop := (∀ k i, 4 ≤ k → k ≤ 10 → i < nlen k → c k i = z (zof k + i)) ∧ c 11 0 = z 3 ∧ z 4 = bsum (c 6)
theorem k_10 {k : Nat} (h4 : 4 ≤ k) (h10 : k ≤ 10) : k = 4 ∨ k = 5 ∨ k = 6 ∨ k = 7 ∨ k = 8 ∨ k = 9 ∨ k = 10 := by omega
theorem zof_in {k i : Nat} (h4 : 4 ≤ k) (h10 : k ≤ 10) (hi : i < nlen k) : zof k + i < 3 ∨ (101 ≤ zof k + i ∧ zof k + i < 125) ∨ (329 ≤ zof k + i ∧ zof k + i < 361) := by
  rcases k_10 h4 h10 with rfl | rfl | rfl | rfl | rfl | rfl | rfl <;> (simp only [zof, nlen] at hi ⊢; omega)
theorem zof_inj {k i k2 i2 : Nat} (h4 : 4 ≤ k) (h10 : k ≤ 10) (hi : i < nlen k) (g4 : 4 ≤ k2) (g10 : k2 ≤ 10) (hi2 : i2 < nlen k2) (e : zof k2 + i2 = zof k + i) : k2 = k ∧ i2 = i := by
  rcases k_10 h4 h10 with rfl | rfl | rfl | rfl | rfl | rfl | rfl <;> rcases k_10 g4 g10 with rfl | rfl | rfl | rfl | rfl | rfl | rfl <;> (simp only [zof, nlen] at hi hi2 e) <;> refine ⟨?_, ?_⟩ <;> omega
theorem sc_raise {c : Nat → Nat → Int32} {z : Nat → Int32} (H : SC c z) {k i : Nat} (h4 : 4 ≤ k) (h6 : ¬ k = 6) (h10 : k ≤ 10) (hi : i < nlen k) (x : Int32) : SC (up2 c k i x) (upd z (zof k + i) x) := by
  have hz := zof_in h4 h10 hi
  refine ⟨fun k2 i2 g4 g10 hi2 => ?_, ?_, ?_⟩
  · unfold up2 upd
    by_cases q : k2 = k ∧ i2 = i
    · obtain ⟨rfl, rfl⟩ := q
      rw [if_pos ⟨rfl, rfl⟩, if_pos rfl]
    · rw [if_neg q, if_neg (fun e => q (zof_inj h4 h10 hi g4 g10 hi2 e))]
      exact H.1 k2 i2 g4 g10 hi2
  · rw [upd_o _ _ _ (by omega), up2_o _ _ _ _ (by omega)]
    exact H.2.1
  · rw [upd_o _ _ _ (by omega), up2_o _ _ _ _ (by omega)]
    exact H.2.2
theorem sc_z {c : Nat → Nat → Int32} {z z2 : Nat → Int32} (H : SC c z) (e : ∀ i, i < 5 ∨ (101 ≤ i ∧ i < 125) ∨ (329 ≤ i ∧ i < 361) → z2 i = z i) : SC c z2 := by
  refine ⟨fun k i h4 h10 hi => ?_, ?_, ?_⟩
  · rw [e _ (by have := zof_in h4 h10 hi; omega)]
    exact H.1 k i h4 h10 hi
  · rw [e 3 (by omega)]; exact H.2.1
  · rw [e 4 (by omega)]; exact H.2.2
theorem sc_c {c c2 : Nat → Nat → Int32} {z : Nat → Int32} (H : SC c z) (e : ∀ k, 4 ≤ k → c2 k = c k) : SC c2 z := by
  refine ⟨fun k i h4 h10 hi => ?_, ?_, ?_⟩
  · rw [e k h4]
    exact H.1 k i h4 h10 hi
  · rw [e 11 (by omega)]; exact H.2.1
  · rw [e 6 (by omega)]; exact H.2.2
theorem rk_z {lk z z2 : Nat → Int32} (H : RK lk z) (e : ∀ i, 5 ≤ i → i < 101 → z2 i = z i) : RK lk z2 := by
  intro h r hh hr
  rw [e (5 + 12 * h + r) (by omega) (by omega)]
  exact H h r hh hr
theorem rk_up {c : Nat → Nat → Int32} {z : Nat → Int32} (H : RK (c 0) z) {h r : Nat} (hr : r < 12) {v : Int32} (hv : v = 0 ∨ MO v) : RK (up2 c 0 (h * 12 + r) v 0) (upd z (5 + 12 * h + r) v) := by
  intro h2 r2 hh2 hr2
  unfold up2 upd
  by_cases q : h2 * 12 + r2 = h * 12 + r
  · obtain rfl : h2 = h := by omega
    obtain rfl : r2 = r := by omega
    rw [if_pos ⟨rfl, rfl⟩, if_pos rfl]
    exact ⟨rfl, hv⟩
  · rw [if_neg (fun k => q k.2), if_neg (fun k => q (by omega))]
    exact H h2 r2 hh2 hr2
theorem rq_z {a b d z z2 : Nat → Int32} (H : RQ a b d z) (e : ∀ i, 125 ≤ i → i < 329 → z2 i = z i) : RQ a b d z2 := by
  refine ⟨fun r hr => ?_, fun h hh => ?_⟩
  · obtain ⟨n, hn, e1, k⟩ := H.1 r hr
    refine ⟨n, hn, by rw [e _ (by omega) (by omega)]; exact e1, fun p hp => ?_⟩
    obtain ⟨h0, a1, a2, a3, a4, a5, a6⟩ := k p hp
    exact ⟨h0, a1, by rw [e _ (by omega) (by omega)]; exact a2, a3, a4, by rw [e _ (by omega) (by omega)]; exact a5, a6⟩
  · rcases H.2 h hh with q | ⟨r, n, p, h1, h2, h3, h4, h5, h6, h7⟩
    · exact Or.inl q
    · exact Or.inr ⟨r, n, p, h1, by rw [e _ (by omega) (by omega)]; exact h2, h3, h4, h5, h6, by rw [e _ (by omega) (by omega)]; exact h7⟩
/-- no hand stands at two places -/
theorem who_ne {rr rm rp z : Nat → Int32} (H : RQ rr rm rp z) {h r p r2 n2 q : Nat} (hr : r < 12) (hp : p < 8) (e1 : rr h = nI r) (e2 : rp h = nI p) (hr2 : r2 < 12) (hn2 : z (125 + r2) = nI n2) (h8 : n2 ≤ 8) (hq : q < n2) (hne : ¬ (r2 = r ∧ q = p)) : ∃ h2, h2 < 8 ∧ z (137 + 8 * r2 + q) = nI h2 ∧ rr h2 = nI r2 ∧ rp h2 = nI q ∧ rm h2 = z (233 + 8 * r2 + q) ∧ MO (rm h2) ∧ ¬ h2 = h := by
  obtain ⟨n, hn, e, k⟩ := H.1 r2 hr2
  rw [hn2] at e
  obtain rfl := (nI_eq (by omega) (by omega)).mp e
  obtain ⟨h2, a1, a2, a3, a4, a5, a6⟩ := k q hq
  refine ⟨h2, a1, a2, a3, a4, a5, a6, fun c => hne ?_⟩
  subst c
  rw [e1] at a3
  rw [e2] at a4
  exact ⟨((nI_eq (by omega) (by omega)).mp a3).symm, ((nI_eq (by omega) (by omega)).mp a4).symm⟩
theorem dqC_o (c : Nat → Nat → Int32) (h k : Nat) (h1 : ¬ k = 1) (h2 : ¬ k = 2) (h3 : ¬ k = 3) : dqC c h k = c k := by
  funext i
  unfold dqC dqJ
  rw [if_neg (fun q => h1 q.1), if_neg (fun q => h2 q.1), if_neg (fun q => h3 q.1)]
theorem dqC_1 (c : Nat → Nat → Int32) (h i : Nat) : dqC c h 1 i = if i = h then -1 else c 1 i := by
  unfold dqC dqJ
  by_cases q : i = h
  · rw [if_pos ⟨rfl, q⟩, if_pos q]
  · rw [if_neg (fun k => q k.2), if_neg (by omega), if_neg (by omega), if_neg q]
theorem dqC_2 (c : Nat → Nat → Int32) (h i : Nat) : dqC c h 2 i = if i = h then 0 else c 2 i := by
  unfold dqC dqJ
  by_cases q : i = h
  · rw [if_neg (by omega), if_pos ⟨rfl, q⟩, if_pos q]
  · rw [if_neg (by omega), if_neg (fun k => q k.2), if_neg (by omega), if_neg q]
theorem dqC_3 (c : Nat → Nat → Int32) {h i : Nat} (hi : i < 8) (hne : ¬ i = h) : dqC c h 3 i = if c 1 i = c 1 h ∧ ¬ c 3 i ≤ c 3 h then c 3 i - 1 else c 3 i := by
  unfold dqC dqJ
  rw [if_neg (by omega), if_neg (by omega)]
  by_cases q : c 1 i = c 1 h ∧ ¬ c 3 i ≤ c 3 h
  · rw [if_pos ⟨rfl, hi, hne, q⟩, if_pos q]
  · rw [if_neg (fun k => q k.2.2.2), if_neg q]
theorem uqz_n (z : Nat → Int32) (r p n k : Nat) : uqz z r p n k (125 + r) = nI (n - 1) := by unfold uqz; rw [if_pos rfl]
theorem uqz_no (z : Nat → Int32) {r r2 p n k : Nat} (hr : r < 12) (hr2 : r2 < 12) (hne : ¬ r2 = r) (hk : k ≤ 8) : uqz z r p n k (125 + r2) = z (125 + r2) := by
  unfold uqz
  rw [if_neg (by omega), if_neg (by omega), if_neg (by omega)]
theorem uqz_q (z : Nat → Int32) {B r r2 p n k q : Nat} (hB : B = 137 ∨ B = 233) (hr : r < 12) (hr2 : r2 < 12) (hk : k < 8) (hq : q < 8) : uqz z r p n k (B + 8 * r2 + q) = if r2 = r ∧ p ≤ q ∧ q < k then z (B + 8 * r2 + (q + 1)) else z (B + 8 * r2 + q) := by
  unfold uqz
  rcases hB with rfl | rfl
  · rw [if_neg (by omega)]
    by_cases c : r2 = r ∧ p ≤ q ∧ q < k
    · rw [if_pos (by omega), if_pos c]; congr 1
    · rw [if_neg (by omega), if_neg (by omega), if_neg c]
  · rw [if_neg (by omega), if_neg (by omega)]
    by_cases c : r2 = r ∧ p ≤ q ∧ q < k
    · rw [if_pos (by omega), if_pos c]; congr 1
    · rw [if_neg (by omega), if_neg c]
theorem uqz_lo (z : Nat → Int32) {r p n k i : Nat} (hr : r < 12) (hk : k ≤ 8) (hi : i < 125 ∨ 329 ≤ i) : uqz z r p n k i = z i := by
  unfold uqz
  rw [if_neg (by omega), if_neg (by omega), if_neg (by omega)]
theorem rq_dq {c : Nat → Nat → Int32} {z : Nat → Int32} (H : RQ (c 1) (c 2) (c 3) z) {h r n p : Nat} (hh : h < 8) (hr : r < 12) (hn : z (125 + r) = nI n) (hn8 : n ≤ 8) (hp : p < n) (e1 : c 1 h = nI r) (e2 : c 3 h = nI p) : RQ (dqC c h 1) (dqC c h 2) (dqC c h 3) (uqz z r p n (n - 1)) := by
  refine ⟨fun r2 hr2 => ?_, fun h2 hh2 => ?_⟩
  · by_cases cr : r2 = r
    · subst cr
      refine ⟨n - 1, by omega, uqz_n _ _ _ _ _, fun q hq => ?_⟩
      rw [uqz_q z (Or.inl rfl) hr hr (by omega) (by omega), uqz_q z (Or.inr rfl) hr hr (by omega) (by omega)]
      by_cases cq : p ≤ q
      · rw [if_pos ⟨rfl, cq, hq⟩, if_pos ⟨rfl, cq, hq⟩]
        obtain ⟨h0, a1, a2, a3, a4, a5, a6, a7⟩ := who_ne H hr (by omega) e1 e2 hr hn hn8 (show q + 1 < n by omega) (by omega)
        refine ⟨h0, a1, a2, ?_, ?_, ?_, ?_⟩
        · rw [dqC_1, if_neg a7]; exact a3
        · rw [dqC_3 c a1 a7, if_pos ⟨by rw [a3, e1], by rw [a4, e2]; exact nI_ge (by omega) (by omega)⟩, a4]; exact nI_pred q
        · rw [dqC_2, if_neg a7]; exact a5
        · rw [dqC_2, if_neg a7]; exact a6
      · rw [if_neg (fun k => cq k.2.1), if_neg (fun k => cq k.2.1)]
        obtain ⟨h0, a1, a2, a3, a4, a5, a6, a7⟩ := who_ne H hr (by omega) e1 e2 hr hn hn8 (show q < n by omega) (by omega)
        refine ⟨h0, a1, a2, ?_, ?_, ?_, ?_⟩
        · rw [dqC_1, if_neg a7]; exact a3
        · rw [dqC_3 c a1 a7, if_neg (fun k => k.2 (by rw [a4, e2]; exact nI_le (by omega) (by omega)))]; exact a4
        · rw [dqC_2, if_neg a7]; exact a5
        · rw [dqC_2, if_neg a7]; exact a6
    · obtain ⟨n2, hn2, en2, kn⟩ := H.1 r2 hr2
      refine ⟨n2, hn2, by rw [uqz_no z hr hr2 cr (by omega)]; exact en2, fun q hq => ?_⟩
      rw [uqz_q z (Or.inl rfl) hr hr2 (by omega) (by omega), uqz_q z (Or.inr rfl) hr hr2 (by omega) (by omega), if_neg (fun k => cr k.1), if_neg (fun k => cr k.1)]
      obtain ⟨h0, a1, a2, a3, a4, a5, a6, a7⟩ := who_ne H hr (by omega) e1 e2 hr2 en2 hn2 hq (by omega)
      refine ⟨h0, a1, a2, ?_, ?_, ?_, ?_⟩
      · rw [dqC_1, if_neg a7]; exact a3
      · rw [dqC_3 c a1 a7, if_neg (fun k => cr ?_)]; exact a4
        have k1 := k.1
        rw [a3, e1] at k1
        exact (nI_eq (by omega) (by omega)).mp k1
      · rw [dqC_2, if_neg a7]; exact a5
      · rw [dqC_2, if_neg a7]; exact a6
  · by_cases ch : h2 = h
    · left; rw [dqC_1, dqC_2, if_pos ch, if_pos ch]; exact ⟨rfl, rfl⟩
    · rw [dqC_1, dqC_2, dqC_3 c hh2 ch, if_neg ch, if_neg ch]
      rcases H.2 h2 hh2 with q | ⟨r2, n2, p2, b1, b2, b3, b4, b5, b6, b7⟩
      · exact Or.inl q
      · right
        by_cases cr : r2 = r
        · subst cr
          rw [hn] at b2
          obtain rfl := (nI_eq (by omega) (by omega)).mp b2
          have hpp : ¬ p2 = p := by
            intro k
            subst k
            obtain ⟨n3, hn3, en3, kn⟩ := H.1 r2 hr
            rw [hn] at en3
            obtain rfl := (nI_eq (by omega) (by omega)).mp en3
            rcases H.2 h hh with q | ⟨r4, n4, p4, d1, d2, d3, d4, d5, d6, d7⟩
            · rw [e1] at q; exact nI_nm1 (by omega) q.1
            · rw [e1] at d5
              obtain rfl := (nI_eq (by omega) (by omega)).mp d5
              rw [e2] at d6
              obtain rfl := (nI_eq (by omega) (by omega)).mp d6
              rw [b7] at d7
              exact ch ((nI_eq (by omega) (by omega)).mp d7)
          by_cases cp : p2 ≤ p
          · refine ⟨r2, n - 1, p2, hr, uqz_n _ _ _ _ _, by omega, by omega, b5, ?_, ?_⟩
            · rw [if_neg (fun k => k.2 (by rw [b6, e2]; exact nI_le cp (by omega)))]; exact b6
            · rw [uqz_q z (Or.inl rfl) hr hr (by omega) (by omega), if_neg (by omega)]; exact b7
          · refine ⟨r2, n - 1, p2 - 1, hr, uqz_n _ _ _ _ _, by omega, by omega, b5, ?_, ?_⟩
            · rw [if_pos ⟨by rw [b5, e1], by rw [b6, e2]; exact nI_ge (by omega) (by omega)⟩, b6]
              have := nI_pred (p2 - 1)
              rw [show p2 - 1 + 1 = p2 by omega] at this
              exact this
            · rw [uqz_q z (Or.inl rfl) hr hr (by omega) (by omega), if_pos ⟨rfl, by omega, by omega⟩, show p2 - 1 + 1 = p2 by omega]; exact b7
        · refine ⟨r2, n2, p2, b1, by rw [uqz_no z hr b1 cr (by omega)]; exact b2, b3, b4, b5, ?_, ?_⟩
          · rw [if_neg (fun k => cr ?_)]; exact b6
            have k1 := k.1
            rw [b5, e1] at k1
            exact (nI_eq (by omega) (by omega)).mp k1
          · rw [uqz_q z (Or.inl rfl) hr b1 (by omega) (by omega), if_neg (fun k => cr k.1)]; exact b7

