/-! heat: a tick agrees -/
/-- settings and heat within their bounds -/
def BC (c : Nat → Nat → Int32) : Prop := (∃ n, n ≤ 900 ∧ c 10 0 = nI n) ∧ (∃ n, n ≤ 20 ∧ c 10 1 = nI n) ∧ (∃ n, n ≤ 50 ∧ c 10 2 = nI n) ∧ ∀ r, r < 12 → ∃ n, n ≤ 1000 ∧ c 4 r = nI n
theorem bc_c {c c2 : Nat → Nat → Int32} (H : BC c) (h4 : c2 4 = c 4) (h10 : c2 10 = c 10) : BC c2 := by
  unfold BC
  rw [h4, h10]
  exact H
/-- a greatest mode -/
theorem great_or {m : PM} {lk : Nat → Int32} (H : RK lk (zz m)) {r : Nat} (hr : r < 12) : ∃ k, k ≤ 3 ∧ v_X5_greatestOf m r = nI k := by
  refine lp_inv (b_X5_greatestOf_1 m r) 8 (fun _ s => ∃ k, k ≤ 3 ∧ s = nI k) (fun j s hj hs => ?_) 8 0 0 rfl ⟨0, by omega, rfl⟩
  unfold b_X5_greatestOf_1
  split
  · exact hs
  · rcases (H j r hj hr).2 with e | e | e | e
    · exact ⟨0, by omega, e⟩
    · exact ⟨1, by omega, e⟩
    · exact ⟨2, by omega, e⟩
    · exact ⟨3, by omega, e⟩
/-- the heat behind a tick, as a number -/
def htN (n k a b : Nat) : Nat := if k = 0 then n - b else if n + k * a < 1000 then n + k * a else 1000
theorem htN_le {n k a b : Nat} (hn : n ≤ 1000) : htN n k a b ≤ 1000 := by unfold htN; (repeat' split) <;> omega
theorem h_lt {a : Nat} (h : a < 1000) : nI a < (1000 : Int32) := nI_lt (b := 1000) h (by omega)
theorem h_nlt {a : Nat} (h : 1000 ≤ a) (h2 : a < 2 ^ 31) : ¬ nI a < (1000 : Int32) := nI_nlt (b := 1000) (a := a) h h2
theorem h_le {a : Nat} (h : a ≤ 1000) : nI a ≤ (1000 : Int32) := nI_le (b := 1000) h (by omega)
theorem h_nle {a : Nat} (h : 1000 < a) (h2 : a < 2 ^ 31) : ¬ nI a ≤ (1000 : Int32) := nI_ge (a := 1000) h h2
theorem h_0 {a : Nat} (h : 0 < a) (h2 : a < 2 ^ 31) : (0 : Int32) < nI a := nI_lt (a := 0) h h2
theorem heat_C {n k a b : Nat} (hn : n ≤ 1000) (hk : k ≤ 3) (ha : a ≤ 20) (hb : b ≤ 50) : (if nI k ≤ 0 then (if (0 : Int32) < nI n - nI b then nI n - nI b else 0) else (if nI n + nI k * nI a < (1000 : Int32) then nI n + nI k * nI a else 1000)) = nI (htN n k a b) := by
  have hm : k * a ≤ 60 := by
    have := Nat.mul_le_mul hk ha
    omega
  unfold htN
  by_cases ck : k = 0
  · subst ck
    rw [if_pos (by decide), if_pos rfl]
    by_cases cb : b < n
    · rw [nI_sub2 (by omega), if_pos (h_0 (by omega) (by omega))]
    · by_cases ce : n = b
      · subst ce
        rw [nI_sub2 (by omega), Nat.sub_self, if_neg (by decide)]
        rfl
      · have : nI n - nI b < 0 := pk_sneg (by omega) (by omega)
        rw [if_neg (fun q => Int32.lt_irrefl (Int32.lt_trans q this)), show n - b = 0 by omega]
        rfl
  · rw [if_neg (nI_nle (by omega) (by omega)), if_neg ck, pk_mul, nI_add]
    by_cases c : n + k * a < 1000
    · rw [if_pos c, if_pos (h_lt c)]
    · rw [if_neg c, if_neg (h_nlt (by omega) (by omega))]
      rfl
theorem heat_M {n k a b : Nat} (hn : n ≤ 1000) (hk : k ≤ 3) (ha : a ≤ 20) (hb : b ≤ 50) {x : Int32} (hx : x = nI n + (if nI k ≤ 0 then -(nI b) else nI k * nI a)) : (if 0 ≤ x then (if x ≤ (1000 : Int32) then x else 1000) else 0) = nI (htN n k a b) := by
  have hm : k * a ≤ 60 := by
    have := Nat.mul_le_mul hk ha
    omega
  unfold htN
  by_cases ck : k = 0
  · subst ck
    rw [if_pos (by decide), ← Int32.sub_eq_add_neg] at hx
    rw [if_pos rfl]
    by_cases cb : b ≤ n
    · rw [nI_sub2 cb] at hx
      rw [hx, if_pos (nI_pos' (by omega)), if_pos (h_le (by omega))]
    · have : nI n - nI b < 0 := pk_sneg (by omega) (by omega)
      rw [hx, if_neg (Int32.not_le.mpr this), show n - b = 0 by omega]
      rfl
  · rw [if_neg (nI_nle (by omega) (by omega)), pk_mul, nI_add] at hx
    rw [if_neg ck, hx, if_pos (nI_pos' (by omega))]
    by_cases c : n + k * a < 1000
    · rw [if_pos c, if_pos (h_le (by omega))]
    · rw [if_neg c]
      by_cases c2 : n + k * a = 1000
      · rw [c2, if_pos (by decide)]
      · rw [if_neg (h_nle (by omega) (by omega))]
        rfl
theorem sa_tick {c : Nat → Nat → Int32} {z : Nat → Int32} (H : SA c z) (x : Int32) : SA (up2 c 11 0 x) (upd z 3 x) := by
  refine ⟨?_, ?_, ⟨fun k i h4 h10 hi => ?_, ?_, ?_⟩, hf_z H.2.2.2 H.2.1 (fun j a b => upd_o _ _ _ (by omega)) (fun j a b => upd_o _ _ _ (by omega))⟩
  · rw [up2_o _ _ _ _ (by omega)]
    exact rk_z H.1 (fun j a b => upd_o _ _ _ (by omega))
  · rw [up2_o _ _ _ _ (by omega), up2_o _ _ _ _ (by omega), up2_o _ _ _ _ (by omega)]
    exact rq_z H.2.1 (fun j a b => upd_o _ _ _ (by omega))
  · have hz := zof_in h4 h10 hi
    rw [up2_o _ _ _ _ (by omega), upd_o _ _ _ (by omega)]
    exact H.2.2.1.1 k i h4 h10 hi
  · rw [upd_s]; unfold up2; rw [if_pos ⟨rfl, rfl⟩]
  · rw [up2_o _ _ _ _ (by omega), upd_o _ _ _ (by omega)]
    exact H.2.2.1.2.2
/-- what counting needs, as it was -/
def EC (c c2 : Nat → Nat → Int32) : Prop := c2 1 = c 1 ∧ c2 8 = c 8 ∧ c2 9 = c 9
theorem ec_cn {c c2 : Nat → Nat → Int32} (h : EC c c2) {K : Nat} (k : CN c K) : CN c2 K := by
  unfold CN
  rw [h.1, h.2.1, h.2.2]
  exact k
theorem tick_1R (M0 M m : PM) (g : Nat) {c : Nat → Nat → Int32} (H : SA c (zz m)) (B : BC c) : ∃ c2, lp (b_X2_tick_1 M0 g) 12 0 (setS M g (up2 c 11 0 (c 11 0 + 1))) = setS M g c2 ∧ SA c2 (zz (tick_1 m)) ∧ BC c2 ∧ EC c c2 ∧ zz (tick_1 m) 4 = zz m 4 := by
  refine lp_rel (b_X2_tick_1 M0 g) b_X5_tick_1 12 (fun _ s t => ∃ c2, s = setS M g c2 ∧ SA c2 (zz t) ∧ BC c2 ∧ EC c c2 ∧ zz t 4 = zz m 4) (fun j s t hj hs => ?_) 12 0 _ (wI m 8 0 0 3 (m.1 8 0 0 3 + 1)) rfl ⟨_, rfl, ?_, bc_c B (up2_o _ _ _ _ (by decide)) (up2_o _ _ _ _ (by decide)), ⟨up2_o _ _ _ _ (by decide), up2_o _ _ _ _ (by decide), up2_o _ _ _ _ (by decide)⟩, ?_⟩
  · obtain ⟨c2, rfl, S, B2, E, e4⟩ := hs
    obtain ⟨⟨n0, _, _⟩, ⟨n1, hn1, en1⟩, ⟨n2, hn2, en2⟩, hh⟩ := id B2
    obtain ⟨n, hn, en⟩ := hh j hj
    obtain ⟨k, hk, ek⟩ := great_or S.1 hj
    have eg := greatest_R (sa_rgm M t g S) hj
    rw [ek] at eg
    have v : v_X2_heatAfter (setS M g c2) g (nI n) (nI k) = nI (htN n k n1 n2) := by
      unfold v_X2_heatAfter
      have a2 := at_S M g 10 2 c2 (by omega) (show 2 < 3 by omega)
      have a1 := at_S M g 10 1 c2 (by omega) (show 1 < 3 by omega)
      rw [show v_X1_at (setS M g c2) 10 g (2 : Int32) = nI n2 from a2.trans en2, show v_X1_at (setS M g c2) 10 g (1 : Int32) = nI n1 from a1.trans en1]
      exact heat_C hn hk hn1 hn2
    have w : (if 0 ≤ heatN t j then (if heatN t j ≤ (1000 : Int32) then heatN t j else 1000) else 0) = nI (htN n k n1 n2) := by
      refine heat_M hn hk hn1 hn2 ?_
      unfold heatN
      rw [ek]
      have b1 := S.2.2.1.1 10 1 (by omega) (by omega) (show 1 < 3 by omega)
      have b2 := S.2.2.1.1 10 2 (by omega) (by omega) (show 2 < 3 by omega)
      have b4 := S.2.2.1.1 4 j (by omega) (by omega) (show j < 12 from hj)
      rw [show t.1 8 0 0 (101 + j) = nI n from b4.symm.trans en, show t.1 8 0 0 2 = nI n2 from b2.symm.trans en2, show t.1 8 0 0 1 = nI n1 from b1.symm.trans en1]
    unfold b_X2_tick_1 b_X5_tick_1
    rw [at_S M g 4 j c2 (by omega) (show j < 12 from hj), en, eg, v, w, put_S M g 4 j c2 _ (by omega) (show j < 12 from hj)]
    refine ⟨_, rfl, ?_, ?_, ⟨?_, ?_, ?_⟩, ?_⟩
    · rw [zz_wI]
      exact sa_raise S (k := 4) (i := j) (by omega) (by omega) (by omega) (show j < 12 from hj) _
    · refine ⟨?_, ?_, ?_, fun r hr => ?_⟩
      · rw [up2_o _ _ _ _ (by decide)]; exact B2.1
      · rw [up2_o _ _ _ _ (by decide)]; exact B2.2.1
      · rw [up2_o _ _ _ _ (by decide)]; exact B2.2.2.1
      · unfold up2
        by_cases q : r = j
        · rw [if_pos ⟨rfl, q⟩]; exact ⟨_, htN_le hn, rfl⟩
        · rw [if_neg (fun u => q u.2)]; exact hh r hr
    · rw [up2_o _ _ _ _ (by decide)]; exact E.1
    · rw [up2_o _ _ _ _ (by decide)]; exact E.2.1
    · rw [up2_o _ _ _ _ (by decide)]; exact E.2.2
    · rw [zz_wI, upd_o _ _ _ (by omega)]; exact e4
  · rw [zz_wI, H.2.2.1.2.1]
    exact sa_tick H _
  · rw [zz_wI, upd_o _ _ _ (by omega)]
theorem bsum_up (f : Nat → Int32) {h : Nat} (hh : h < 8) (f2 : Nat → Int32) (e : ∀ i, f2 i = if i = h then f h + 1 else f i) : bsum f2 = bsum f + 1 := by
  have k := lp_rel (fun j s => s + f2 j) (fun j s => s + f j) 8 (fun j s t => s = t + (if h < j then 1 else 0)) (fun j s t hj hs => by
    show s + f2 j = t + f j + _
    rw [hs, e j]
    by_cases c : j = h
    · subst c
      rw [if_pos rfl, if_neg (by omega), if_pos (by omega)]
      grind
    · rw [if_neg c]
      by_cases c2 : h < j
      · rw [if_pos c2, if_pos (by omega)]; grind
      · rw [if_neg c2, if_neg (by omega)]; grind) 8 0 0 0 rfl (by rw [if_neg (by omega)]; rfl)
  rw [if_pos hh] at k
  exact k

