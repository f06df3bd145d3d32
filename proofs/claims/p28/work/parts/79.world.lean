/-! one state copied to another; class and model as wholes -/
/-- the numbers that count are the same -/
def EQC (c c2 : Nat → Nat → Int32) : Prop := (∀ k i, k ≤ 10 → i < nlen k → c2 k i = c k i) ∧ c2 11 0 = c 11 0
theorem sa_eqc {c c2 : Nat → Nat → Int32} {z : Nat → Int32} (H : SA c z) (e : EQC c c2) : SA c2 z := by
  obtain ⟨K, Q, C, F⟩ := H
  refine ⟨fun h r hh hr => ?_, ⟨fun r hr => ?_, fun h hh => ?_⟩, ⟨fun k i h4 h10 hi => ?_, ?_, ?_⟩, F⟩
  · rw [e.1 0 _ (by omega) (show h * 12 + r < 96 by omega)]
    exact K h r hh hr
  · obtain ⟨n, hn, en, kn⟩ := Q.1 r hr
    refine ⟨n, hn, en, fun p hp => ?_⟩
    obtain ⟨h0, a1, a2, a3, a4, a5, a6⟩ := kn p hp
    refine ⟨h0, a1, a2, ?_, ?_, ?_, ?_⟩
    · rw [e.1 1 h0 (by omega) (show h0 < 8 from a1)]; exact a3
    · rw [e.1 3 h0 (by omega) (show h0 < 8 from a1)]; exact a4
    · rw [e.1 2 h0 (by omega) (show h0 < 8 from a1)]; exact a5
    · rw [e.1 2 h0 (by omega) (show h0 < 8 from a1)]; exact a6
  · rw [e.1 1 h (by omega) (show h < 8 from hh), e.1 2 h (by omega) (show h < 8 from hh), e.1 3 h (by omega) (show h < 8 from hh)]
    exact Q.2 h hh
  · rw [e.1 k i h10 hi]
    exact C.1 k i h4 h10 hi
  · rw [e.2]; exact C.2.1
  · rw [C.2.2]
    unfold bsum
    refine lp_cong 8 (fun j s hj => ?_) 8 0 0 rfl
    rw [e.1 6 j (by omega) (show j < 8 from hj)]
theorem bc_eqc {c c2 : Nat → Nat → Int32} (H : BC c) (e : EQC c c2) : BC c2 := by
  obtain ⟨a, b, d, f⟩ := H
  refine ⟨?_, ?_, ?_, fun r hr => ?_⟩
  · rw [e.1 10 0 (by omega) (show 0 < 3 by omega)]; exact a
  · rw [e.1 10 1 (by omega) (show 1 < 3 by omega)]; exact b
  · rw [e.1 10 2 (by omega) (show 2 < 3 by omega)]; exact d
  · rw [e.1 4 r (by omega) (show r < 12 from hr)]; exact f r hr
theorem cn_eqc {c c2 : Nat → Nat → Int32} {K : Nat} (H : CN c K) (e : EQC c c2) : CN c2 K := by
  intro h hh
  rw [e.1 9 h (by omega) (show h < 8 from hh), e.1 8 h (by omega) (show h < 8 from hh), e.1 1 h (by omega) (show h < 8 from hh)]
  exact H h hh
theorem cn_le {c : Nat → Nat → Int32} {K K2 : Nat} (H : CN c K) (hk : K ≤ K2) : CN c K2 := by
  intro h hh
  obtain ⟨a, q, e1, e2, e3, e4⟩ := H h hh
  exact ⟨a, q, e1, e2, e3, by omega⟩
def SLR (c : Nat → Nat → Int32) (z : Nat → Int32) (K : Nat) : Prop := SA c z ∧ BC c ∧ CN c K
theorem slr_eqc {c c2 : Nat → Nat → Int32} {z : Nat → Int32} {K : Nat} (H : SLR c z K) (e : EQC c c2) : SLR c2 z K := ⟨sa_eqc H.1 e, bc_eqc H.2.1 e, cn_eqc H.2.2 e⟩
theorem slr_z {c : Nat → Nat → Int32} {z z2 : Nat → Int32} {K : Nat} (H : SLR c z K) (e : ∀ i, i < 361 → z2 i = z i) : SLR c z2 K := ⟨sa_cong H.1 e, H.2.1, H.2.2⟩
theorem slr_le {c : Nat → Nat → Int32} {z : Nat → Int32} {K K2 : Nat} (H : SLR c z K) (h : K ≤ K2) : SLR c z K2 := ⟨H.1, H.2.1, cn_le H.2.2 h⟩
theorem clT_S (M : PM) (g : Nat) (c : Nat → Nat → Int32) : EQC c (clT (setS M g c) g) := by
  refine ⟨fun k i hk _ => ?_, ?_⟩
  · unfold clT
    rw [if_pos (by omega)]
    exact congrFun (cl_setS M g k c (by omega)) i
  · unfold clT
    rw [if_neg (by omega)]
    exact tk_S M g c
theorem clT_o (M : PM) {g g2 : Nat} (c : Nat → Nat → Int32) (hg : ¬ g2 = g) : clT (setS M g c) g2 = clT M g2 := by
  funext k i
  unfold clT setS
  dsimp only
  by_cases hk : k < 11
  · rw [if_pos hk, if_pos hk, if_neg (fun q => hg q.2.1), if_neg (fun q => by omega)]
  · rw [if_neg hk, if_neg hk, if_neg (fun q => hg q.2.1), if_neg (fun q => hg q.2.2.1)]
def cpC (c cs : Nat → Nat → Int32) (k : Nat) : Nat → Nat → Int32 := fun k2 i => if k2 = k ∧ i < nlen k then cs k2 i else c k2 i
theorem wC_S (M : PM) {g g1 k : Nat} (c : Nat → Nat → Int32) (hk : k < 11) (hg : ¬ g1 = g) : w_X1_copyFrom (setS M g c) k g k g1 = setS M g (cpC c (clT M g1) k) := by
  unfold w_X1_copyFrom
  rw [if_neg (fun q => q rfl)]
  unfold wC setS cpC clT
  congr 1
  funext a b c2 d
  dsimp only
  by_cases h : a = 2 ∧ b = k ∧ c2 = g ∧ d < nlen k
  · obtain ⟨rfl, rfl, rfl, h4⟩ := h
    rw [if_pos ⟨rfl, rfl, rfl, h4⟩, if_neg (fun q => hg q.2.1), if_neg (by omega), if_pos ⟨rfl, rfl, hk⟩, if_pos ⟨rfl, h4⟩, if_pos hk]
  · rw [if_neg h]
    by_cases h2 : a = 2 ∧ c2 = g ∧ b < 11
    · rw [if_pos h2, if_pos h2, if_neg (fun q => h ⟨h2.1, q.1, h2.2.1, q.2⟩)]
    · rw [if_neg h2, if_neg h2]
      by_cases h3 : a = 0 ∧ b = 0 ∧ c2 = g ∧ d = 11
      · rw [if_pos h3, if_pos h3, if_neg (by omega)]
      · rw [if_neg h3, if_neg h3]
/-- state g1 copied to state g -/
theorem copy_R (M : PM) {g g1 : Nat} (hg : ¬ g1 = g) : ∃ c2, w_X2_copyFrom M g g1 = setS M g c2 ∧ EQC (clT M g1) c2 := by
  have h := setS_id M g
  have ht : ∀ c, (setS M g c).1 0 0 g1 11 = clT M g1 11 0 := fun c => by
    unfold setS clT
    dsimp only
    rw [if_neg (by omega), if_neg (fun q => hg q.2.2.1), if_neg (by omega)]
  unfold w_X2_copyFrom
  rw [← h, wC_S M _ (by omega) hg, wC_S M _ (by omega) hg, wC_S M _ (by omega) hg, wC_S M _ (by omega) hg, wC_S M _ (by omega) hg, wC_S M _ (by omega) hg, wC_S M _ (by omega) hg, wC_S M _ (by omega) hg, wC_S M _ (by omega) hg, wC_S M _ (by omega) hg, wC_S M _ (by omega) hg, ht, wT_S, h]
  refine ⟨_, rfl, fun k i hk hi => ?_, ?_⟩
  · rw [up2_o _ _ _ _ (by omega)]
    have : k = 0 ∨ k = 1 ∨ k = 2 ∨ k = 3 ∨ k = 4 ∨ k = 5 ∨ k = 6 ∨ k = 7 ∨ k = 8 ∨ k = 9 ∨ k = 10 := by omega
    unfold cpC
    rcases this with rfl | rfl | rfl | rfl | rfl | rfl | rfl | rfl | rfl | rfl | rfl <;> simp [hi]
  · unfold up2
    rw [if_pos ⟨rfl, rfl⟩]
/-- class M and model m: s states saved, len characters, K askings at most -/
def WR (M m : PM) (s len K : Nat) : Prop := SLR (clT M 0) (zz m) K ∧ s ≤ 6 ∧ sts m = nI s ∧ M.1 4 0 0 2 = nI s ∧ (∃ nx, nx < 6 ∧ M.1 4 0 0 1 = nI nx ∧ ∀ j, j < s → SLR (clT M (2 + (nx + 6 - s + j) % 6)) (fun i => hs m (361 * j + i)) K) ∧ len ≤ 60 ∧ M.1 6 0 0 1 = nI len ∧ m.1 7 0 0 3 = nI len ∧ ∀ i, i < len → ∃ k, 33 ≤ k ∧ k ≤ 126 ∧ tex m i = nI k ∧ M.1 2 11 0 i = nI k
theorem wr_m {M m m2 : PM} {s len K : Nat} (H : WR M m s len K) (e1 : ∀ i, i < 361 → zz m2 i = zz m i) (e2 : ∀ i, i < 2166 → hs m2 i = hs m i) (e3 : sts m2 = sts m) (e4 : ∀ i, i < 60 → tex m2 i = tex m i) (e5 : m2.1 7 0 0 3 = m.1 7 0 0 3) : WR M m2 s len K := by
  obtain ⟨a1, a2, a3, a4, ⟨nx, b1, b2, b3⟩, a5, a6, a7, a8⟩ := H
  refine ⟨slr_z a1 e1, a2, by rw [e3]; exact a3, a4, ⟨nx, b1, b2, fun j hj => slr_z (b3 j hj) (fun i hi => e2 _ (by omega))⟩, a5, a6, by rw [e5]; exact a7, fun i hi => ?_⟩
  rw [e4 i (by omega)]
  exact a8 i hi
/-- an act on state 0 and the row -/
theorem wr_act {M m m2 : PM} {s len K K2 : Nat} {c : Nat → Nat → Int32} (H : WR M m s len K) (hc : SLR c (zz m2) K2) (hK : K ≤ K2) (e2 : ∀ i, i < 2166 → hs m2 i = hs m i) (e3 : sts m2 = sts m) (e4 : ∀ i, i < 60 → tex m2 i = tex m i) (e5 : m2.1 7 0 0 3 = m.1 7 0 0 3) : WR (setS M 0 c) m2 s len K2 := by
  obtain ⟨a1, a2, a3, a4, ⟨nx, b1, b2, b3⟩, a5, a6, a7, a8⟩ := H
  have o : ∀ t k g i, ¬ t = 2 → ¬ t = 0 → (setS M 0 c).1 t k g i = M.1 t k g i := fun t k g i h h0 => by
    unfold setS
    dsimp only
    rw [if_neg (fun q => h q.1), if_neg (fun q => h0 q.1)]
  have ox : ∀ i, (setS M 0 c).1 2 11 0 i = M.1 2 11 0 i := fun i => by
    unfold setS
    dsimp only
    rw [if_neg (by omega), if_neg (by omega)]
  refine ⟨slr_eqc hc (clT_S M 0 c), a2, by rw [e3]; exact a3, by rw [o _ _ _ _ (by decide) (by decide)]; exact a4, ⟨nx, b1, by rw [o _ _ _ _ (by decide) (by decide)]; exact b2, fun j hj => ?_⟩, a5, by rw [o _ _ _ _ (by decide) (by decide)]; exact a6, by rw [e5]; exact a7, fun i hi => ?_⟩
  · rw [clT_o M c (by omega)]
    exact slr_le (slr_z (b3 j hj) (fun i hi => e2 _ (by omega))) hK
  · rw [e4 i (by omega), ox]
    exact a8 i hi
theorem wr_oz {M m m2 : PM} {s len K K2 : Nat} {c : Nat → Nat → Int32} (H : WR M m s len K) (hc : SLR c (zz m2) K2) (hK : K ≤ K2) (ho : OZ m m2) : WR (setS M 0 c) m2 s len K2 := wr_act H hc hK (fun i _ => ho.1 8 1 0 i (by omega)) (ho.1 7 0 0 1 (by omega)) (fun i _ => ho.1 8 2 0 i (by omega)) (ho.1 7 0 0 3 (by omega))
/-- the code of a refusal is no part of it -/
theorem wr_5 {M m : PM} {s len K : Nat} (H : WR M m s len K) (x : Int32) : WR M (wI m 7 0 0 5 x) s len K := by
  refine wr_m H (fun i _ => congrFun (zz_w7 m 5 x) i) (fun i _ => congrFun (hs_w7 m 5 x) i) ?_ (fun i _ => ?_) ?_
  · unfold sts wI; dsimp only; rw [if_neg (by omega)]
  · unfold tex wI; dsimp only; rw [if_neg (by omega)]
  · unfold wI; dsimp only; rw [if_neg (by omega)]
theorem wr_le {M m : PM} {s len K K2 : Nat} (H : WR M m s len K) (h : K ≤ K2) : WR M m s len K2 := by
  obtain ⟨a1, a2, a3, a4, ⟨nx, b1, b2, b3⟩, a5⟩ := H
  exact ⟨slr_le a1 h, a2, a3, a4, ⟨nx, b1, b2, fun j hj => slr_le (b3 j hj) h⟩, a5⟩

