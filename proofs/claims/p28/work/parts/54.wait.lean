/-! direct and waitsNow agree -/
theorem bit_who (m : PM) (r N : Nat) (hN : ∀ q, q < N → ∃ h, h < 8 ∧ zz m (137 + 8 * r + q) = nI h) : ∀ n j s, n + j = N → ∀ i, i < 32 → (bit (lp (b_X5_waitsNow_1 m r) n j s) i = true ↔ bit s i = true ∨ ∃ q, j ≤ q ∧ q < N ∧ zz m (137 + 8 * r + q) = nI i) := by
  intro n
  induction n with
  | zero =>
    intro j s e i hi
    rw [lp_0]
    constructor
    · exact Or.inl
    · rintro (h | ⟨q, a, b, _⟩)
      · exact h
      · omega
  | succ n ih =>
    intro j s e i hi
    obtain ⟨h0, hh0, e0⟩ := hN j (by omega)
    rw [lp_s, ih (j + 1) _ (by omega) i hi]
    have eb : bit (b_X5_waitsNow_1 m r j s) i = (bit s i || decide (i = h0)) := by
      unfold b_X5_waitsNow_1 v_X5_whoAt
      rw [show m.1 8 0 0 (137 + 8 * r + j) = nI h0 from e0, bit_or, bit_1 hi (by omega)]
    rw [eb]
    constructor
    · rintro (h | ⟨q, a, b, c⟩)
      · rw [Bool.or_eq_true, decide_eq_true_eq] at h
        rcases h with h | h
        · exact Or.inl h
        · exact Or.inr ⟨j, Nat.le_refl _, by omega, by rw [e0, h]⟩
      · exact Or.inr ⟨q, by omega, b, c⟩
    · rintro (h | ⟨q, a, b, c⟩)
      · left; rw [h]; rfl
      · by_cases cq : q = j
        · subst cq
          left
          rw [e0] at c
          obtain rfl := (nI_eq (by omega) (by omega)).mp c
          simp
        · exact Or.inr ⟨q, by omega, b, c⟩
/-- lock and mode clash -/
theorem clash_0 {x md : Int32} (hx : x = 0 ∨ MO x) (hm : MO md) (h : ¬ x + md ≤ 3) : ¬ x ≤ 0 := by
  rcases hx with rfl | rfl | rfl | rfl
  · rcases hm with rfl | rfl | rfl <;> exact absurd (by decide) h
  all_goals decide
section
variable {M m : PM} {g : Nat}
theorem direct_R (hR : RG M m g) {h : Nat} (hh : h < 8) : v_X2_direct M g (nI h) = v_X5_waitsNow m (nI h) := by
  have hw := waits_R (M := M) (g := g) hR.2 hh
  have hro := rowOf_R hR.2 hh
  unfold v_X2_direct
  rw [← hw]
  unfold v_X5_waits v_X5_waitsNow
  rcases hR.2.2 h hh with ⟨a, _⟩ | ⟨r, n, p, hr, hn, hn8, hp, e1, e2, e3⟩
  · rw [hro, a, if_pos rfl, if_pos rfl, if_neg (fun q => q rfl)]
  · have hne : ¬ v_X5_rowOf m (nI h) = -1 := by rw [hro, e1]; exact nI_nm1 (by omega)
    rw [if_neg hne, if_neg hne, if_pos (by decide)]
    have eR : rowN m (nI h) = r := by unfold rowN; rw [hro, e1]; exact nI_clamp (by omega)
    have eP : plcN m (nI h) r = p := by unfold plcN; rw [placeIn_R hR.2 hh hr, if_pos e1, e2]; exact nI_clamp (by omega)
    rw [eR, eP]
    obtain ⟨n2, hn2, en2, kn⟩ := hR.2.1 r hr
    rw [hn] at en2
    obtain rfl := (nI_eq (by omega) (by omega)).mp en2
    obtain ⟨h1, hh1, f1, f2, f3, f4, f5⟩ := kn p hp
    rw [e3] at f1
    obtain rfl := (nI_eq (by omega) (by omega)).mp f1
    have em : v_X5_modeAt m r p = cl M g 2 h := f4.symm
    rw [em]
    have a1 : v_X1_at M 1 g (nI h) = nI r := by rw [at_in (k := 1) (show h < 8 from hh), e1]
    have a2 : v_X1_at M 2 g (nI h) = cl M g 2 h := at_in (k := 2) (show h < 8 from hh)
    have a3 : v_X1_at M 3 g (nI h) = nI p := by rw [at_in (k := 3) (show h < 8 from hh), e2]
    apply bit_ext
    intro i hi
    rw [Bool.eq_iff_iff, bit_who m r p (fun q hq => by obtain ⟨h2, b1, b2, _⟩ := kn q (by omega); exact ⟨h2, b1, b2⟩) p 0 _ (Nat.add_zero _) i hi, bit_clash m r _ _ i hi]
    rw [bit_lp (b_X2_direct_1 M g (nI h)) (fun j => if nI j = nI h then false else if ¬ v_X5_lockOf m j r + cl M g 2 h ≤ 3 then true else if ¬ cl M g 1 j = nI r then false else if nI p ≤ cl M g 3 j then false else true) 8 (by omega) (fun j s i hj hi => ?_) 8 0 0 rfl i hi, bit_0]
    · simp only [Bool.false_or, Nat.zero_le, true_and, Bool.and_eq_true, decide_eq_true_eq]
      constructor
      · rintro ⟨hi8, hb⟩
        by_cases c1 : nI i = nI h
        · rw [if_pos c1] at hb; exact absurd hb (by decide)
        rw [if_neg c1] at hb
        by_cases c2 : v_X5_lockOf m i r + cl M g 2 h ≤ 3
        · rw [if_neg (fun q => q c2)] at hb
          right
          by_cases c3 : cl M g 1 i = nI r
          · rw [if_neg (fun q => q c3)] at hb
            rcases hR.2.2 i hi8 with ⟨b, _⟩ | ⟨r2, n2, p2, g1, g2, g3, g4, g5, g6, g7⟩
            · rw [c3] at b; exact absurd b (nI_nm1 (by omega))
            · rw [c3] at g5
              obtain rfl := (nI_eq (by omega) (by omega)).mp g5
              by_cases c4 : nI p ≤ cl M g 3 i
              · rw [if_pos c4] at hb; exact absurd hb (by decide)
              · rw [g6] at c4
                rw [hn] at g2
                obtain rfl := (nI_eq (by omega) (by omega)).mp g2
                refine ⟨p2, ?_, g7⟩
                by_cases c5 : p2 < p
                · exact c5
                · exact absurd (nI_le (show p ≤ p2 by omega) (by omega)) c4
          · rw [if_pos c3] at hb; exact absurd hb (by decide)
        · left
          refine ⟨hi8, ?_⟩
          unfold clB
          rw [if_neg c1, if_neg (show ¬ v_X5_lockOf m i r ≤ 0 from clash_0 (hR.1 i r hi8 hr).2 f5 c2), if_neg c2]
      · rintro (⟨hi8, hb⟩ | ⟨q, hq, eq⟩)
        · refine ⟨hi8, ?_⟩
          unfold clB at hb
          by_cases c1 : nI i = nI h
          · rw [if_pos c1] at hb; exact absurd hb (by decide)
          rw [if_neg c1] at hb ⊢
          by_cases c0 : v_X5_lockOf m i r ≤ 0
          · rw [if_pos c0] at hb; exact absurd hb (by decide)
          rw [if_neg c0] at hb
          by_cases c2 : v_X5_lockOf m i r + cl M g 2 h ≤ 3
          · rw [if_pos c2] at hb; exact absurd hb (by decide)
          · rw [if_pos c2]
        · obtain ⟨h2, b1, b2, b3, b4, _⟩ := kn q (by omega)
          rw [eq] at b2
          obtain rfl := (nI_eq (by omega) (by omega)).mp b2
          refine ⟨b1, ?_⟩
          have c1 : ¬ nI i = nI h := by
            intro c
            obtain rfl := (nI_eq (by omega) (by omega)).mp c
            rw [e2] at b4
            have := (nI_eq (by omega) (by omega)).mp b4
            omega
          rw [if_neg c1, if_neg (show ¬ ¬ cl M g 1 i = nI r from fun q => q b3), b4, if_neg (nI_ge hq (by omega))]
          split <;> rfl
    · unfold b_X2_direct_1
      rw [a1, a2, a3, lock_R hR hj hr, at_in (k := 1) (show j < 8 from hj), at_in (k := 3) (show j < 8 from hj)]
      by_cases c1 : nI j = nI h
      · rw [if_pos c1, if_pos c1]; simp
      · rw [if_neg c1, if_neg c1]
        by_cases c2 : v_X5_lockOf m j r + cl M g 2 h ≤ 3
        · rw [if_pos c2, if_neg (show ¬ ¬ (0 : Int32) = 0 from fun q => q rfl), if_neg (show ¬ ¬ v_X5_lockOf m j r + cl M g 2 h ≤ 3 from fun q => q c2)]
          by_cases c3 : cl M g 1 j = nI r
          · rw [if_neg (show ¬ ¬ cl M g 1 j = nI r from fun q => q c3), if_neg (show ¬ ¬ cl M g 1 j = nI r from fun q => q c3)]
            by_cases c4 : nI p ≤ cl M g 3 j
            · rw [if_pos c4, if_pos c4, if_pos rfl]; simp
            · rw [if_neg c4, if_neg c4, if_neg (by decide), bit_or, bit_1 hi (by omega)]; simp
          · rw [if_pos c3, if_pos c3, if_pos rfl]; simp
        · rw [if_neg c2, if_pos (by decide), if_pos c2, bit_or, bit_1 hi (by omega)]; simp
end
