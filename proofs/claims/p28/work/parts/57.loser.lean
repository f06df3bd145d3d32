/-! the loser, the hands waited for, the takers -/
theorem lp_rel {σ τ : Type} (f : Nat → σ → σ) (f2 : Nat → τ → τ) (N : Nat) (C : Nat → σ → τ → Prop) (step : ∀ j s t, j < N → C j s t → C (j + 1) (f j s) (f2 j t)) : ∀ n j s t, n + j = N → C j s t → C N (lp f n j s) (lp f2 n j t) := by
  intro n
  induction n with
  | zero =>
    intro j s t e h
    obtain rfl : j = N := by omega
    rw [lp_0, lp_0]; exact h
  | succ n ih =>
    intro j s t e h
    rw [lp_s, lp_s]
    exact ih (j + 1) _ _ (by omega) (step j s t (by omega) h)
section
variable {M m : PM} {g : Nat}
theorem inRing_bit (m : PM) {h : Nat} (hh : h < 8) : v_X5_isInRing m (nI h) = 0 ↔ ¬ bit (v_X5_waitsOver m (nI h)) h = true := by
  unfold v_X5_isInRing
  by_cases c : bit (v_X5_waitsOver m (nI h)) h = true
  · rw [if_neg (show ¬ ¬ _ from fun q => q ((bit_q1 (by omega)).mpr c))]
    exact ⟨fun q => absurd q (by decide), fun q => absurd c q⟩
  · rw [if_pos (show ¬ _ from fun q => c ((bit_q1 (by omega)).mp q))]
    exact ⟨fun _ => c, fun _ => rfl⟩
theorem loser_R (hR : RG M m g) {h : Nat} (hh : h < 8) : v_X2_loserFor M g (nI h) = if v_X5_isInRing m (nI h) = 0 then -1 else v_X5_loserFor m (nI h) := by
  unfold v_X2_loserFor
  by_cases c : v_X5_isInRing m (nI h) = 0
  · rw [if_pos c, if_neg]
    rw [reach_R hR hh]
    exact fun q => q ((has_bit M _ (show h < 32 by omega)).mpr ((inRing_bit m hh).mp c))
  · rw [if_neg c, if_pos]
    · have k := lp_rel (b_X2_loserFor_1 M g (nI h)) (b_X5_loserFor_1 m (nI h)) 8 (fun _ s t => s.1 = t ∧ (t = -1 ∨ ∃ l, l < 8 ∧ t = nI l ∧ s.2 = v_X5_workOf m l)) (fun j s t hj hs => ?_) 8 0 ((-1 : Int32), (0 : Int32)) (-1) rfl ⟨rfl, Or.inl rfl⟩
      · exact k.1
      · obtain ⟨s1, s2⟩ := s
        obtain ⟨rfl, hs⟩ := hs
        unfold b_X2_loserFor_1 b_X5_loserFor_1
        dsimp only at hs ⊢
        rw [reach_R hR hh, reach_R hR hj, work_R hR hj]
        by_cases c1 : bit (v_X5_waitsOver m (nI h)) j = true
        · have d1 : ¬ v_X4_has M (v_X5_waitsOver m (nI h)) (nI j) = 0 := fun q => (has_bit M _ (show j < 32 by omega)).mp q c1
          rw [if_neg d1, if_neg d1, if_pos ((bit_q1 (show j < 32 by omega)).mpr c1)]
          by_cases c2 : bit (v_X5_waitsOver m (nI j)) h = true
          · have d2 : ¬ v_X4_has M (v_X5_waitsOver m (nI j)) (nI h) = 0 := fun q => (has_bit M _ (show h < 32 by omega)).mp q c2
            rw [if_neg d2, if_neg d2, if_pos ((bit_q1 (show h < 32 by omega)).mpr c2)]
            by_cases c3 : s1 = -1
            · rw [if_pos c3, if_pos c3, if_pos c3]
              exact ⟨rfl, Or.inr ⟨j, hj, rfl, rfl⟩⟩
            · rw [if_neg c3, if_neg c3, if_neg c3]
              rcases hs with e | ⟨l, hl, e, e2⟩
              · exact absurd e c3
              · rw [e, nI_clamp (show l < 2 ^ 31 by omega), e2]
                by_cases c4 : v_X5_workOf m l < v_X5_workOf m j
                · rw [if_pos c4, if_pos c4]
                  exact ⟨rfl, Or.inr ⟨l, hl, rfl, rfl⟩⟩
                · rw [if_neg c4, if_neg c4]
                  exact ⟨rfl, Or.inr ⟨j, hj, rfl, rfl⟩⟩
          · have d2 : v_X4_has M (v_X5_waitsOver m (nI j)) (nI h) = 0 := (has_bit M _ (show h < 32 by omega)).mpr c2
            rw [if_pos d2, if_pos d2, if_neg (show ¬ _ from fun q => c2 ((bit_q1 (show h < 32 by omega)).mp q))]
            exact ⟨rfl, hs⟩
        · have d1 : v_X4_has M (v_X5_waitsOver m (nI h)) (nI j) = 0 := (has_bit M _ (show j < 32 by omega)).mpr c1
          rw [if_pos d1, if_pos d1, if_neg (show ¬ _ from fun q => c1 ((bit_q1 (show j < 32 by omega)).mp q))]
          exact ⟨rfl, hs⟩
    · rw [reach_R hR hh]
      intro q
      exact c ((inRing_bit m hh).mpr ((has_bit M _ (show h < 32 by omega)).mp q))
end
