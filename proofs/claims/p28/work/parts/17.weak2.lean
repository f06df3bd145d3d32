section LW2
variable {o n pc pc2 : Nat} {L K L2 : List (Option PV)} {st st2 : List PV} {m m2 : PM} {i : Instr} {r : PS}
theorem b_na (h : sm_b i n pc L st m = some r) (K : List (Option PV)) : sm_a i n pc K st m = none := by
  unfold sm_b at h
  split at h
  all_goals first | (cases h; done) | rfl
theorem c_n (h : sm_c i n pc L st m = some r) (K : List (Option PV)) : sm_a i n pc K st m = none ∧ sm_b i n pc K st m = none := by
  unfold sm_c at h
  split at h
  all_goals first | (cases h; done) | exact ⟨rfl, rfl⟩
theorem d_n (h : sm_d i n pc L st m = some r) (K : List (Option PV)) : sm_a i n pc K st m = none ∧ sm_b i n pc K st m = none ∧ sm_c i n pc K st m = none := by
  unfold sm_d at h
  split at h
  all_goals first | (cases h; done) | (refine ⟨?_, ?_, ?_⟩ <;> rfl) | (refine ⟨?_, ?_, ?_⟩ <;> simp [sm_a, sm_b, sm_c])
theorem e_n (h : sm_e o i n pc L st m = some r) (K : List (Option PV)) : sm_a i n pc K st m = none ∧ sm_b i n pc K st m = none ∧ sm_c i n pc K st m = none ∧ sm_d i n pc K st m = none := by
  unfold sm_e at h
  split at h
  all_goals first | (cases h; done) | (refine ⟨?_, ?_, ?_, ?_⟩ <;> rfl) | (refine ⟨?_, ?_, ?_, ?_⟩ <;> simp [sm_a, sm_b, sm_c, sm_d])
theorem le_ins (hL : LE L K) (h : sm_ins o i n pc L st m = some (pc2, L2, st2, m2)) : ∃ K2, sm_ins o i n pc K st m = some (pc2, K2, st2, m2) ∧ LE L2 K2 := by
  unfold sm_ins at h
  cases ha : sm_a i n pc L st m with
  | some r =>
    rw [ha] at h; cases h
    obtain ⟨rfl, h2⟩ := le_a hL ha
    exact ⟨K, by unfold sm_ins; rw [h2], hL⟩
  | none =>
    rw [ha] at h
    cases hb : sm_b i n pc L st m with
    | some r =>
      rw [hb] at h; cases h
      obtain ⟨K2, h2, h3⟩ := le_b hL hb
      exact ⟨K2, by unfold sm_ins; rw [b_na hb K, h2], h3⟩
    | none =>
      rw [hb] at h
      cases hc : sm_c i n pc L st m with
      | some r =>
        rw [hc] at h; cases h
        obtain ⟨rfl, h2⟩ := le_c hc K
        obtain ⟨n1, n2⟩ := c_n hc K
        exact ⟨K, by unfold sm_ins; rw [n1, n2, h2], hL⟩
      | none =>
        rw [hc] at h
        cases hd : sm_d i n pc L st m with
        | some r =>
          rw [hd] at h; cases h
          obtain ⟨rfl, h2⟩ := le_d hd K
          obtain ⟨n1, n2, n3⟩ := d_n hd K
          exact ⟨K, by unfold sm_ins; rw [n1, n2, n3, h2], hL⟩
        | none =>
          rw [hd] at h
          obtain ⟨rfl, h2⟩ := le_e (show sm_e o i n pc L st m = some (pc2, L2, st2, m2) from h) K
          obtain ⟨n1, n2, n3, n4⟩ := e_n h K
          exact ⟨K, by unfold sm_ins; rw [n1, n2, n3, n4, h2], hL⟩
theorem ins_none {M : MI} (h : sm_ins o i n pc L st m = none) (hc : (∃ q, sm_cal M i st = some q) ∨ sm_stop i = true) (K : List (Option PV)) : sm_ins o i n pc K st m = none := by
  have key : ∀ K : List (Option PV), sm_a i n pc K st m = none ∧ sm_b i n pc K st m = none ∧ sm_c i n pc K st m = none ∧ sm_d i n pc K st m = none := by
    intro K
    rcases hc with ⟨q, hq⟩ | hq
    · unfold sm_cal at hq
      split at hq
      · refine ⟨?_, ?_, ?_, ?_⟩ <;> rfl
      · refine ⟨?_, ?_, ?_, ?_⟩ <;> rfl
      · cases hq
    · unfold sm_stop at hq
      split at hq
      all_goals first | (cases hq; done) | (refine ⟨?_, ?_, ?_, ?_⟩ <;> rfl)
  obtain ⟨a1, a2, a3, a4⟩ := key K
  obtain ⟨b1, b2, b3, b4⟩ := key L
  unfold sm_ins at h ⊢
  rw [b1, b2, b3, b4] at h
  rw [a1, a2, a3, a4]
  cases he : sm_e o i n pc K st m with
  | none => rfl
  | some r =>
    obtain ⟨x1, x2, x3, x4⟩ := r
    have h2 := (le_e he L).2
    dsimp only at h
    rw [h2] at h
    cases h
end LW2
theorem le_go {n : Nat} : ∀ {M : MI} {pc : Nat} {L K : List (Option PV)} {st : List PV} {m : PM} {r : PS}, LE L K → sm_go n M pc L st m = some r → ∃ K2, sm_go n M pc K st m = some (r.1, K2, r.2.2.1, r.2.2.2) ∧ LE r.2.1 K2 := by
  induction n with
  | zero => intro M pc L K st m r hL h; cases h
  | succ n ih =>
    intro M pc L K st m r hL h
    unfold sm_go at h
    cases h1 : asc (mT M) pc with
    | none => rw [h1] at h; cases h
    | some q =>
      obtain ⟨i, len⟩ := q
      rw [h1] at h
      dsimp only at h
      cases h2 : sm_ins (mO M) i len pc L st m with
      | some q =>
        obtain ⟨pc2, L2, st2, m2⟩ := q
        rw [h2] at h
        obtain ⟨K2, h3, h4⟩ := le_ins hL h2
        obtain ⟨K3, h5, h6⟩ := ih h4 h
        refine ⟨K3, ?_, h6⟩
        unfold sm_go
        rw [h1]; dsimp only
        rw [h3]; exact h5
      | none =>
        rw [h2] at h
        dsimp only at h
        cases h3 : sm_cal M i st with
        | none =>
          rw [h3] at h
          dsimp only at h
          by_cases h4 : sm_stop i = true
          · rw [if_pos h4] at h; cases h
            refine ⟨K, ?_, hL⟩
            unfold sm_go
            rw [h1]; dsimp only
            rw [ins_none (M := M) h2 (Or.inr h4) K]; dsimp only
            rw [h3]; dsimp only
            rw [if_pos h4]
          · rw [if_neg h4] at h; cases h
        | some q =>
          obtain ⟨M2, as, rest⟩ := q
          rw [h3] at h
          dsimp only at h
          by_cases h4 : len = 3 ∧ sm_fit M M2 as rest = true
          · rw [if_pos h4] at h
            cases h5 : sm_go n M2 0 (lpad (lent as) (mN M2 - (lent as).length)) [] m with
            | none => rw [h5] at h; cases h
            | some q =>
              obtain ⟨pcE, LE', stE, m2⟩ := q
              rw [h5] at h
              dsimp only at h
              cases h6 : sm_ret M2 pcE stE with
              | none => rw [h6] at h; cases h
              | some v =>
                rw [h6] at h
                dsimp only at h
                obtain ⟨K3, h7, h8⟩ := ih hL h
                refine ⟨K3, ?_, h8⟩
                unfold sm_go
                rw [h1]; dsimp only
                rw [ins_none (M := M) h2 (Or.inl ⟨_, h3⟩) K]; dsimp only
                rw [h3]; dsimp only
                rw [if_pos h4, h5]; dsimp only
                rw [h6]
                exact h7
          · rw [if_neg h4] at h; cases h
theorem an_weak {M : MI} {pc : Nat} {L K : List (Option PV)} {st : List PV} {m m2 : PM} {v : OC} (hL : LE L K) (h : An M pc L st m v m2) : An M pc K st m v m2 := by
  obtain ⟨a, b, c, ⟨n, h1⟩, h2⟩ := h
  obtain ⟨K2, h3, -⟩ := le_go hL h1
  exact ⟨a, K2, c, ⟨n, h3⟩, h2⟩
