/-- how a method ends: with an answer, or at a 'new' of a throw, by its place in the pool -/
abbrev OC : Type := Option PV ⊕ Nat
def sm_out (M : MI) (pc : Nat) (st : List PV) : Option OC := match sm_ret M pc st with
  | some v => some (.inl v)
  | none => match asc (mT M) pc, st with
    | some (.new x, 3), [] => some (.inr x)
    | _, _ => none
theorem sm_out_inr {M : MI} {pc x : Nat} {st : List PV} (h : sm_out M pc st = some (.inr x)) : asc (mT M) pc = some (.new x, 3) ∧ st = [] := by
  unfold sm_out at h
  cases h1 : sm_ret M pc st with
  | some w => rw [h1] at h; cases h
  | none =>
    rw [h1] at h
    dsimp only at h
    split at h
    · next h2 => cases h; exact ⟨h2, rfl⟩
    · cases h
theorem sm_out_inl {M : MI} {pc : Nat} {st : List PV} {v : Option PV} (h : sm_out M pc st = some (.inl v)) : sm_ret M pc st = some v := by
  unfold sm_out at h
  cases h1 : sm_ret M pc st with
  | some w => rw [h1] at h; cases h; rfl
  | none =>
    rw [h1] at h
    dsimp only at h
    split at h <;> cases h
/-- from (pc, L, st, m) the method ends so, and leaves m2 -/
def An (M : MI) (pc : Nat) (L : List (Option PV)) (st : List PV) (m : PM) (v : OC) (m2 : PM) : Prop := ∃ pcE LE stE, Go M pc L st m (pcE, LE, stE, m2) ∧ sm_out M pcE stE = some v
theorem rn_of {M : MI} {as : List PV} {m m2 : PM} {v : Option PV} (L : List (Option PV)) (h : lpad (lent as) (mN M - (lent as).length) = L) (k : An M 0 L [] m (.inl v) m2) : Rn M as m v m2 := by
  subst h
  obtain ⟨a, b, c, h1, h2⟩ := k
  exact ⟨a, b, c, h1, sm_out_inl h2⟩
theorem an_b (n : Nat) {M : MI} {pc pc2 : Nat} {L L2 : List (Option PV)} {st st2 : List PV} {m m1 m2 : PM} {v : OC} (h : sm_many n M (pc, L, st, m) = some (pc2, L2, st2, m1)) (k : An M pc2 L2 st2 m1 v m2) : An M pc L st m v m2 := by
  obtain ⟨a, b, c, h1, h2⟩ := k
  exact ⟨a, b, c, go_b n h h1, h2⟩
theorem an_if {M : MI} {t f : Nat} {c : Prop} [Decidable c] {L : List (Option PV)} {st : List PV} {m m2 : PM} {v : OC} (ht : c → An M t L st m v m2) (hf : ¬ c → An M f L st m v m2) : An M (if c then t else f) L st m v m2 := by
  by_cases h : c
  · rw [if_pos h]; exact ht h
  · rw [if_neg h]; exact hf h
theorem an_ret {M : MI} {pc : Nat} {L : List (Option PV)} {st : List PV} {m : PM} {v : OC} {i : Instr} (h : asc (mT M) pc = some (i, 1)) (h1 : sm_ins (mO M) i 1 pc L st m = none) (h2 : sm_cal M i st = none) (h3 : sm_stop i = true) (h4 : sm_out M pc st = some v) : An M pc L st m v m := ⟨pc, L, st, go_stop h h1 h2 h3, h4⟩
theorem an_thr {M : MI} {pc : Nat} {L : List (Option PV)} {st : List PV} {m : PM} {v : OC} {i : Instr} (h : asc (mT M) pc = some (i, 3)) (h1 : sm_ins (mO M) i 3 pc L st m = none) (h2 : sm_cal M i st = none) (h3 : sm_stop i = true) (h4 : sm_out M pc st = some v) : An M pc L st m v m := ⟨pc, L, st, go_stop h h1 h2 h3, h4⟩
theorem an_call {M M2 : MI} {pc : Nat} {L : List (Option PV)} {st as rest : List PV} {m m1 m2 : PM} {v : OC} {w : Option PV} {i : Instr} (hr : Rn M2 as m w m1) (h : asc (mT M) pc = some (i, 3)) (h1 : sm_ins (mO M) i 3 pc L st m = none) (h2 : sm_cal M i st = some (M2, as, rest)) (h3 : sm_fit M M2 as rest = true) (k : An M (pc + 3) L (w.toList ++ rest) m1 v m2) : An M pc L st m v m2 := by
  obtain ⟨a, b, c, h4, h5⟩ := k
  exact ⟨a, b, c, go_call h h1 h2 h3 hr h4, h5⟩
