/-! the small machine's runs: to the next answer, or to a 'new' -/
def sm_one (M : MI) (pc : Nat) (L : List (Option PV)) (st : List PV) (m : PM) : Option PS := match asc (mT M) pc with
  | some (i, n) => sm_ins (mO M) i n pc L st m
  | none => none
/-- a call's callee, arguments, and what stays on the stack -/
def sm_cal (M : MI) (i : Instr) (st : List PV) : Option (MI × List PV × List PV) := match i with
  | .invokestatic x => match asc (clk (mO M)) x with
    | some (0, M2) => if mPar M2 ≤ st.length then some (M2, (st.take (mPar M2)).reverse, st.drop (mPar M2)) else none
    | some (2, M2) => if mPar M2 ≤ st.length then some (M2, (st.take (mPar M2)).reverse, st.drop (mPar M2)) else none
    | _ => none
  | .invokevirtual x => match asc (clk (mO M)) x with
    | some (1, M2) => match st[mPar M2]? with
      | some (.inr (.inr (.inr (some (t, _, _))))) => if tcl t = some (mO M2) then some (M2, (st.take (mPar M2 + 1)).reverse, st.drop (mPar M2 + 1)) else none
      | _ => none
    | _ => none
  | _ => none
def sm_fit (M M2 : MI) (as rest : List PV) : Bool := decide (mFr M2 + 1 ≤ mFr M) && decide (1 ≤ mFr M2) && decide (30 ≤ mLo M2) && decide (8 + (mN M2 + 11) + mLo M2 ≤ mLo M) && decide ((rest.map cat).sum ≤ 8) && decide ((lent as).length ≤ mN M2)
/-- the answer, at an answering instruction -/
def sm_ret (M : MI) (pc : Nat) (st : List PV) : Option (Option PV) := match asc (mT M) pc with
  | some (.ireturn, 1) => match st with
    | [.inl x] => if mRet M = some .int then some (some (vI x)) else if mRet M = some .boolean then (if x = 0 then some (some (vI 0)) else if x = 1 then some (some (vI 1)) else none) else none
    | _ => none
  | some (.lreturn, 1) => match st with
    | [.inr (.inl x)] => if mRet M = some .long then some (some (vL x)) else none
    | _ => none
  | some (.dreturn, 1) => match st with
    | [.inr (.inr (.inl x))] => if mRet M = some .double then some (some (vD x)) else none
    | _ => none
  | some (.areturn, 1) => match st with
    | [.inr (.inr (.inr x))] => if mRet M = some (.object "HotPanLocks$State") then some (some (.inr (.inr (.inr x)))) else none
    | _ => none
  | some (.return_, 1) => match st with
    | [] => if mRet M = none then some none else none
    | _ => none
  | _ => none
def sm_stop (i : Instr) : Bool := match i with
  | .ireturn => true | .lreturn => true | .dreturn => true | .areturn => true | .return_ => true | .new _ => true
  | _ => false
def sm_go : Nat → MI → Nat → List (Option PV) → List PV → PM → Option PS
  | 0, _, _, _, _, _ => none
  | n + 1, M, pc, L, st, m => match asc (mT M) pc with
    | none => none
    | some (i, len) => match sm_ins (mO M) i len pc L st m with
      | some (pc2, L2, st2, m2) => sm_go n M pc2 L2 st2 m2
      | none => match sm_cal M i st with
        | some (M2, as, rest) => if len = 3 ∧ sm_fit M M2 as rest = true then
            match sm_go n M2 0 (lpad (lent as) (mN M2 - (lent as).length)) [] m with
            | some (pcE, _, stE, m2) => match sm_ret M2 pcE stE with
              | some v => sm_go n M (pc + 3) L (v.toList ++ rest) m2
              | none => none
            | none => none
          else none
        | none => if sm_stop i = true then some (pc, L, st, m) else none
/-- from (pc, L, st, m) the method comes to a stop at e -/
def Go (M : MI) (pc : Nat) (L : List (Option PV)) (st : List PV) (m : PM) (e : PS) : Prop := ∃ n, sm_go n M pc L st m = some e
/-- called with as over m the method answers v, and leaves m2 -/
def Rn (M : MI) (as : List PV) (m : PM) (v : Option PV) (m2 : PM) : Prop := ∃ pcE LE stE, Go M 0 (lpad (lent as) (mN M - (lent as).length)) [] m (pcE, LE, stE, m2) ∧ sm_ret M pcE stE = some v
theorem go_mono {n : Nat} : ∀ {M pc L st m e}, sm_go n M pc L st m = some e → ∀ k, sm_go (n + k) M pc L st m = some e := by
  induction n with
  | zero => intro M pc L st m e h; cases h
  | succ n ih =>
    intro M pc L st m e h k
    rw [show n + 1 + k = (n + k) + 1 by omega]
    unfold sm_go at h ⊢
    cases h1 : asc (mT M) pc with
    | none => rw [h1] at h; cases h
    | some q =>
      obtain ⟨i, len⟩ := q
      rw [h1] at h
      dsimp only at h ⊢
      cases h2 : sm_ins (mO M) i len pc L st m with
      | some r =>
        obtain ⟨a, b, c, d⟩ := r
        rw [h2] at h
        exact ih h k
      | none =>
        rw [h2] at h
        dsimp only at h ⊢
        cases h3 : sm_cal M i st with
        | none => rw [h3] at h; exact h
        | some r =>
          obtain ⟨M2, as, rest⟩ := r
          rw [h3] at h
          dsimp only at h ⊢
          by_cases h4 : len = 3 ∧ sm_fit M M2 as rest = true
          · rw [if_pos h4] at h ⊢
            cases h5 : sm_go n M2 0 (lpad (lent as) (mN M2 - (lent as).length)) [] m with
            | none => rw [h5] at h; cases h
            | some r =>
              obtain ⟨a, b, c, d⟩ := r
              rw [h5] at h
              rw [ih h5 k]
              dsimp only at h ⊢
              cases h6 : sm_ret M2 a c with
              | none => rw [h6] at h; cases h
              | some v => rw [h6] at h; exact ih h k
          · rw [if_neg h4] at h; cases h
theorem go_stop {M : MI} {pc : Nat} {L : List (Option PV)} {st : List PV} {m : PM} {i : Instr} {n : Nat} (h : asc (mT M) pc = some (i, n)) (h1 : sm_ins (mO M) i n pc L st m = none) (h2 : sm_cal M i st = none) (h3 : sm_stop i = true) : Go M pc L st m (pc, L, st, m) := ⟨1, by
  unfold sm_go
  rw [h]; dsimp only
  rw [h1]; dsimp only
  rw [h2]; dsimp only
  rw [if_pos h3]⟩
theorem go_one {M : MI} {pc : Nat} {L : List (Option PV)} {st : List PV} {m : PM} {s2 : PS} {e : PS} (h : sm_one M pc L st m = some s2) (k : Go M s2.1 s2.2.1 s2.2.2.1 s2.2.2.2 e) : Go M pc L st m e := by
  obtain ⟨n, hn⟩ := k
  refine ⟨n + 1, ?_⟩
  unfold sm_one at h
  unfold sm_go
  cases h1 : asc (mT M) pc with
  | none => rw [h1] at h; cases h
  | some q =>
    rw [h1] at h
    dsimp only at h ⊢
    rw [h]
    exact hn
def sm_many : Nat → MI → PS → Option PS
  | 0, _, s => some s
  | n + 1, M, (pc, L, st, m) => match sm_one M pc L st m with
    | some s2 => sm_many n M s2
    | none => none
theorem go_many {n : Nat} : ∀ {M : MI} {s s2 : PS} {e : PS}, sm_many n M s = some s2 → Go M s2.1 s2.2.1 s2.2.2.1 s2.2.2.2 e → Go M s.1 s.2.1 s.2.2.1 s.2.2.2 e := by
  induction n with
  | zero => intro M s s2 e h k; cases h; exact k
  | succ n ih =>
    intro M s s2 e h k
    obtain ⟨pc, L, st, m⟩ := s
    unfold sm_many at h
    cases h1 : sm_one M pc L st m with
    | none => rw [h1] at h; cases h
    | some s3 =>
      rw [h1] at h
      exact go_one h1 (ih h k)
/-- n instructions, none of them a call -/
theorem go_b (n : Nat) {M : MI} {pc pc2 : Nat} {L L2 : List (Option PV)} {st st2 : List PV} {m m2 : PM} {e : PS} (h : sm_many n M (pc, L, st, m) = some (pc2, L2, st2, m2)) (k : Go M pc2 L2 st2 m2 e) : Go M pc L st m e := go_many (s := (pc, L, st, m)) (s2 := (pc2, L2, st2, m2)) h k
theorem go_if {M : MI} {t f : Nat} {c : Prop} [Decidable c] {L : List (Option PV)} {st : List PV} {m : PM} {e : PS} (ht : c → Go M t L st m e) (hf : ¬ c → Go M f L st m e) : Go M (if c then t else f) L st m e := by
  by_cases h : c
  · rw [if_pos h]; exact ht h
  · rw [if_neg h]; exact hf h
theorem go_call {M M2 : MI} {pc : Nat} {L : List (Option PV)} {st as rest : List PV} {m m2 : PM} {e : PS} {v : Option PV} {i : Instr} (h : asc (mT M) pc = some (i, 3)) (h1 : sm_ins (mO M) i 3 pc L st m = none) (h2 : sm_cal M i st = some (M2, as, rest)) (h3 : sm_fit M M2 as rest = true) (hr : Rn M2 as m v m2) (k : Go M (pc + 3) L (v.toList ++ rest) m2 e) : Go M pc L st m e := by
  obtain ⟨pcE, LE, stE, ⟨n1, hn1⟩, hv⟩ := hr
  obtain ⟨n2, hn2⟩ := k
  refine ⟨n1 + n2 + 1, ?_⟩
  unfold sm_go
  rw [h]; dsimp only
  rw [h1]; dsimp only
  rw [h2]; dsimp only
  rw [if_pos ⟨rfl, h3⟩, go_mono hn1 n2]
  dsimp only
  rw [hv]; dsimp only
  rw [Nat.add_comm n1 n2]
  exact go_mono hn2 n1
