/-! how the text is read: class and model -/
def pm0 : PM := ((fun _ _ _ _ => 0), (fun _ _ _ _ => 0))
theorem due_m (m : PM) (a c : Int32) : v_X3_dueAfter m a c = v_X3_dueAfter pm0 a c := rfl
theorem dig_m (m : PM) (c : Int32) : v_X3_isDigit m c = v_X3_isDigit pm0 c := rfl
/-- what is due in the class, and in the model -/
def csN (n : Int32) : Bool := n == 0 || n == 2 || n == 3 || n == 4 || n == 5 || n == 6 || n == 7 || n == 8 || n == 9 || n == 10 || n == 11
def csD (dc n d : Int32) : Bool := (dc == 0 && d == 0) || (dc == 1 && d == 1 && n == -1) || (dc == 2 && d == 1 && n == 1) || (dc == 3 && d == 1 && csN n) || (dc == 4 && d == 2)
def csF (dc n c : Int32) : Bool := (v_X3_dueAfter pm0 dc c == 5 && tkv n 1 c == 0) || (!(v_X3_dueAfter pm0 dc c == 5) && !(tkv n 1 c == 0) && csD (v_X3_dueAfter pm0 dc c) (tkn n 1 c) (tkd n 1 c))
theorem cs_1 : ∀ k, k < 127 → 33 ≤ k → csF 1 (-1) (nI k) = true := by decide +kernel
theorem cs_2 : ∀ k, k < 127 → 33 ≤ k → csF 2 1 (nI k) = true := by decide +kernel
theorem cs_3 : ∀ j, j < 12 → ¬ j = 1 → ∀ k, k < 127 → 33 ≤ k → csF 3 (nI j) (nI k) = true := by decide +kernel
theorem csN_j {n : Int32} (h : csN n = true) : ∃ j, j < 12 ∧ ¬ j = 1 ∧ n = nI j := by
  unfold csN at h
  simp only [Bool.or_eq_true, beq_iff_eq] at h
  rcases h with (((((((((h | h) | h) | h) | h) | h) | h) | h) | h) | h) | h
  · exact ⟨0, by omega, by omega, h⟩
  · exact ⟨2, by omega, by omega, h⟩
  · exact ⟨3, by omega, by omega, h⟩
  · exact ⟨4, by omega, by omega, h⟩
  · exact ⟨5, by omega, by omega, h⟩
  · exact ⟨6, by omega, by omega, h⟩
  · exact ⟨7, by omega, by omega, h⟩
  · exact ⟨8, by omega, by omega, h⟩
  · exact ⟨9, by omega, by omega, h⟩
  · exact ⟨10, by omega, by omega, h⟩
  · exact ⟨11, by omega, by omega, h⟩
theorem csF_or {dc n c : Int32} (h : csF dc n c = true) : (v_X3_dueAfter pm0 dc c = 5 ∧ tkv n 1 c = 0) ∨ (¬ v_X3_dueAfter pm0 dc c = 5 ∧ ¬ tkv n 1 c = 0 ∧ csD (v_X3_dueAfter pm0 dc c) (tkn n 1 c) (tkd n 1 c) = true) := by
  unfold csF at h
  rw [Bool.or_eq_true, Bool.and_eq_true, Bool.and_eq_true, Bool.and_eq_true] at h
  rcases h with ⟨a, b⟩ | ⟨⟨a, b⟩, c⟩
  · exact Or.inl ⟨eq_of_beq a, eq_of_beq b⟩
  · refine Or.inr ⟨fun e => ?_, fun e => ?_, c⟩
    · rw [e] at a; exact absurd a (by decide)
    · rw [e] at b; exact absurd b (by decide)
theorem cs_step {dc n d : Int32} (h : csD dc n d = true) {k : Nat} (h1 : 33 ≤ k) (h2 : k ≤ 126) : (v_X3_dueAfter pm0 dc (nI k) = 5 ∧ tkv n d (nI k) = 0) ∨ (¬ v_X3_dueAfter pm0 dc (nI k) = 5 ∧ ¬ tkv n d (nI k) = 0 ∧ csD (v_X3_dueAfter pm0 dc (nI k)) (tkn n d (nI k)) (tkd n d (nI k)) = true) := by
  unfold csD at h
  simp only [Bool.or_eq_true, Bool.and_eq_true, beq_iff_eq] at h
  rcases h with (((⟨rfl, rfl⟩ | ⟨⟨rfl, rfl⟩, rfl⟩) | ⟨⟨rfl, rfl⟩, rfl⟩) | ⟨⟨rfl, rfl⟩, h⟩) | ⟨rfl, rfl⟩
  · show (v_X3_dueAfter pm0 0 (nI k) = 5 ∧ inn (nI k) 97 104 = 0) ∨ (¬ v_X3_dueAfter pm0 0 (nI k) = 5 ∧ ¬ inn (nI k) 97 104 = 0 ∧ csD (v_X3_dueAfter pm0 0 (nI k)) (-1) 1 = true)
    have e : v_X3_dueAfter pm0 0 (nI k) = if nI k < (97 : Int32) then 5 else if (104 : Int32) < nI k then 5 else 1 := rfl
    rw [e]
    unfold inn
    by_cases c1 : nI k < (97 : Int32)
    · rw [if_pos c1, if_pos c1]; exact Or.inl ⟨rfl, rfl⟩
    · rw [if_neg c1, if_neg c1]
      by_cases c2 : (104 : Int32) < nI k
      · rw [if_pos c2, if_pos c2]; exact Or.inl ⟨rfl, rfl⟩
      · rw [if_neg c2, if_neg c2]; exact Or.inr ⟨by decide, by decide, by decide⟩
  · exact csF_or (cs_1 k (by omega) h1)
  · exact csF_or (cs_2 k (by omega) h1)
  · obtain ⟨j, hj, hj1, rfl⟩ := csN_j h
    exact csF_or (cs_3 j hj hj1 k (by omega) h1)
  · show (v_X3_dueAfter pm0 4 (nI k) = 5 ∧ (if ¬ nI k = (44 : Int32) then (0 : Int32) else 1) = 0) ∨ (¬ v_X3_dueAfter pm0 4 (nI k) = 5 ∧ ¬ (if ¬ nI k = (44 : Int32) then (0 : Int32) else 1) = 0 ∧ csD (v_X3_dueAfter pm0 4 (nI k)) n 0 = true)
    have e : v_X3_dueAfter pm0 4 (nI k) = if ¬ nI k = (44 : Int32) then 5 else 0 := rfl
    rw [e]
    by_cases c1 : nI k = (44 : Int32)
    · have c2 : ¬ ¬ nI k = (44 : Int32) := fun q => q c1
      rw [if_neg c2, if_neg c2]; exact Or.inr ⟨by decide, by decide, rfl⟩
    · rw [if_pos c1, if_pos c1]; exact Or.inl ⟨rfl, rfl⟩
/-- the same text -/
def TXT (M m : PM) (len : Nat) : Prop := len ≤ 60 ∧ ∀ i, i < len → ∃ k, 33 ≤ k ∧ k ≤ 126 ∧ tex m i = nI k ∧ M.1 2 11 0 i = nI k
theorem txt_at {M m : PM} {len : Nat} (H : TXT M m len) {i : Nat} (hi : i < len) : v_X1_at M 11 0 (nI i) = tex m i := by
  have h60 := H.1
  obtain ⟨k, _, _, e1, e2⟩ := H.2 i hi
  rw [at_in (k := 11) (g := 0) (show i < 60 by omega), e1]
  exact e2
theorem fault_R {M m : PM} {len : Nat} (H : TXT M m len) (hl : M.1 6 0 0 1 = nI len) (f : Nat → Int32) (q : Nat) (n : Int32) : v_X3_firstFault M = nI (rgt (tex m) len 0 f q n 0).1 ∧ (v_X3_isComplete M = if (rgt (tex m) len 0 f q n 0).1 = len ∧ (rgt (tex m) len 0 f q n 0).2.2.2.2 = 2 then 1 else 0) := by
  have h60 := H.1
  have K : ∀ e k f q n d dc, k + e = len → csD dc n d = true → lqr (fun _ : Int32 => nI len) (lq (b_X3_firstFault_1 M) e k dc) = nI (rgt (tex m) e k f q n d).1 ∧ (lp (b_X3_isComplete_1 M) e k dc = 4 ↔ (rgt (tex m) e k f q n d).1 = len ∧ (rgt (tex m) e k f q n d).2.2.2.2 = 2) := by
    intro e
    induction e with
    | zero =>
      intro k f q n d dc hk hc
      rw [lq_0, lp_0]
      have : k = len := by omega
      subst this
      refine ⟨rfl, ?_⟩
      show dc = 4 ↔ k = k ∧ d = 2
      unfold csD at hc
      simp only [Bool.or_eq_true, Bool.and_eq_true, beq_iff_eq] at hc
      rcases hc with (((⟨rfl, rfl⟩ | ⟨⟨rfl, rfl⟩, rfl⟩) | ⟨⟨rfl, rfl⟩, rfl⟩) | ⟨⟨rfl, rfl⟩, h⟩) | ⟨rfl, rfl⟩
      · exact ⟨fun u => absurd u (by decide), fun u => absurd u.2 (by decide)⟩
      · exact ⟨fun u => absurd u (by decide), fun u => absurd u.2 (by decide)⟩
      · exact ⟨fun u => absurd u (by decide), fun u => absurd u.2 (by decide)⟩
      · exact ⟨fun u => absurd u (by decide), fun u => absurd u.2 (by decide)⟩
      · exact ⟨fun _ => ⟨rfl, rfl⟩, fun _ => rfl⟩
    | succ e ih =>
      intro k f q n d dc hk hc
      obtain ⟨c, h1, h2, e1, e2⟩ := H.2 k (by omega)
      have ea := txt_at H (show k < len by omega)
      have s := cs_step hc h1 h2
      rw [← e1] at s
      have eb : b_X3_isComplete_1 M k dc = v_X3_dueAfter pm0 dc (tex m k) := by unfold b_X3_isComplete_1; rw [ea]; rfl
      unfold rgt
      rw [lp_s, eb]
      rcases s with ⟨s1, s2⟩ | ⟨s1, s2, s3⟩
      · have hb : b_X3_firstFault_1 M k dc = .inr (nI k) := by
          unfold b_X3_firstFault_1
          rw [ea, due_m, s1, if_neg (fun u => u rfl)]
        rw [lq_r hb, if_pos s2, s1]
        refine ⟨rfl, ?_⟩
        have l5 : lp (b_X3_isComplete_1 M) e (k + 1) 5 = 5 := lp_inv (b_X3_isComplete_1 M) len (fun _ s => s = 5) (fun j s _ hs => by unfold b_X3_isComplete_1; rw [hs]; rfl) e (k + 1) 5 (by omega) rfl
        rw [l5]
        refine ⟨fun u => absurd u (by decide), fun u => ?_⟩
        have : k = len := u.1
        omega
      · have hb : b_X3_firstFault_1 M k dc = .inl (v_X3_dueAfter pm0 dc (tex m k)) := by
          unfold b_X3_firstFault_1
          rw [ea, due_m, if_pos s1]
        rw [lq_l hb, if_neg s2]
        exact ih (k + 1) _ _ _ _ _ (by omega) s3
  obtain ⟨k1, k2⟩ := K len 0 f q n 0 0 (by omega) rfl
  unfold v_X3_firstFault v_X3_isComplete
  rw [hl, nI_clamp (by omega)]
  refine ⟨k1, ?_⟩
  by_cases c : lp (b_X3_isComplete_1 M) len 0 0 = 4
  · rw [if_neg (fun u => u c), if_pos (k2.mp c)]
  · rw [if_pos c, if_neg (fun u => c (k2.mpr u))]
