/-! less known of the locals: what runs so, runs so with more known -/
def LE : List (Option PV) → List (Option PV) → Prop
  | [], [] => True
  | none :: r, _ :: q => LE r q
  | some a :: r, some b :: q => a = b ∧ LE r q
  | _, _ => False
theorem le_len : ∀ {L K : List (Option PV)}, LE L K → L.length = K.length
  | [], [], _ => rfl
  | [], _ :: _, h => h.elim
  | none :: r, [], h => h.elim
  | some a :: r, [], h => h.elim
  | none :: r, b :: q, h => by simp only [List.length_cons]; rw [le_len (L := r) (K := q) h]
  | some a :: r, none :: q, h => h.elim
  | some a :: r, some b :: q, h => by simp only [List.length_cons]; rw [le_len h.2]
theorem le_get : ∀ {L K : List (Option PV)}, LE L K → ∀ {k : Nat} {v : PV}, L[k]? = some (some v) → K[k]? = some (some v)
  | [], [], _, k, v, h => h
  | [], _ :: _, h, _, _, _ => h.elim
  | none :: r, [], h, _, _, _ => h.elim
  | some a :: r, [], h, _, _, _ => h.elim
  | none :: r, b :: q, h, 0, v, hk => by cases hk
  | none :: r, b :: q, h, k + 1, v, hk => le_get (L := r) (K := q) h (k := k) hk
  | some a :: r, none :: q, h, _, _, _ => h.elim
  | some a :: r, some b :: q, h, 0, v, hk => by rw [← h.1]; exact hk
  | some a :: r, some b :: q, h, k + 1, v, hk => le_get h.2 (k := k) hk
theorem le_refl : ∀ (L : List (Option PV)), LE L L
  | [] => trivial
  | none :: r => le_refl r
  | some a :: r => ⟨rfl, le_refl r⟩
theorem le_set : ∀ {L K : List (Option PV)}, LE L K → ∀ (k : Nat) (x : Option PV), LE (L.set k x) (K.set k x)
  | [], [], _, k, x => trivial
  | [], _ :: _, h, _, _ => h.elim
  | none :: r, [], h, _, _ => h.elim
  | some a :: r, [], h, _, _ => h.elim
  | none :: r, b :: q, h, 0, none => h
  | none :: r, b :: q, h, 0, some v => ⟨rfl, h⟩
  | none :: r, b :: q, h, k + 1, x => le_set (L := r) (K := q) h k x
  | some a :: r, none :: q, h, _, _ => h.elim
  | some a :: r, some b :: q, h, 0, none => h.2
  | some a :: r, some b :: q, h, 0, some v => ⟨rfl, h.2⟩
  | some a :: r, some b :: q, h, k + 1, x => ⟨h.1, le_set h.2 k x⟩
theorem le_setn : ∀ {L K : List (Option PV)}, LE L K → ∀ (k : Nat), LE (L.set k none) K
  | [], [], _, k => trivial
  | [], _ :: _, h, _ => h.elim
  | none :: r, [], h, _ => h.elim
  | some a :: r, [], h, _ => h.elim
  | none :: r, b :: q, h, 0 => h
  | none :: r, b :: q, h, k + 1 => le_setn (L := r) (K := q) h k
  | some a :: r, none :: q, h, _ => h.elim
  | some a :: r, some b :: q, h, 0 => h.2
  | some a :: r, some b :: q, h, k + 1 => ⟨h.1, le_setn h.2 k⟩
theorem le_clr {L K : List (Option PV)} (h : LE L K) (i : Nat) : LE (clr L i) (clr K i) := by
  unfold clr
  cases i with
  | zero => exact h
  | succ j =>
    dsimp only
    cases hk : K[j]? with
    | none =>
      have hl : L[j]? = none := by
        rw [List.getElem?_eq_none_iff] at hk ⊢
        rw [le_len h]; exact hk
      rw [hl]; exact h
    | some o =>
      cases hl : L[j]? with
      | none =>
        rw [List.getElem?_eq_none_iff, le_len h] at hl
        rw [List.getElem?_eq_none_iff.mpr hl] at hk
        cases hk
      | some a =>
        cases a with
        | none =>
          cases o with
          | none => exact h
          | some w =>
            dsimp only
            split
            · have h2 := le_set h j none
              have e : L.set j none = L := by
                apply List.ext_getElem?
                intro q
                by_cases hq : q = j
                · subst hq
                  rw [List.getElem?_set_self (List.getElem?_eq_some_iff.mp hl).1, hl]
                · rw [List.getElem?_set_ne (Ne.symm hq)]
              rw [e] at h2
              exact h2
            · exact h
        | some w =>
          have h3 := le_get h hl
          rw [hk] at h3
          cases h3
          dsimp only
          split
          · exact le_set h j none
          · exact h
theorem le_lset {L K L2 : List (Option PV)} (h : LE L K) {i : Nat} {v : PV} (e : lset L i v = some L2) : ∃ K2, lset K i v = some K2 ∧ LE L2 K2 := by
  obtain ⟨hi, rfl⟩ := lset_len e
  exact ⟨_, by unfold lset; rw [if_pos (by rw [← le_len h]; exact hi)], le_set (le_clr h i) i (some v)⟩
theorem le_lset2 {L K L2 : List (Option PV)} (h : LE L K) {i : Nat} {v : PV} (e : lset2 L i v = some L2) : ∃ K2, lset2 K i v = some K2 ∧ LE L2 K2 := by
  obtain ⟨hi, rfl⟩ := lset2_len e
  exact ⟨_, by unfold lset2; rw [if_pos (by rw [← le_len h]; exact hi)], le_set (le_set (le_clr h i) i (some v)) (i + 1) none⟩
section LW
variable {o n pc pc2 : Nat} {L K L2 : List (Option PV)} {st st2 : List PV} {m m2 : PM} {i : Instr}
theorem le_a (hL : LE L K) (h : sm_a i n pc L st m = some (pc2, L2, st2, m2)) : L2 = L ∧ sm_a i n pc K st m = some (pc2, K, st2, m2) := by
  unfold sm_a at h
  split at h
  · cases h; exact ⟨rfl, rfl⟩
  · cases h; exact ⟨rfl, rfl⟩
  · cases h; exact ⟨rfl, rfl⟩
  · cases h; exact ⟨rfl, rfl⟩
  · cases h; exact ⟨rfl, rfl⟩
  · cases h; exact ⟨rfl, rfl⟩
  · split at h
    · next hk => cases h; exact ⟨rfl, by unfold sm_a; simp only [le_get hL hk]⟩
    · cases h
  · split at h
    · next hk => cases h; exact ⟨rfl, by unfold sm_a; simp only [le_get hL hk]⟩
    · cases h
  · split at h
    · next hk => cases h; exact ⟨rfl, by unfold sm_a; simp only [le_get hL hk]⟩
    · cases h
  · split at h
    · next hk => cases h; exact ⟨rfl, by unfold sm_a; simp only [le_get hL hk]⟩
    · cases h
  · split at h
    · next hk => cases h; exact ⟨rfl, by unfold sm_a; simp only [le_get hL hk]⟩
    · cases h
  · split at h
    · next hk => cases h; exact ⟨rfl, by unfold sm_a; simp only [le_get hL hk]⟩
    · cases h
  · split at h
    · next hk => cases h; exact ⟨rfl, by unfold sm_a; simp only [le_get hL hk]⟩
    · cases h
  · split at h
    · next hk => cases h; exact ⟨rfl, by unfold sm_a; simp only [le_get hL hk]⟩
    · cases h
  · cases h
theorem le_b (hL : LE L K) (h : sm_b i n pc L st m = some (pc2, L2, st2, m2)) : ∃ K2, sm_b i n pc K st m = some (pc2, K2, st2, m2) ∧ LE L2 K2 := by
  unfold sm_b at h
  split at h
  · split at h
    · split at h
      · next hk => cases h; obtain ⟨K2, h1, h2⟩ := le_lset hL hk; exact ⟨K2, by unfold sm_b; simp only [h1], h2⟩
      · cases h
    · cases h
  · split at h
    · split at h
      · next hk => cases h; obtain ⟨K2, h1, h2⟩ := le_lset hL hk; exact ⟨K2, by unfold sm_b; simp only [h1], h2⟩
      · cases h
    · cases h
  · split at h
    · split at h
      · next hk => cases h; obtain ⟨K2, h1, h2⟩ := le_lset2 hL hk; exact ⟨K2, by unfold sm_b; simp only [h1], h2⟩
      · cases h
    · cases h
  · split at h
    · split at h
      · next hk => cases h; obtain ⟨K2, h1, h2⟩ := le_lset2 hL hk; exact ⟨K2, by unfold sm_b; simp only [h1], h2⟩
      · cases h
    · cases h
  · split at h
    · split at h
      · next hk => cases h; obtain ⟨K2, h1, h2⟩ := le_lset2 hL hk; exact ⟨K2, by unfold sm_b; simp only [h1], h2⟩
      · cases h
    · cases h
  · split at h
    · split at h
      · next hk => cases h; obtain ⟨K2, h1, h2⟩ := le_lset2 hL hk; exact ⟨K2, by unfold sm_b; simp only [h1], h2⟩
      · cases h
    · cases h
  · split at h
    · split at h
      · next hk => cases h; obtain ⟨K2, h1, h2⟩ := le_lset hL hk; exact ⟨K2, by unfold sm_b; simp only [h1], h2⟩
      · cases h
    · cases h
  · split at h
    · split at h
      · next hk => cases h; obtain ⟨K2, h1, h2⟩ := le_lset hL hk; exact ⟨K2, by unfold sm_b; simp only [h1], h2⟩
      · cases h
    · cases h
  · split at h
    · next hk0 =>
      split at h
      · next hk => cases h; obtain ⟨K2, h1, h2⟩ := le_lset hL hk; exact ⟨K2, by unfold sm_b; simp only [le_get hL hk0, h1], h2⟩
      · cases h
    · cases h
  · split at h
    · split at h
      · next hc => cases h; exact ⟨K, by unfold sm_b; simp only [if_pos hc], hL⟩
      · cases h
    · cases h
  · split at h
    · split at h
      · next hc =>
        split at h
        · next hc2 => cases h; exact ⟨K, by unfold sm_b; simp only [if_pos hc, if_pos hc2], hL⟩
        · cases h
      · cases h
    · cases h
  · split at h
    · split at h
      · next hc => cases h; exact ⟨K, by unfold sm_b; simp only [if_pos hc], hL⟩
      · cases h
    · cases h
  · cases h
theorem le_c (h : sm_c i n pc L st m = some (pc2, L2, st2, m2)) (K : List (Option PV)) : L2 = L ∧ sm_c i n pc K st m = some (pc2, K, st2, m2) := by
  unfold sm_c at h
  split at h
  iterate 8 (next => cases h; exact ⟨rfl, rfl⟩)
  iterate 2 (next =>
    split at h
    · cases h
    · next hc => cases h; exact ⟨rfl, by unfold sm_c; simp only [if_neg hc]⟩)
  iterate 11 (next => cases h; exact ⟨rfl, rfl⟩)
  iterate 3 (next =>
    split at h
    · next hc => cases h; exact ⟨rfl, by unfold sm_c; simp only [if_pos hc]⟩
    · cases h)
  next => cases h
set_option maxHeartbeats 4000000 in
theorem le_d (h : sm_d i n pc L st m = some (pc2, L2, st2, m2)) (K : List (Option PV)) : L2 = L ∧ sm_d i n pc K st m = some (pc2, K, st2, m2) := by
  unfold sm_d at h
  split at h
  all_goals (repeat' split at h)
  all_goals first
    | (cases h; done)
    | (simp only [Option.some.injEq, Prod.mk.injEq] at h
       obtain ⟨rfl, rfl, rfl, rfl⟩ := h
       refine ⟨rfl, ?_⟩
       unfold sm_d
       simp only [*, if_true, if_false, ite_true, ite_false, not_false_eq_true, not_true_eq_false]
       done)
    | (simp only [Option.some.injEq, Prod.mk.injEq] at h
       obtain ⟨rfl, rfl, rfl, rfl⟩ := h
       refine ⟨rfl, ?_⟩
       unfold sm_d
       simp [*])
set_option maxHeartbeats 4000000 in
theorem le_e (h : sm_e o i n pc L st m = some (pc2, L2, st2, m2)) (K : List (Option PV)) : L2 = L ∧ sm_e o i n pc K st m = some (pc2, K, st2, m2) := by
  unfold sm_e at h
  split at h
  all_goals (repeat' split at h)
  all_goals first
    | (cases h; done)
    | (simp only [Option.some.injEq, Prod.mk.injEq] at h
       obtain ⟨rfl, rfl, rfl, rfl⟩ := h
       refine ⟨rfl, ?_⟩
       unfold sm_e
       simp only [*, if_true, if_false, ite_true, ite_false, not_false_eq_true, not_true_eq_false]
       done)
    | (simp only [Option.some.injEq, Prod.mk.injEq] at h
       obtain ⟨rfl, rfl, rfl, rfl⟩ := h
       refine ⟨rfl, ?_⟩
       unfold sm_e
       simp [*])
end LW
