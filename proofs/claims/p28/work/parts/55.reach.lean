/-! two ways to close a mask under the hands waited for -/
def sub (x y : Int32) : Prop := ∀ i, i < 32 → bit x i = true → bit y i = true
def low (x : Int32) : Prop := ∀ i, i < 32 → bit x i = true → i < 8
def clsd (D : Nat → Int32) (s : Int32) : Prop := ∀ o, o < 8 → bit s o = true → sub (D o) s
theorem sub_refl (x : Int32) : sub x x := fun _ _ h => h
theorem sub_trans {x y z : Int32} (h : sub x y) (h2 : sub y z) : sub x z := fun i hi q => h2 i hi (h i hi q)
theorem sub_or1 (x y : Int32) : sub x (x ||| y) := fun i _ h => by rw [bit_or, h]; rfl
theorem sub_or2 (x y : Int32) : sub y (x ||| y) := fun i _ h => by rw [bit_or, h, Bool.or_true]
theorem sub_or {x y z : Int32} (h : sub x z) (h2 : sub y z) : sub (x ||| y) z := fun i hi q => by
  rw [bit_or, Bool.or_eq_true] at q
  exact q.elim (h i hi) (h2 i hi)
theorem sub_anti {x y : Int32} (h : sub x y) (h2 : sub y x) : x = y := bit_ext (fun i hi => by
  rw [Bool.eq_iff_iff]
  exact ⟨h i hi, h2 i hi⟩)
def b1 (x : Int32) (i : Nat) : Nat := if bit x i = true then 1 else 0
def cnt (x : Int32) : Nat := b1 x 0 + b1 x 1 + b1 x 2 + b1 x 3 + b1 x 4 + b1 x 5 + b1 x 6 + b1 x 7
theorem b1_le (x : Int32) (i : Nat) : b1 x i ≤ 1 := by
  unfold b1; split <;> omega
theorem b1_mono {x y : Int32} (h : sub x y) (i : Nat) (hi : i < 32) : b1 x i ≤ b1 y i := by
  unfold b1
  by_cases c : bit x i = true
  · rw [if_pos c, if_pos (h i hi c)]; omega
  · rw [if_neg c]; omega
theorem cnt_le (x : Int32) : cnt x ≤ 8 := by
  unfold cnt
  have := b1_le x 0; have := b1_le x 1; have := b1_le x 2; have := b1_le x 3; have := b1_le x 4; have := b1_le x 5; have := b1_le x 6; have := b1_le x 7
  omega
theorem cnt_lt {x y : Int32} (h : sub x y) (hl : low y) (hne : ¬ y = x) : cnt x < cnt y := by
  have ex : ∃ i, i < 8 ∧ b1 x i = 0 ∧ b1 y i = 1 := by
    apply Classical.byContradiction
    intro no
    apply hne
    refine (sub_anti h (fun i hi q => ?_)).symm
    apply Classical.byContradiction
    intro c
    exact no ⟨i, hl i hi q, by unfold b1; rw [if_neg c], by unfold b1; rw [if_pos q]⟩
  obtain ⟨i, hi, e0, e1⟩ := ex
  unfold cnt
  have := b1_mono h 0 (by omega); have := b1_mono h 1 (by omega); have := b1_mono h 2 (by omega); have := b1_mono h 3 (by omega); have := b1_mono h 4 (by omega); have := b1_mono h 5 (by omega); have := b1_mono h 6 (by omega); have := b1_mono h 7 (by omega)
  rcases (show i = 0 ∨ i = 1 ∨ i = 2 ∨ i = 3 ∨ i = 4 ∨ i = 5 ∨ i = 6 ∨ i = 7 by omega) with rfl | rfl | rfl | rfl | rfl | rfl | rfl | rfl <;> omega
/-- a mask with no hand is closed, another counts -/
theorem clsd_or (D : Nat → Int32) (s : Int32) : clsd D s ∨ 0 < cnt s := by
  by_cases c : cnt s = 0
  · left
    intro o ho hb
    exfalso
    have e : b1 s o = 1 := by unfold b1; rw [if_pos hb]
    unfold cnt at c
    rcases (show o = 0 ∨ o = 1 ∨ o = 2 ∨ o = 3 ∨ o = 4 ∨ o = 5 ∨ o = 6 ∨ o = 7 by omega) with rfl | rfl | rfl | rfl | rfl | rfl | rfl | rfl <;> omega
  · right; omega
/-- a round that adds what is waited for by the hands of c: c may be a mask fixed, or the one that grows -/
def RD (D : Nat → Int32) (P : Int32 → Int32) : Prop := ∀ s, sub s (P s) ∧ (∀ o, o < 8 → bit s o = true → sub (D o) (P s)) ∧ (∀ S, clsd D S → sub s S → sub (P s) S) ∧ ((∀ o, o < 8 → low (D o)) → low s → low (P s))
theorem rd_fix {D : Nat → Int32} {P : Int32 → Int32} (h : RD D P) {s : Int32} (e : P s = s) : clsd D s := by
  intro o ho hb
  have := (h s).2.1 o ho hb
  rw [e] at this
  exact this
theorem rd_cl {D : Nat → Int32} {P : Int32 → Int32} (h : RD D P) {s : Int32} (c : clsd D s) : P s = s := sub_anti ((h s).2.2.1 s c (sub_refl s)) (h s).1
theorem rd_step {D : Nat → Int32} {P : Int32 → Int32} (h : RD D P) {s : Int32} {k : Nat} (hD : ∀ o, o < 8 → low (D o)) (hl : low s) (hk : clsd D s ∨ k < cnt s) : clsd D (P s) ∨ k + 1 < cnt (P s) := by
  rcases hk with c | c
  · left; rw [rd_cl h c]; exact c
  · by_cases e : P s = s
    · left; rw [e]; exact rd_fix h e
    · right
      have := cnt_lt (h s).1 ((h s).2.2.2 hD hl) e
      omega
/-- eight rounds close -/
theorem rd_lp {D : Nat → Int32} {P : Int32 → Int32} (h : RD D P) (hD : ∀ o, o < 8 → low (D o)) (s : Int32) (hl : low s) : clsd D (lp (fun _ t => P t) 8 0 s) ∧ sub s (lp (fun _ t => P t) 8 0 s) ∧ low (lp (fun _ t => P t) 8 0 s) ∧ ∀ S, clsd D S → sub s S → sub (lp (fun _ t => P t) 8 0 s) S := by
  have k := lp_inv (fun _ t => P t) 8 (fun j t => (clsd D t ∨ j < cnt t) ∧ sub s t ∧ low t ∧ ∀ S, clsd D S → sub s S → sub t S) (fun j t _ ht => ⟨rd_step h hD ht.2.2.1 ht.1, sub_trans ht.2.1 (h t).1, (h t).2.2.2 hD ht.2.2.1, fun S hS q => (h t).2.2.1 S hS (ht.2.2.2 S hS q)⟩) 8 0 s rfl ⟨clsd_or D s, sub_refl s, hl, fun _ _ q => q⟩
  refine ⟨?_, k.2⟩
  rcases k.1 with c | c
  · exact c
  · have := cnt_le (lp (fun _ t => P t) 8 0 s)
    omega
/-- rounds that stop when nothing is added -/
theorem rd_lq {D : Nat → Int32} {P : Int32 → Int32} (h : RD D P) (hD : ∀ o, o < 8 → low (D o)) (b : Nat → Int32 → Int32 ⊕ Int32) (hb : ∀ j t, b j t = if ¬ P t = t then .inl (P t) else .inr t) (s : Int32) : ∀ n j t, n + j = 8 → (clsd D t ∨ j < cnt t) → sub s t → low t → (∀ S, clsd D S → sub s S → sub t S) → clsd D (lqv (lq b n j t)) ∧ sub s (lqv (lq b n j t)) ∧ low (lqv (lq b n j t)) ∧ ∀ S, clsd D S → sub s S → sub (lqv (lq b n j t)) S := by
  intro n
  induction n with
  | zero =>
    intro j t e hk h1 h2 h3
    rw [lq_0]
    refine ⟨?_, h1, h2, h3⟩
    rcases hk with c | c
    · exact c
    · have := cnt_le t
      omega
  | succ n ih =>
    intro j t e hk h1 h2 h3
    by_cases c : P t = t
    · rw [lq_r (r := t) (by rw [hb, if_neg (fun q => q c)])]
      exact ⟨rd_fix h c, h1, h2, h3⟩
    · rw [lq_l (s2 := P t) (by rw [hb, if_pos c])]
      exact ih (j + 1) (P t) (by omega) (rd_step h hD h2 hk) (sub_trans h1 (h t).1) ((h t).2.2.2 hD h2) (fun S hS q => (h t).2.2.1 S hS (h3 S hS q))

