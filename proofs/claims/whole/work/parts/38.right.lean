/-! rightUpTo -/
def tkf (f : Nat → Int32) (q : Nat) (n d c : Int32) : Nat → Int32 := if ¬ d = 0 then (if ¬ d = (1 : Int32) then f else if n = (-1 : Int32) then f else if mdf c = (-1 : Int32) then f else upd (upd f (3 * q + 1) n) (3 * q + 2) (mdf c)) else upd f (3 * q) (c - 97)
def tkQ (q : Nat) (d : Int32) : Nat := if ¬ d = 0 then (if ¬ d = (1 : Int32) then q + 1 else q) else q
def tkn (n d c : Int32) : Int32 := if ¬ d = 0 then (if ¬ d = (1 : Int32) then n else if n = (-1 : Int32) then (if dgv n (c - 48) = 0 then n else dgn n (c - 48)) else if mdf c = (-1 : Int32) then (if dgv n (c - 48) = 0 then n else dgn n (c - 48)) else n) else -1
def tkd (n d c : Int32) : Int32 := if ¬ d = 0 then (if ¬ d = (1 : Int32) then 0 else if n = (-1 : Int32) then d else if mdf c = (-1 : Int32) then d else 2) else 1
theorem tkm_eq (m : PM) (f : Nat → Int32) (q : Nat) (n d c : Int32) : tkm m f q n d c = setp m (tkf f q n d c) (tkQ q d) (tkn n d c) (tkd n d c) := by
  unfold tkm tkf tkQ tkn tkd
  by_cases c1 : d = 0
  · have c1' : ¬ ¬ d = 0 := fun k => k c1
    rw [if_neg c1', if_neg c1', if_neg c1', if_neg c1', if_neg c1']
  · rw [if_pos c1, if_pos c1, if_pos c1, if_pos c1, if_pos c1]
    by_cases c2 : d = (1 : Int32)
    · have c2' : ¬ ¬ d = (1 : Int32) := fun k => k c2
      rw [if_neg c2', if_neg c2', if_neg c2', if_neg c2', if_neg c2']
      by_cases c3 : n = (-1 : Int32)
      · rw [if_pos c3, if_pos c3, if_pos c3, if_pos c3]
      · rw [if_neg c3, if_neg c3, if_neg c3, if_neg c3]
        by_cases c4 : mdf c = (-1 : Int32)
        · rw [if_pos c4, if_pos c4, if_pos c4, if_pos c4]
        · rw [if_neg c4, if_neg c4, if_neg c4, if_neg c4]
    · rw [if_pos c2, if_pos c2, if_pos c2, if_pos c2, if_pos c2]
/-- read on from sign k, e signs are left: where it ends, and with which parts, number of parts, number, due -/
def rgt (tx : Nat → Int32) : Nat → Nat → (Nat → Int32) → Nat → Int32 → Int32 → Nat × (Nat → Int32) × Nat × Int32 × Int32
  | 0, k, f, q, n, d => (k, f, q, n, d)
  | e + 1, k, f, q, n, d => if tkv n d (tx k) = 0 then (k, tkf f q n d (tx k), tkQ q d, tkn n d (tx k), tkd n d (tx k)) else rgt tx e (k + 1) (tkf f q n d (tx k)) (tkQ q d) (tkn n d (tx k)) (tkd n d (tx k))
/-- how far the parts have come -/
def rgI (k q : Nat) (n d : Int32) : Prop := (d = 0 ∧ 4 * q ≤ k) ∨ (d = 1 ∧ n = -1 ∧ 4 * q + 1 ≤ k) ∨ (d = 1 ∧ ¬ n = -1 ∧ 4 * q + 2 ≤ k) ∨ (d = 2 ∧ 4 * q + 3 ≤ k)
theorem dgn_ok {n a : Int32} (h : ¬ dgv n a = 0) : ¬ dgn n a = -1 := by
  intro e
  apply h
  unfold dgv
  rw [e]
  (repeat' split) <;> first | rfl | (rename_i q; exact absurd (by decide) q)
theorem rgI_s {k q : Nat} {n d c : Int32} (h : rgI k q n d) (hv : ¬ tkv n d c = 0) : rgI (k + 1) (tkQ q d) (tkn n d c) (tkd n d c) := by
  unfold tkv at hv
  rcases h with ⟨rfl, h⟩ | ⟨rfl, rfl, h⟩ | ⟨rfl, hn, h⟩ | ⟨rfl, h⟩
  · right; left
    refine ⟨rfl, rfl, ?_⟩
    show 4 * q + 1 ≤ k + 1
    omega
  · have hv : ¬ dgv (-1) (c - 48) = 0 := hv
    right; right; left
    refine ⟨rfl, ?_, ?_⟩
    · show ¬ (if dgv (-1) (c - 48) = 0 then (-1 : Int32) else dgn (-1) (c - 48)) = -1
      rw [if_neg hv]
      exact dgn_ok hv
    · show 4 * q + 2 ≤ k + 1
      omega
  · have hv : ¬ (if n = (-1 : Int32) then dgv n (c - 48) else if mdf c = (-1 : Int32) then dgv n (c - 48) else 1) = 0 := hv
    rw [if_neg hn] at hv
    have en : tkn n 1 c = if mdf c = (-1 : Int32) then (if dgv n (c - 48) = 0 then n else dgn n (c - 48)) else n := by
      show (if n = (-1 : Int32) then _ else _) = _
      rw [if_neg hn]
    have ed : tkd n 1 c = if mdf c = (-1 : Int32) then 1 else 2 := by
      show (if n = (-1 : Int32) then _ else _) = _
      rw [if_neg hn]
    rw [en, ed]
    by_cases c4 : mdf c = (-1 : Int32)
    · rw [if_pos c4] at hv
      rw [if_pos c4, if_pos c4, if_neg hv]
      right; right; left
      refine ⟨rfl, dgn_ok hv, ?_⟩
      show 4 * q + 2 ≤ k + 1
      omega
    · rw [if_neg c4, if_neg c4]
      right; right; right
      refine ⟨rfl, ?_⟩
      show 4 * q + 3 ≤ k + 1
      omega
  · left
    refine ⟨rfl, ?_⟩
    show 4 * (q + 1) ≤ k + 1
    omega
theorem rgI_q {k q : Nat} {n d : Int32} (h : rgI k q n d) : 4 * q ≤ k := by
  rcases h with h | h | h | h <;> omega
def tex (m : PM) (i : Nat) : Int32 := m.1 8 2 0 i
def rgtM (m : PM) (len : Nat) : Nat × (Nat → Int32) × Nat × Int32 × Int32 := rgt (tex m) len 0 (fun i => m.1 8 3 0 i) 0 (m.1 7 0 0 8) 0
def setq (m : PM) (x : (Nat → Int32) × Nat × Int32 × Int32) : PM := setp m x.1 x.2.1 x.2.2.1 x.2.2.2
def w_X5_rightUpTo (m : PM) (len : Nat) : PM := setq m (rgtM m len).2
theorem z_tkv (n d c : Int32) : tkv n d c = 0 ∨ tkv n d c = 1 := by
  unfold tkv
  (repeat' split) <;> first | exact Or.inl rfl | exact Or.inr rfl | exact z_dgv _ _ | exact z_inn _ _ _
theorem r_X5_rightUpTo (m : PM) (len : Nat) (hl : m.1 7 0 0 3 = nI len) (h60 : len ≤ 60) : Rn MX5_rightUpTo [vR 7 0 0] m (some (vI (nI (rgtM m len).1))) (w_X5_rightUpTo m len) := by
  refine rn_of [some (vR 7 0 0), none] rfl ?_
  refine an_b 8 (pc2 := 12) (L2 := [some (vR 7 0 0), some (vI 0)]) (st2 := []) (m1 := wI (wI m 7 0 0 7 0) 7 0 0 9 0) rfl ?_
  have e0 : wI (wI m 7 0 0 7 0) 7 0 0 9 0 = setp m (fun i => m.1 8 3 0 i) 0 (m.1 7 0 0 8) 0 := by
    unfold wI setp
    congr 1
    funext t k g j
    dsimp only
    (repeat' split) <;> first | rfl | (exfalso; omega) | (rename_i q; obtain ⟨rfl, rfl, rfl⟩ := q; rfl) | (rename_i q; obtain ⟨rfl, rfl, rfl, rfl⟩ := q; rfl)
  rw [e0]
  unfold w_X5_rightUpTo rgtM
  suffices K : ∀ e k f q n d, k + e = len → rgI k q n d → An MX5_rightUpTo 12 [some (vR 7 0 0), some (vI (nI k))] [] (setp m f q n d) (.inl (some (vI (nI (rgt (tex m) e k f q n d).1)))) (setq m (rgt (tex m) e k f q n d).2) from K len 0 _ 0 _ 0 (Nat.zero_add _) (Or.inl ⟨rfl, Nat.le_refl _⟩)
  intro e
  induction e with
  | zero =>
    intro k f q n d hk hI
    obtain rfl : k = len := by omega
    refine an_b 3 (pc2 := 17) (L2 := [some (vR 7 0 0), some (vI (nI k))]) (st2 := [vI ((setp m f q n d).1 7 0 0 3), vI (nI k)]) (m1 := setp m f q n d) rfl ?_
    rw [setp_o _ _ _ _ _ _ _ _ _ (by omega) (by omega), hl]
    refine an_b 1 (pc2 := if nI k ≤ nI k then 39 else 20) (L2 := [some (vR 7 0 0), some (vI (nI k))]) (st2 := []) (m1 := setp m f q n d) rfl ?_
    refine an_t (nI_le (Nat.le_refl _) (by omega)) ?_
    refine an_b 1 (pc2 := 40) (L2 := [some (vR 7 0 0), some (vI (nI k))]) (st2 := [vI (nI k)]) (m1 := setp m f q n d) rfl ?_
    exact an_ret rfl rfl rfl rfl rfl
  | succ e ih =>
    intro k f q n d hk hI
    have hq := rgI_q hI
    refine an_b 3 (pc2 := 17) (L2 := [some (vR 7 0 0), some (vI (nI k))]) (st2 := [vI ((setp m f q n d).1 7 0 0 3), vI (nI k)]) (m1 := setp m f q n d) rfl ?_
    rw [setp_o _ _ _ _ _ _ _ _ _ (by omega) (by omega), hl]
    refine an_b 1 (pc2 := if nI len ≤ nI k then 39 else 20) (L2 := [some (vR 7 0 0), some (vI (nI k))]) (st2 := []) (m1 := setp m f q n d) rfl ?_
    refine an_f (nI_ge (by omega) (by omega)) ?_
    refine an_b 4 (pc2 := 26) (L2 := [some (vR 7 0 0), some (vI (nI k))]) (st2 := [vI (nI k), vR 8 2 0, vR 7 0 0]) (m1 := setp m f q n d) rfl ?_
    refine an_ald k 60 rfl rfl rfl (by omega) (by omega) ?_
    rw [setp_o _ _ _ _ _ _ _ _ _ (by omega) (by omega)]
    show An MX5_rightUpTo 27 [some (vR 7 0 0), some (vI (nI k))] [vI (tex m k), vR 7 0 0] (setp m f q n d) _ _
    refine an_call (r_X5_takes m f q n d (tex m k) (by omega)) rfl rfl rfl rfl ?_
    rw [tkm_eq]
    refine an_b 1 (pc2 := if tkv n d (tex m k) = 0 then 39 else 33) (L2 := [some (vR 7 0 0), some (vI (nI k))]) (st2 := []) (m1 := setp m (tkf f q n d (tex m k)) (tkQ q d) (tkn n d (tex m k)) (tkd n d (tex m k))) rfl ?_
    unfold rgt
    by_cases c : tkv n d (tex m k) = 0
    · refine an_t c ?_
      rw [if_pos c]
      refine an_b 1 (pc2 := 40) (L2 := [some (vR 7 0 0), some (vI (nI k))]) (st2 := [vI (nI k)]) (m1 := setp m (tkf f q n d (tex m k)) (tkQ q d) (tkn n d (tex m k)) (tkd n d (tex m k))) rfl ?_
      exact an_ret rfl rfl rfl rfl rfl
    · refine an_f c ?_
      rw [if_neg c]
      refine an_b 2 (pc2 := 12) (L2 := [some (vR 7 0 0), some (vI (nI k + 1))]) (st2 := []) (m1 := setp m (tkf f q n d (tex m k)) (tkQ q d) (tkn n d (tex m k)) (tkd n d (tex m k))) rfl ?_
      rw [nI_1]
      exact ih (k + 1) _ _ _ _ (by omega) (rgI_s hI c)
