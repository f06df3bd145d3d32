/-! the model's row of numbers, and its queues -/
def zz (m : PM) (i : Nat) : Int32 := m.1 8 0 0 i
def setz (m : PM) (f : Nat → Int32) : PM := (fun t k g i => if t = 8 ∧ k = 0 ∧ g = 0 then f i else m.1 t k g i, m.2)
theorem zz_setz (m : PM) (f : Nat → Int32) : zz (setz m f) = f := by
  funext i
  unfold zz setz
  dsimp only
  rw [if_pos ⟨rfl, rfl, rfl⟩]
theorem zs (m : PM) (f : Nat → Int32) (i : Nat) : (setz m f).1 8 0 0 i = f i := congrFun (zz_setz m f) i
theorem setz_setz (m : PM) (f f2 : Nat → Int32) : setz (setz m f) f2 = setz m f2 := by
  unfold setz
  congr 1
  funext t k g i
  dsimp only
  by_cases h : t = 8 ∧ k = 0 ∧ g = 0
  · rw [if_pos h, if_pos h]
  · rw [if_neg h, if_neg h, if_neg h]
theorem setz_zz (m : PM) : setz m (zz m) = m := by
  obtain ⟨a, b⟩ := m
  unfold setz zz
  congr 1
  funext t k g i
  dsimp only
  by_cases h : t = 8 ∧ k = 0 ∧ g = 0
  · rw [if_pos h]; obtain ⟨rfl, rfl, rfl⟩ := h; rfl
  · rw [if_neg h]
theorem wI_setz (m : PM) (i : Nat) (v : Int32) : wI m 8 0 0 i v = setz m (upd (zz m) i v) := by
  unfold wI setz zz upd
  congr 1
  funext t k g j
  by_cases h : t = 8 ∧ k = 0 ∧ g = 0
  · obtain ⟨rfl, rfl, rfl⟩ := h
    by_cases hj : j = i
    · rw [if_pos ⟨rfl, rfl, rfl, hj⟩, if_pos ⟨rfl, rfl, rfl⟩, if_pos hj]
    · rw [if_neg (fun q => hj q.2.2.2), if_pos ⟨rfl, rfl, rfl⟩, if_neg hj]
  · rw [if_neg (fun q => h ⟨q.1, q.2.1, q.2.2.1⟩), if_neg h]
theorem wI_setz2 (m : PM) (f : Nat → Int32) (i : Nat) (v : Int32) : wI (setz m f) 8 0 0 i v = setz m (upd f i v) := by
  rw [wI_setz, zz_setz, setz_setz]
/-- the queue of row r without its place p, as far as place k is moved; n were in it -/
def uqz (z : Nat → Int32) (r p n k : Nat) (i : Nat) : Int32 := if i = 125 + r then nI (n - 1) else if 137 + 8 * r + p ≤ i ∧ i < 137 + 8 * r + k then z (i + 1) else if 233 + 8 * r + p ≤ i ∧ i < 233 + 8 * r + k then z (i + 1) else z i
/-- a queue's entries are hands -/
def QV (z : Nat → Int32) (r n : Nat) : Prop := z (125 + r) = nI n ∧ n ≤ 8 ∧ ∀ p, p < n → ∃ h, h < 8 ∧ z (137 + 8 * r + p) = nI h
/-- behind a grant of the request at place p, of hand h -/
def grz (z : Nat → Int32) (r p n h : Nat) : Nat → Int32 := uqz (upd (upd z (5 + 12 * h + r) (z (233 + 8 * r + p))) (345 + h) (z (345 + h) + 1)) r p n (n - 1)
/-- a memory with this row of numbers -/
def zm (z : Nat → Int32) : PM := setz ((fun _ _ _ _ => 0), (fun _ _ _ _ => 0)) z
def clz (z : Nat → Int32) (r : Nat) (md but : Int32) : Int32 := v_X5_clashing (zm z) r md but
theorem clz_eq (m : PM) (r : Nat) (md but : Int32) : v_X5_clashing m r md but = clz (zz m) r md but := by
  unfold clz v_X5_clashing
  have e : b_X5_clashing_1 m r md but = b_X5_clashing_1 (zm (zz m)) r md but := by
    funext j s
    unfold b_X5_clashing_1 v_X5_lockOf zm
    simp only [zs]
    rfl
  rw [e]
/-- a row is settled: n stand in its queue, c were granted -/
def stz (r : Nat) : Nat → (Nat → Int32) → Int32 → Int32 × (Nat → Int32)
  | 0, z, c => (c, z)
  | n + 1, z, c => if clz z r (z (233 + 8 * r)) (z (137 + 8 * r)) = 0 then stz r n (grz z r 0 (n + 1) (z (137 + 8 * r)).toNatClampNeg) (c + 1) else (c, z)
