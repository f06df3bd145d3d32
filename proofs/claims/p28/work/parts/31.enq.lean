/-! enqueue -/
/-- the place behind the holders that stand first: d are left, p passed -/
def hpz (z : Nat → Int32) (r : Nat) : Nat → Nat → Nat
  | 0, p => p
  | d + 1, p => if z (5 + 12 * (z (137 + 8 * r + p)).toNatClampNeg + r) ≤ 0 then p else hpz z r d (p + 1)
theorem hpz_le (z : Nat → Int32) (r : Nat) : ∀ d p, p ≤ hpz z r d p ∧ hpz z r d p ≤ p + d := by
  intro d
  induction d with
  | zero => intro p; unfold hpz; omega
  | succ d ih =>
    intro p
    unfold hpz
    have := ih (p + 1)
    split <;> omega
/-- the places behind k moved up by one, n in the queue -/
def eqz (z : Nat → Int32) (r k n : Nat) (i : Nat) : Int32 := if 137 + 8 * r + k < i ∧ i ≤ 137 + 8 * r + n then z (i - 1) else if 233 + 8 * r + k < i ∧ i ≤ 233 + 8 * r + n then z (i - 1) else z i
/-- hand h stands at place pl of the row's queue, with its mode -/
def enz (z : Nat → Int32) (r h : Nat) (md : Int32) (pl n : Nat) (i : Nat) : Int32 := if i = 125 + r then nI (n + 1) else if i = 233 + 8 * r + pl then md else if i = 137 + 8 * r + pl then nI h else eqz z r pl n i
def plz (z : Nat → Int32) (r h n : Nat) : Nat := if z (5 + 12 * h + r) ≤ 0 then n else hpz z r n 0
theorem plz_le (z : Nat → Int32) (r h n : Nat) : plz z r h n ≤ n := by
  unfold plz
  have := hpz_le z r n 0
  split <;> omega
