/-! bits of an int -/
def bit (x : Int32) (i : Nat) : Bool := x.toBitVec.getLsbD i
theorem bit_ext {x y : Int32} (h : ∀ i, i < 32 → bit x i = bit y i) : x = y := by
  apply Int32.toBitVec_inj.1
  exact BitVec.eq_of_getLsbD_eq (fun i hi => h i hi)
theorem bit_or (x y : Int32) (i : Nat) : bit (x ||| y) i = (bit x i || bit y i) := by
  unfold bit
  rw [Int32.toBitVec_or, BitVec.getLsbD_or]
theorem bit_and (x y : Int32) (i : Nat) : bit (x &&& y) i = (bit x i && bit y i) := by
  unfold bit
  rw [Int32.toBitVec_and, BitVec.getLsbD_and]
theorem bit_0 (i : Nat) : bit 0 i = false := by
  unfold bit
  exact BitVec.getLsbD_zero
theorem sh_n : ∀ j, j < 32 → ((nI j &&& (31 : Int32)).toBitVec.smod 32#32).toNat = j := by decide
theorem bit_o (i : Nat) : bit 1 i = decide (i = 0) := by
  have e : bit 1 i = (1#32).getLsbD i := rfl
  rw [e, BitVec.getLsbD_one]
  simp
/-- the bit of j -/
theorem bit_1 {i j : Nat} (hi : i < 32) (hj : j < 32) : bit ((1 : Int32) <<< (nI j &&& (31 : Int32))) i = decide (i = j) := by
  unfold bit
  rw [Int32.toBitVec_shiftLeft, BitVec.getLsbD_shiftLeft']
  rw [show ((nI j &&& (31 : Int32)).toBitVec.smod (32 : BitVec 32)).toNat = j from sh_n j hj]
  have e := bit_o (i - j)
  unfold bit at e
  rw [e]
  by_cases c : i = j
  · subst c; simp [hi]
  · by_cases c2 : i < j
    · simp [c2, c]
    · have : ¬ i - j = 0 := by omega
      simp [this, c]
/-- to ask for bit j -/
theorem bit_q {x : Int32} {j : Nat} (hj : j < 32) : (x >>> (nI j &&& (31 : Int32))) &&& (1 : Int32) = if bit x j then 1 else 0 := by
  apply bit_ext
  intro i hi
  rw [bit_and, bit_o]
  by_cases c : i = 0
  · subst c
    have e : bit (x >>> (nI j &&& (31 : Int32))) 0 = bit x j := by
      unfold bit
      rw [Int32.toBitVec_shiftRight, BitVec.getLsbD_sshiftRight']
      rw [show ((nI j &&& (31 : Int32)).toBitVec.smod (32 : BitVec 32)).toNat = j from sh_n j hj]
      simp [hj]
    rw [e]
    cases h : bit x j
    · simp [bit_0]
    · simp [bit_o]
  · cases h : bit x j
    · simp [bit_0, c]
    · simp [bit_o, c]
theorem bit_q1 {x : Int32} {j : Nat} (hj : j < 32) : (x >>> (nI j &&& (31 : Int32))) &&& (1 : Int32) = 1 ↔ bit x j = true := by
  rw [bit_q hj]
  cases bit x j <;> simp
theorem bit_q0 {x : Int32} {j : Nat} (hj : j < 32) : (x >>> (nI j &&& (31 : Int32))) &&& (1 : Int32) = 0 ↔ bit x j = false := by
  rw [bit_q hj]
  cases bit x j <;> simp
/-- a mask gathered hand by hand -/
theorem bit_lp (b : Nat → Int32 → Int32) (P : Nat → Bool) (N : Nat) (hN : N ≤ 32) (hb : ∀ j s i, j < N → i < 32 → bit (b j s) i = (bit s i || (decide (i = j) && P j))) : ∀ n j s, n + j = N → ∀ i, i < 32 → bit (lp b n j s) i = (bit s i || (decide (j ≤ i ∧ i < N) && P i)) := by
  intro n
  induction n with
  | zero =>
    intro j s h i hi
    rw [lp_0]
    have : ¬ (j ≤ i ∧ i < N) := by omega
    simp [this]
  | succ n ih =>
    intro j s h i hi
    rw [lp_s, ih (j + 1) (b j s) (by omega) i hi, hb j s i (by omega) hi]
    by_cases c : i = j
    · subst c
      have h1 : ¬ (i + 1 ≤ i ∧ i < N) := by omega
      have h2 : i ≤ i ∧ i < N := by omega
      rw [decide_eq_false h1, decide_eq_true h2, decide_eq_true (rfl : i = i)]
      simp
    · by_cases c2 : j ≤ i ∧ i < N
      · have h1 : j + 1 ≤ i ∧ i < N := by omega
        simp [c, c2, h1]
      · have h1 : ¬ (j + 1 ≤ i ∧ i < N) := by omega
        simp [c, c2, h1]

