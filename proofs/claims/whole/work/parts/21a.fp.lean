/-! doubles: exact data -/
section
theorem fx_qmin : FP.Core.b64.qmin = -1074 := by decide
theorem fx_qmax : FP.Core.b64.qmax = 971 := by decide
theorem fx_tails : FP.Core.b64.tails = 4503599627370496 := by decide
theorem fx_exps : FP.Core.b64.exps = 2048 := by decide
theorem fx_p : (2 : Nat) ^ FP.Core.b64.p = 9007199254740992 := by decide
theorem fx_nearest (c d : Nat) (hd : 0 < d) : FP.Core.nearest (c * d) d = c := by
  unfold FP.Core.nearest
  rw [Nat.mul_mod_left, if_pos (by omega), Nat.mul_div_cancel _ hd]
/-- an exact number is rounded to itself -/
theorem fx_round {s : Bool} {num : Nat} {e : Int} {c a b : Nat} {q : Int} (hab : a = 0 ∨ b = 0) (h : num * 2 ^ b = c * 2 ^ a) (h1 : 4503599627370496 ≤ c) (h2 : c < 9007199254740992) (hq : q = e + a - b) (q1 : -1074 ≤ q) (q2 : q ≤ 971) : FP.Core.roundRatio FP.Core.b64 s num 1 e = .fin s c q := by
  have hn : ¬ num = 0 := by
    rintro rfl
    have : 0 < c * 2 ^ a := Nat.mul_pos (by omega) (Nat.two_pow_pos a)
    omega
  have e1 : Nat.log2 1 = 0 := by decide
  have key : (num.log2 : Int) = 52 + a - b ∧ FP.Core.nearest (FP.Core.unitsNum num e q) (FP.Core.unitsDen 1 e q) = c := by
    rcases hab with rfl | rfl
    · have h3 : num * 2 ^ b = c := by rw [h, Nat.pow_zero, Nat.mul_one]
      have hb : b ≤ 52 := by
        by_cases k : b ≤ 52
        · exact k
        · have : 2 ^ 53 ≤ 2 ^ b := Nat.pow_le_pow_right (by omega) (by omega)
          have : 1 * 2 ^ b ≤ num * 2 ^ b := Nat.mul_le_mul_right _ (by omega)
          omega
      have e2 : num.log2 = 52 - b := by
        refine (Nat.log2_eq_iff hn).2 ⟨?_, ?_⟩
        · refine Nat.le_of_mul_le_mul_right ?_ (Nat.two_pow_pos b)
          rw [h3, ← Nat.pow_add, show 52 - b + b = 52 by omega]
          exact h1
        · refine Nat.lt_of_mul_lt_mul_right (a := 2 ^ b) ?_
          rw [h3, ← Nat.pow_add, show 52 - b + 1 + b = 53 by omega]
          exact h2
      refine ⟨by omega, ?_⟩
      unfold FP.Core.unitsNum FP.Core.unitsDen
      rw [show (e - q).toNat = b by omega, show (q - e).toNat = 0 by omega, h3]
      have := fx_nearest c 1 (by omega)
      rwa [Nat.mul_one] at this
    · have h3 : num = c * 2 ^ a := by rw [← h, Nat.pow_zero, Nat.mul_one]
      have e2 : num.log2 = 52 + a := by
        refine (Nat.log2_eq_iff hn).2 ⟨?_, ?_⟩
        · rw [h3, Nat.pow_add]
          exact Nat.mul_le_mul_right _ h1
        · rw [h3, show 52 + a + 1 = 53 + a by omega, Nat.pow_add]
          exact Nat.mul_lt_mul_of_pos_right h2 (Nat.two_pow_pos a)
      refine ⟨by omega, ?_⟩
      unfold FP.Core.unitsNum FP.Core.unitsDen
      rw [show (e - q).toNat = 0 by omega, show (q - e).toNat = a by omega, h3, Nat.pow_zero, Nat.mul_one, Nat.one_mul]
      exact fx_nearest c _ (Nat.two_pow_pos a)
  have e3 : FP.Core.leading num 1 = num.log2 := by
    unfold FP.Core.leading
    rw [e1]
    dsimp only
    rw [show ((num.log2 : Int) - ((0 : Nat) : Int)).toNat = num.log2 by omega, show (-((num.log2 : Int) - ((0 : Nat) : Int))).toNat = 0 by omega, if_pos]
    · omega
    · rw [Nat.one_mul, Nat.pow_zero, Nat.mul_one]
      exact Nat.log2_self_le hn
  have e4 : FP.Core.quantum FP.Core.b64 num 1 e = q := by
    unfold FP.Core.quantum
    rw [e3, fx_qmin, show ((FP.Core.b64.p : Int)) = 53 from rfl]
    omega
  unfold FP.Core.roundRatio
  rw [if_neg hn, e4]
  unfold FP.Core.roundAt
  rw [key.2]
  unfold FP.Core.settle
  rw [fx_p, if_pos h2]
  unfold FP.Core.bound
  rw [fx_qmax, if_pos q2]
/-- the bits of a number with a FP.Core.leading digit -/
def fxE (s : Bool) (c : Nat) (q : Int) : Nat := (s.toNat * 2048 + ((q + 1074).toNat + 1)) * 4503599627370496 + (c - 4503599627370496)
theorem fx_enc {s : Bool} {c : Nat} {q : Int} (h1 : 4503599627370496 ≤ c) : FP.Core.encode FP.Core.b64 (.fin s c q) = fxE s c q := by
  unfold FP.Core.encode fxE
  dsimp only
  rw [fx_tails, if_neg (by omega)]
  unfold FP.Core.assemble
  rw [fx_exps, fx_tails, fx_qmin]
  rw [show q - (-1074 : Int) = q + 1074 by omega]
theorem fx_lt {s : Bool} {c : Nat} {q : Int} (h1 : 4503599627370496 ≤ c) (h2 : c < 9007199254740992) (q1 : -1074 ≤ q) (q2 : q ≤ 971) : fxE s c q < 18446744073709551616 := by
  unfold fxE
  have := Bool.toNat_le s
  omega
theorem fx_dec {s : Bool} {c : Nat} {q : Int} (h1 : 4503599627370496 ≤ c) (h2 : c < 9007199254740992) (q1 : -1074 ≤ q) (q2 : q ≤ 971) : FP.Core.decode FP.Core.b64 (fxE s c q) = .fin s c q := by
  have hT : FP.Core.fieldT FP.Core.b64 (fxE s c q) = c - 4503599627370496 := by
    unfold FP.Core.fieldT fxE
    rw [fx_tails]
    omega
  have hE : FP.Core.fieldE FP.Core.b64 (fxE s c q) = (q + 1074).toNat + 1 := by
    unfold FP.Core.fieldE fxE
    rw [fx_tails, fx_exps]
    omega
  have hS : FP.Core.fieldS FP.Core.b64 (fxE s c q) = s := by
    unfold FP.Core.fieldS fxE
    rw [fx_tails, fx_exps]
    have : (s.toNat * 2048 + ((q + 1074).toNat + 1)) * 4503599627370496 + (c - 4503599627370496) = 9223372036854775808 * s.toNat + (((q + 1074).toNat + 1) * 4503599627370496 + (c - 4503599627370496)) := by omega
    have e2 : ((s.toNat * 2048 + ((q + 1074).toNat + 1)) * 4503599627370496 + (c - 4503599627370496)) / 4503599627370496 / 2048 = s.toNat := by
      have := Bool.toNat_le s
      omega
    rw [e2]
    cases s <;> rfl
  unfold FP.Core.decode
  rw [hT, hE, hS, fx_exps, fx_tails, fx_qmin, if_neg (by omega), if_neg (by omega)]
  rw [show 4503599627370496 + (c - 4503599627370496) = c by omega, show (-1074 : Int) + ((((q + 1074).toNat + 1 : Nat) : Int) - 1) = q by omega]
/-- the bits, as they are kept -/
theorem fx_ofNat {s : Bool} {c : Nat} {q : Int} (h1 : 4503599627370496 ≤ c) (h2 : c < 9007199254740992) (q1 : -1074 ≤ q) (q2 : q ≤ 971) : (UInt64.ofNat (fxE s c q)).toNat = fxE s c q := by
  rw [UInt64.toNat_ofNat']
  exact Nat.mod_eq_of_lt (fx_lt h1 h2 q1 q2)
theorem fx_zero {s : Bool} {e : Int} : FP.Core.roundRatio FP.Core.b64 s 0 1 e = .fin s 0 (-1074) := by
  unfold FP.Core.roundRatio
  rw [if_pos rfl, fx_qmin]
/-- an int as a double -/
theorem fx_i2d (x : Int32) : FP.Core.decode FP.Core.b64 (FP.i2d x).toNat = if x = 0 then .fin false 0 (-1074) else .fin (decide (x.toInt < 0)) (x.toInt.natAbs * 2 ^ (52 - x.toInt.natAbs.log2)) ((x.toInt.natAbs.log2 : Int) - 52) := by
  show FP.Core.decode FP.Core.b64 (UInt64.ofNat (FP.Core.encode FP.Core.b64 (FP.Core.round FP.Core.b64 (FP.Core.ofInt x.toInt)))).toNat = _
  unfold FP.Core.ofInt FP.Core.round
  dsimp only
  by_cases h : x = 0
  · subst h
    rw [if_pos rfl]
    decide
  · rw [if_neg h]
    have hn : ¬ x.toInt.natAbs = 0 := fun k => h (Int32.toInt_inj.1 (by rw [Int.natAbs_eq_zero.1 k]; rfl))
    have hb : x.toInt.natAbs < 2 ^ 32 := by
      have := Int32.le_toInt x
      have := Int32.toInt_lt x
      omega
    have hl : x.toInt.natAbs.log2 < 32 := (Nat.log2_lt hn).2 hb
    generalize x.toInt.natAbs = n at *
    have a1 := Nat.log2_self_le hn
    have a2 := Nat.lt_log2_self (n := n)
    generalize n.log2 = l at *
    have h1 : 4503599627370496 ≤ n * 2 ^ (52 - l) := by
      have := Nat.mul_le_mul_right (2 ^ (52 - l)) a1
      rwa [← Nat.pow_add, show l + (52 - l) = 52 by omega] at this
    have h2 : n * 2 ^ (52 - l) < 9007199254740992 := by
      have := Nat.mul_lt_mul_of_pos_right a2 (Nat.two_pow_pos (52 - l))
      rwa [← Nat.pow_add, show l + 1 + (52 - l) = 53 by omega] at this
    rw [fx_round (a := 0) (b := 52 - l) (c := n * 2 ^ (52 - l)) (q := (l : Int) - 52) (Or.inl rfl) (by rw [Nat.pow_zero, Nat.mul_one]) h1 h2 (by omega) (by omega) (by omega), fx_enc h1, fx_ofNat h1 h2 (by omega) (by omega), fx_dec h1 h2 (by omega) (by omega)]

theorem fx_log {n : Nat} (hn : ¬ n = 0) (hb : n < 2 ^ 32) : n.log2 < 32 ∧ 4503599627370496 ≤ n * 2 ^ (52 - n.log2) ∧ n * 2 ^ (52 - n.log2) < 9007199254740992 := by
  have hl : n.log2 < 32 := (Nat.log2_lt hn).2 hb
  have a1 := Nat.log2_self_le hn
  have a2 := Nat.lt_log2_self (n := n)
  generalize n.log2 = l at *
  refine ⟨hl, ?_, ?_⟩
  · have := Nat.mul_le_mul_right (2 ^ (52 - l)) a1
    rwa [← Nat.pow_add, show l + (52 - l) = 52 by omega] at this
  · have := Nat.mul_lt_mul_of_pos_right a2 (Nat.two_pow_pos (52 - l))
    rwa [← Nat.pow_add, show l + 1 + (52 - l) = 53 by omega] at this
/-- a whole share of two numbers: a number with a FP.Core.leading digit; at most one, if the first isn't the greater -/
theorem fx_quot {s : Bool} {g a : Nat} (hg : ¬ g = 0) (ha : ¬ a = 0) (hg2 : g < 2 ^ 32) (ha2 : a < 2 ^ 32) : ∃ c q, FP.Core.roundRatio FP.Core.b64 s (g * 2 ^ (52 - g.log2)) (a * 2 ^ (52 - a.log2)) (((g.log2 : Int) - 52) - ((a.log2 : Int) - 52)) = .fin s c q ∧ 4503599627370496 ≤ c ∧ c < 9007199254740992 ∧ -1000 ≤ q ∧ q ≤ 900 ∧ (g ≤ a → q < -52 ∨ (q = -52 ∧ c = 4503599627370496)) := by
  obtain ⟨lg, g1, g2⟩ := fx_log hg hg2
  obtain ⟨la, a1, a2⟩ := fx_log ha ha2
  have hle : g < a → g.log2 ≤ a.log2 := fun h => by
    by_cases k : g.log2 ≤ a.log2
    · exact k
    · exfalso
      have := (Nat.log2_lt ha).1 (show a.log2 < g.log2 by omega)
      have := Nat.log2_self_le hg
      omega
  have heq : g < a → g.log2 = a.log2 → g * 2 ^ (52 - g.log2) < a * 2 ^ (52 - a.log2) := fun h k => by
    rw [k]
    exact Nat.mul_lt_mul_of_pos_right h (Nat.two_pow_pos _)
  have heq2 : g = a → g * 2 ^ (52 - g.log2) = a * 2 ^ (52 - a.log2) ∧ g.log2 = a.log2 := fun h => by
    subst h
    exact ⟨rfl, rfl⟩
  generalize g * 2 ^ (52 - g.log2) = cg at *
  generalize a * 2 ^ (52 - a.log2) = ca at *
  generalize g.log2 = l1 at *
  generalize a.log2 = l2 at *
  have eg : cg.log2 = 52 := (Nat.log2_eq_iff (by omega)).2 ⟨g1, g2⟩
  have ea : ca.log2 = 52 := (Nat.log2_eq_iff (by omega)).2 ⟨a1, a2⟩
  have e3 : FP.Core.leading cg ca = if ca ≤ cg then 0 else -1 := by
    unfold FP.Core.leading
    rw [eg, ea]
    dsimp only
    rw [show (((52 : Nat) : Int) - ((52 : Nat) : Int)).toNat = 0 by omega, show (-(((52 : Nat) : Int) - ((52 : Nat) : Int))).toNat = 0 by omega, Nat.pow_zero, Nat.mul_one, Nat.mul_one]
    by_cases k : ca ≤ cg
    · rw [if_pos k, if_pos k]; omega
    · rw [if_neg k, if_neg k]; omega
  have e4 : FP.Core.quantum FP.Core.b64 cg ca ((l1 : Int) - 52 - ((l2 : Int) - 52)) = (if ca ≤ cg then 0 else -1) + ((l1 : Int) - l2) - 52 := by
    unfold FP.Core.quantum
    rw [e3, fx_qmin, show ((FP.Core.b64.p : Int)) = 53 from rfl]
    omega
  have e5 : ∃ c, 4503599627370496 ≤ c ∧ c ≤ 9007199254740992 ∧ (cg = ca → c = 4503599627370496) ∧ FP.Core.nearest (FP.Core.unitsNum cg ((l1 : Int) - 52 - ((l2 : Int) - 52)) ((if ca ≤ cg then 0 else -1) + ((l1 : Int) - l2) - 52)) (FP.Core.unitsDen ca ((l1 : Int) - 52 - ((l2 : Int) - 52)) ((if ca ≤ cg then 0 else -1) + ((l1 : Int) - l2) - 52)) = c := by
    unfold FP.Core.unitsNum FP.Core.unitsDen
    by_cases k : ca ≤ cg
    · simp only [if_pos k]
      rw [show ((l1 : Int) - 52 - ((l2 : Int) - 52) - (0 + ((l1 : Int) - l2) - 52)).toNat = 52 by omega, show (0 + ((l1 : Int) - l2) - 52 - ((l1 : Int) - 52 - ((l2 : Int) - 52))).toNat = 0 by omega, Nat.pow_zero, Nat.mul_one]
      refine ⟨_, ?_, ?_, ?_, rfl⟩
      · unfold FP.Core.nearest
        have : 4503599627370496 ≤ cg * 2 ^ 52 / ca := (Nat.le_div_iff_mul_le (by omega)).2 (by rw [Nat.mul_comm]; exact Nat.mul_le_mul_right _ k)
        split
        · omega
        · split <;> omega
      · unfold FP.Core.nearest
        have : cg * 2 ^ 52 / ca < 9007199254740992 := (Nat.div_lt_iff_lt_mul (by omega)).2 (by omega)
        split
        · omega
        · split <;> omega
      · intro h
        rw [h, Nat.mul_comm]
        exact fx_nearest _ _ (by omega)
    · simp only [if_neg k]
      rw [show ((l1 : Int) - 52 - ((l2 : Int) - 52) - (-1 + ((l1 : Int) - l2) - 52)).toNat = 53 by omega, show (-1 + ((l1 : Int) - l2) - 52 - ((l1 : Int) - 52 - ((l2 : Int) - 52))).toNat = 0 by omega, Nat.pow_zero, Nat.mul_one]
      refine ⟨_, ?_, ?_, ?_, rfl⟩
      · unfold FP.Core.nearest
        have : 4503599627370496 ≤ cg * 2 ^ 53 / ca := (Nat.le_div_iff_mul_le (by omega)).2 (by omega)
        split
        · omega
        · split <;> omega
      · unfold FP.Core.nearest
        have : cg * 2 ^ 53 / ca < 9007199254740992 := (Nat.div_lt_iff_lt_mul (by omega)).2 (by omega)
        split
        · omega
        · split <;> omega
      · intro h
        omega
  obtain ⟨c, c1, c2, c3, c4⟩ := e5
  unfold FP.Core.roundRatio
  rw [if_neg (by omega), e4]
  unfold FP.Core.roundAt
  rw [c4]
  unfold FP.Core.settle
  rw [fx_p]
  have hq : g ≤ a → ((if ca ≤ cg then 0 else -1) + ((l1 : Int) - l2) - 52 < -52 ∨ (if ca ≤ cg then 0 else -1) + ((l1 : Int) - l2) - 52 = -52 ∧ c = 4503599627370496) := by
    intro h
    by_cases k : g = a
    · obtain ⟨k1, k2⟩ := heq2 k
      right
      rw [if_pos (by omega)]
      exact ⟨by omega, c3 k1⟩
    · left
      have h3 := hle (by omega)
      have h4 := heq (by omega)
      split <;> omega
  have hb : -1 ≤ (if ca ≤ cg then (0 : Int) else -1) ∧ (if ca ≤ cg then (0 : Int) else -1) ≤ 0 := by split <;> omega
  generalize (if ca ≤ cg then (0 : Int) else -1) = d at *
  by_cases k : c < 9007199254740992
  · rw [if_pos k]
    unfold FP.Core.bound
    rw [fx_qmax, if_pos (by omega)]
    exact ⟨_, _, rfl, c1, k, by omega, by omega, hq⟩
  · rw [if_neg k]
    unfold FP.Core.bound
    rw [fx_qmax, if_pos (by omega), fx_tails]
    exact ⟨_, _, rfl, by omega, by omega, by omega, by omega, fun h => by have := hq h; omega⟩
theorem fx_mask {n : Nat} (h : n < 18446744073709551616) (h2 : n % 9223372036854775808 ≤ 9218868437227405312) : UInt64.ofNat n &&& 0x7fffffffffffffff ≤ 0x7ff0000000000000 := by
  rw [UInt64.le_iff_toNat_le, UInt64.toNat_and, UInt64.toNat_ofNat', Nat.mod_eq_of_lt h]
  have e := Nat.and_two_pow_sub_one_eq_mod n 63
  have e2 : (0x7fffffffffffffff : UInt64).toNat = 2 ^ 63 - 1 := by decide
  have e3 : (0x7ff0000000000000 : UInt64).toNat = 9218868437227405312 := by decide
  rw [e2, e, e3]
  exact h2
theorem fx_maskE {s : Bool} {c : Nat} {q : Int} (h1 : 4503599627370496 ≤ c) (h2 : c < 9007199254740992) (q1 : -1074 ≤ q) (q2 : q ≤ 971) : UInt64.ofNat (fxE s c q) &&& 0x7fffffffffffffff ≤ 0x7ff0000000000000 := by
  refine fx_mask (fx_lt h1 h2 q1 q2) ?_
  unfold fxE
  have := Bool.toNat_le s
  omega
/-- a quotient of two ints -/
theorem fx_ddiv (x y : Int32) (hy : ¬ y = 0) : (x = 0 ∧ ∃ s : Bool, (¬ y < 0 → s = false) ∧ FP.ddiv (FP.i2d x) (FP.i2d y) = UInt64.ofNat (s.toNat * 9223372036854775808)) ∨ ∃ s c q, FP.ddiv (FP.i2d x) (FP.i2d y) = UInt64.ofNat (fxE s c q) ∧ 4503599627370496 ≤ c ∧ c < 9007199254740992 ∧ -1000 ≤ q ∧ q ≤ 900 ∧ (x.toInt.natAbs ≤ y.toInt.natAbs → q < -52 ∨ (q = -52 ∧ c = 4503599627370496)) ∧ (¬ x.toInt < 0 → ¬ y.toInt < 0 → s = false) := by
  have hyn : ¬ y.toInt.natAbs = 0 := fun k => hy (Int32.toInt_inj.1 (by rw [Int.natAbs_eq_zero.1 k]; rfl))
  have hyb : y.toInt.natAbs < 2 ^ 32 := by
    have := Int32.le_toInt y
    have := Int32.toInt_lt y
    omega
  have hxb : x.toInt.natAbs < 2 ^ 32 := by
    have := Int32.le_toInt x
    have := Int32.toInt_lt x
    omega
  have e : FP.ddiv (FP.i2d x) (FP.i2d y) = UInt64.ofNat (FP.Core.encode FP.Core.b64 (FP.Core.quotient FP.Core.b64 (FP.Core.decode FP.Core.b64 (FP.i2d x).toNat) (FP.Core.decode FP.Core.b64 (FP.i2d y).toNat))) := rfl
  rw [e, fx_i2d x, fx_i2d y, if_neg hy]
  obtain ⟨_, y1, y2⟩ := fx_log hyn hyb
  by_cases h : x = 0
  · left
    refine ⟨h, decide (y.toInt < 0), fun k => decide_eq_false (fun k2 => k (Int32.lt_iff_toInt_lt.2 k2)), ?_⟩
    rw [if_pos h]
    unfold FP.Core.quotient
    dsimp only
    rw [if_neg (by omega)]
    unfold FP.Core.roundRatio
    rw [if_pos rfl]
    unfold FP.Core.encode
    dsimp only
    rw [fx_tails, if_pos (by decide)]
    unfold FP.Core.assemble
    rw [fx_exps, fx_tails, Bool.false_bne]
    refine congrArg UInt64.ofNat ?_
    generalize (decide (y.toInt < 0)).toNat = t
    omega
  · right
    have hxn : ¬ x.toInt.natAbs = 0 := fun k => h (Int32.toInt_inj.1 (by rw [Int.natAbs_eq_zero.1 k]; rfl))
    rw [if_neg h]
    unfold FP.Core.quotient
    dsimp only
    rw [if_neg (by omega)]
    obtain ⟨c, q, e1, c1, c2, q1, q2, k⟩ := fx_quot (s := (decide (x.toInt < 0) != decide (y.toInt < 0))) hxn hyn hxb hyb
    rw [e1, fx_enc c1]
    refine ⟨_, c, q, rfl, c1, c2, q1, q2, k, fun k1 k2 => ?_⟩
    rw [decide_eq_false k1, decide_eq_false k2]
    rfl
theorem fp_div_ok (x y : Int32) (hy : ¬ y = 0) : FP.ddiv (FP.i2d x) (FP.i2d y) &&& 0x7fffffffffffffff ≤ 0x7ff0000000000000 := by
  rcases fx_ddiv x y hy with ⟨_, s, _, e⟩ | ⟨s, c, q, e, h1, h2, h3, h4, _⟩
  · rw [e]
    have := Bool.toNat_le s
    exact fx_mask (by omega) (by omega)
  · rw [e]
    exact fx_maskE h1 h2 (by omega) (by omega)
end
