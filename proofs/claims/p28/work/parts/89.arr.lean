/-! p28's law: its arrays (kind 8: n, lk, qu, qm, he, bu, lo, gr, as), and the rows that read and write them -/
def setA (M : PM) (a : Nat → Nat → Int32) : PM := (fun t k g i => if t = 8 ∧ k < 9 ∧ g = 0 then a k i else M.1 t k g i, M.2)
def arA (M : PM) : Nat → Nat → Int32 := fun k i => M.1 8 k 0 i
theorem sA_at (M : PM) (a : Nat → Nat → Int32) {k : Nat} (i : Nat) (hk : k < 9) : (setA M a).1 8 k 0 i = a k i := by
  unfold setA
  dsimp only
  rw [if_pos ⟨rfl, hk, rfl⟩]
theorem sA_o (M : PM) (a : Nat → Nat → Int32) {t k g i : Nat} (h : ¬ t = 8) : (setA M a).1 t k g i = M.1 t k g i := by
  unfold setA
  dsimp only
  rw [if_neg (fun q => h q.1)]
theorem sA_w (M : PM) (a : Nat → Nat → Int32) {k : Nat} (i : Nat) (v : Int32) (hk : k < 9) : wI (setA M a) 8 k 0 i v = setA M (up2 a k i v) := by
  unfold wI setA up2
  congr 1
  funext t k2 g i2
  dsimp only
  by_cases h : t = 8 ∧ k2 < 9 ∧ g = 0
  · rw [if_pos h, if_pos h]
    by_cases q : k2 = k ∧ i2 = i
    · rw [if_pos ⟨h.1, q.1, h.2.2, q.2⟩, if_pos q]
    · rw [if_neg (fun u => q ⟨u.2.1, u.2.2.2⟩), if_neg q]
  · rw [if_neg h, if_neg h, if_neg]
    rintro ⟨u1, u2, u3, u4⟩
    exact h ⟨u1, by rw [u2]; exact hk, u3⟩
theorem sA_id (M : PM) : setA M (arA M) = M := by
  obtain ⟨x, y⟩ := M
  unfold setA arA
  congr 1
  funext t k g i
  dsimp only
  by_cases h : t = 8 ∧ k < 9 ∧ g = 0
  · rw [if_pos h]; obtain ⟨rfl, -, rfl⟩ := h; rfl
  · rw [if_neg h]
theorem sA_sA (M : PM) (a b : Nat → Nat → Int32) : setA (setA M a) b = setA M b := by
  unfold setA
  congr 1
  funext t k g i
  dsimp only
  by_cases h : t = 8 ∧ k < 9 ∧ g = 0
  · rw [if_pos h, if_pos h]
  · rw [if_neg h, if_neg h, if_neg h]
theorem zlen_lt (k : Nat) : zlen k < 2 ^ 31 := by unfold zlen; split <;> decide
theorem an_la {MM : MI} {pc : Nat} {L : List (Option PV)} {r : List PV} {M m2 : PM} {a : Nat → Nat → Int32} {j : Int32} {v : OC} (k E : Nat) (hk : k < 9) (hE : E < zlen k) (hj : j = nI E) (h : asc (mT MM) pc = some (.iaload, 1)) (kk : An MM (pc + 1) L (vI (a k E) :: r) (setA M a) v m2) : An MM pc L (vI j :: vR 8 k 0 :: r) (setA M a) v m2 := by
  refine an_ald E (zlen k) h rfl hj hE (zlen_lt k) ?_
  rw [sA_at M a E hk]
  exact kk
theorem an_sa {MM : MI} {pc : Nat} {L : List (Option PV)} {r : List PV} {M m2 : PM} {a : Nat → Nat → Int32} {j x : Int32} {v : OC} (k E : Nat) (hk : k < 9) (hE : E < zlen k) (hj : j = nI E) (h : asc (mT MM) pc = some (.iastore, 1)) (kk : An MM (pc + 1) L r (setA M (up2 a k E x)) v m2) : An MM pc L (vI x :: vI j :: vR 8 k 0 :: r) (setA M a) v m2 := by
  refine an_ast E (zlen k) h rfl (by decide) hj hE (zlen_lt k) ?_
  rw [sA_w M a E x hk]
  exact kk
/-- quotients and remainders -/
theorem nI_div {q n : Nat} (hq : q < 2 ^ 31) (hn : n < 2 ^ 31) : nI q / nI n = nI (q / n) := by
  have h1 : q / n ≤ q := Nat.div_le_self q n
  apply Int32.toInt_inj.mp
  rw [Int32.toInt_div, nI_toInt hq, nI_toInt hn, nI_toInt (by omega)]
  have h2 : ((q : Int).tdiv (n : Int)) = ((q / n : Nat) : Int) := Int.ofNat_tdiv q n
  rw [h2]
  clear h2
  generalize q / n = e at h1 ⊢
  unfold Int.bmod
  rw [show ((2 ^ 32 : Nat) : Int) = 4294967296 from rfl]
  dsimp only
  split <;> omega
theorem nI_rem {q n : Nat} (hq : q < 2 ^ 31) (h0 : 0 < n) (hn : n < 2 ^ 31) : nI q - nI q / nI n * nI n = nI (q % n) := by
  rw [nI_div hq hn, pk_mul, nI_sub2 (Nat.div_mul_le_self q n)]
  congr 1
  have := Nat.mod_add_div q n
  rw [Nat.mul_comm n] at this
  omega
theorem ush_1 (x : Int32) : ∃ q, q < 2 ^ 31 ∧ (x.toUInt32 >>> ((1 : Int32).toUInt32 &&& Int32.toUInt32 31)).toInt32 = nI q := by
  have e1 : (1 : Int32).toUInt32 &&& Int32.toUInt32 31 = 1 := by decide
  rw [e1]
  have h2 : (x.toUInt32 >>> (1 : UInt32)).toNat < 2 ^ 31 := by
    rw [UInt32.toNat_shiftRight]
    have := x.toUInt32.toNat_lt
    rw [show (1 : UInt32).toNat % 32 = 1 from rfl, Nat.shiftRight_eq_div_pow]
    omega
  refine ⟨(x.toUInt32 >>> (1 : UInt32)).toNat, h2, ?_⟩
  show _ = Int32.ofNat _
  rw [← UInt32.toInt32_ofNat', UInt32.ofNat_toNat]
theorem rem8 : ∀ w, w < 5 → ∀ md, md < 4 → nI (w + 8 * md) - nI (w + 8 * md) / 8 * 8 = nI w := by decide
theorem div8 : ∀ w, w < 5 → ∀ md, md < 4 → nI (w + 8 * md) / 8 = nI md := by decide
