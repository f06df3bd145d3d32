/-! clashes -/
theorem bit_m1 : ∀ i, i < 32 → bit (-1) i = true := by decide
theorem bit_not (x : Int32) (i : Nat) (hi : i < 32) : bit (x ^^^ (-1 : Int32)) i = !bit x i := by
  have e := bit_m1 i hi
  unfold bit at e ⊢
  rw [Int32.toBitVec_xor, BitVec.getLsbD_xor, e]
  simp
theorem lq_any (b : Nat → Unit → Unit ⊕ Int32) (P : Nat → Prop) (N : Nat) (hb : ∀ j, j < N → (P j ∧ b j () = .inr 1) ∨ (¬ P j ∧ b j () = .inl ())) : ∀ n j, n + j = N → (lqr (fun _ : Unit => (0 : Int32)) (lq b n j ()) = 0 ↔ ∀ q, j ≤ q → q < N → ¬ P q) ∧ (lqr (fun _ : Unit => (0 : Int32)) (lq b n j ()) = 0 ∨ lqr (fun _ : Unit => (0 : Int32)) (lq b n j ()) = 1) := by
  intro n
  induction n with
  | zero =>
    intro j e
    rw [lq_0]
    exact ⟨⟨fun _ q h1 h2 => by omega, fun _ => rfl⟩, Or.inl rfl⟩
  | succ n ih =>
    intro j e
    rcases hb j (by omega) with ⟨hP, h⟩ | ⟨hP, h⟩
    · rw [lq_r h]
      refine ⟨⟨fun q => absurd q (by decide), fun q => absurd hP (q j (Nat.le_refl _) (by omega))⟩, Or.inr rfl⟩
    · rw [lq_l h]
      have k := ih (j + 1) (by omega)
      refine ⟨⟨fun q i h1 h2 => ?_, fun q => k.1.mpr (fun i h1 h2 => q i (by omega) h2)⟩, k.2⟩
      by_cases c : i = j
      · rw [c]; exact hP
      · exact k.1.mp q i (by omega) h2
theorem clash_0' {x md : Int32} (hx : x = 0 ∨ MO x) (hm : MO md) (h : x ≤ 0) : x + md ≤ 3 := Classical.byContradiction fun c => clash_0 hx hm c h
section
variable {M m : PM} {g : Nat}
theorem clashes_iff (hR : RG M m g) {r a b : Nat} {md : Int32} (hr : r < 12) (ha : a < 8) (hb : b < 8) : v_X2_clashes M g (nI r) md (nI a) (nI b) = 0 ↔ ∀ j, j < 8 → ¬ (¬ j = a ∧ ¬ j = b ∧ ¬ v_X5_lockOf m j r + md ≤ 3) := by
  unfold v_X2_clashes
  have k := (lq_any (b_X2_clashes_1 M g (nI r) md (nI a) (nI b)) (fun j => ¬ j = a ∧ ¬ j = b ∧ ¬ v_X5_lockOf m j r + md ≤ 3) 8 (fun j hj => ?_) 8 0 rfl).1
  · refine k.trans ⟨fun q j hj => q j (Nat.zero_le _) hj, fun q j _ hj => q j hj⟩
  · unfold b_X2_clashes_1
    rw [lock_R hR hj hr]
    by_cases c1 : j = a
    · right; subst c1; exact ⟨fun q => q.1 rfl, if_pos rfl⟩
    · rw [if_neg (show ¬ nI j = nI a from fun e => c1 ((nI_eq (by omega) (by omega)).mp e))]
      by_cases c2 : j = b
      · right; subst c2; exact ⟨fun q => q.2.1 rfl, if_pos rfl⟩
      · rw [if_neg (show ¬ nI j = nI b from fun e => c2 ((nI_eq (by omega) (by omega)).mp e))]
        by_cases c3 : v_X5_lockOf m j r + md ≤ 3
        · right; exact ⟨fun q => q.2.2 c3, if_pos c3⟩
        · left; exact ⟨⟨c1, c2, c3⟩, if_neg c3⟩
theorem clB_iff (hR : RG M m g) {r b : Nat} {md : Int32} (hr : r < 12) (hb : b < 8) (hm : MO md) {j : Nat} (hj : j < 8) : clB m r md (nI b) j = true ↔ ¬ j = b ∧ ¬ v_X5_lockOf m j r + md ≤ 3 := by
  unfold clB
  by_cases c1 : j = b
  · subst c1
    rw [if_pos rfl]
    exact ⟨fun q => absurd q (by decide), fun q => absurd rfl q.1⟩
  · rw [if_neg (show ¬ nI j = nI b from fun e => c1 ((nI_eq (by omega) (by omega)).mp e))]
    by_cases c2 : v_X5_lockOf m j r ≤ 0
    · rw [if_pos c2]
      exact ⟨fun q => absurd q (by decide), fun q => absurd (clash_0' (hR.1 j r hj hr).2 hm c2) q.2⟩
    · rw [if_neg c2]
      by_cases c3 : v_X5_lockOf m j r + md ≤ 3
      · rw [if_pos c3]
        exact ⟨fun q => absurd q (by decide), fun q => absurd c3 q.2⟩
      · rw [if_neg c3]
        exact ⟨fun _ => ⟨c1, c3⟩, fun _ => rfl⟩
theorem clash_R (hR : RG M m g) {r b : Nat} {md : Int32} (hr : r < 12) (hb : b < 8) (hm : MO md) : v_X2_clashes M g (nI r) md (nI b) (nI b) = 0 ↔ v_X5_clashing m r md (nI b) = 0 := by
  rw [clashes_iff hR hr hb hb]
  constructor
  · intro q
    apply bit_ext
    intro i hi
    rw [bit_clash m r md (nI b) i hi, bit_0]
    by_cases h8 : i < 8
    · cases hc : clB m r md (nI b) i
      · simp
      · have := (clB_iff hR hr hb hm h8).mp hc
        exact absurd ⟨this.1, this.1, this.2⟩ (q i h8)
    · simp [h8]
  · intro e j hj q
    have k := bit_clash m r md (nI b) j (by omega)
    rw [e, bit_0, (clB_iff hR hr hb hm hj).mpr ⟨q.1, q.2.2⟩, decide_eq_true hj] at k
    exact absurd k (by decide)
theorem clash_R2 (hR : RG M m g) {r a b : Nat} {md : Int32} (hr : r < 12) (ha : a < 8) (hb : b < 8) (hm : MO md) : v_X2_clashes M g (nI r) md (nI a) (nI b) = 0 ↔ (v_X5_clashing m r md (nI b)) &&& (((1 : Int32) <<< (nI a &&& (31 : Int32))) ^^^ (-1 : Int32)) = 0 := by
  rw [clashes_iff hR hr ha hb]
  constructor
  · intro q
    apply bit_ext
    intro i hi
    rw [bit_and, bit_not _ _ hi, bit_1 hi (by omega), bit_clash m r md (nI b) i hi, bit_0]
    by_cases h8 : i < 8
    · cases hc : clB m r md (nI b) i
      · simp
      · have k := (clB_iff hR hr hb hm h8).mp hc
        by_cases ca : i = a
        · simp [ca]
        · exact absurd ⟨ca, k.1, k.2⟩ (q i h8)
    · simp [h8]
  · intro e j hj q
    have k := bit_and (v_X5_clashing m r md (nI b)) (((1 : Int32) <<< (nI a &&& (31 : Int32))) ^^^ (-1 : Int32)) j
    rw [e, bit_0, bit_not _ _ (by omega), bit_1 (show j < 32 by omega) (by omega), bit_clash m r md (nI b) j (by omega), (clB_iff hR hr hb hm hj).mpr ⟨q.2.1, q.2.2⟩, decide_eq_true hj, decide_eq_false q.1] at k
    exact absurd k (by decide)
end
