/-! the law's small methods: at, cell, work, clashes, rowOf -/
theorem one_irem {M : MI} {pc : Nat} {L : List (Option PV)} {r : List PV} {m m2 : PM} {x y : Int32} {v : OC} (h : asc (mT M) pc = some (.irem, 1)) (hn : ¬ y = 0) (kk : An M (pc + 1) L (vI (x - x / y * y) :: r) m v m2) : An M pc L (vI y :: vI x :: r) m v m2 := by
  refine an_b 1 (pc2 := pc + 1) (L2 := L) (st2 := vI (x - x / y * y) :: r) (m1 := m) ?_ kk
  have e : sm_one M pc L (vI y :: vI x :: r) m = some (pc + 1, L, vI (x - x / y * y) :: r, m) := by
    unfold sm_one
    rw [h]
    have e2 : sm_c .irem 1 pc L (vI y :: vI x :: r) m = some (pc + 1, L, vI (x - x / y * y) :: r, m) := by
      unfold sm_c
      simp only [if_neg hn]
    show sm_ins _ _ _ _ _ _ _ = _
    unfold sm_ins
    rw [show sm_a .irem 1 pc L (vI y :: vI x :: r) m = none from rfl, show sm_b .irem 1 pc L (vI y :: vI x :: r) m = none from rfl, e2]
  show (match sm_one M pc L (vI y :: vI x :: r) m with | some s2 => sm_many 0 M s2 | none => none) = _
  rw [e]
  rfl
theorem r_at (m : PM) (x : Int32) {n : Nat} (h0 : 0 < n) (hn : n < 2 ^ 31) : ∃ q, q < n ∧ Rn ML_at [vI x, vI (nI n)] m (some (vI (nI q))) m := by
  obtain ⟨q, hq, e⟩ := ush_1 x
  refine ⟨q % n, Nat.mod_lt _ h0, ?_⟩
  refine rn_of [some (vI x), some (vI (nI n))] rfl ?_
  refine an_b 4 (pc2 := 4) (L2 := [some (vI x), some (vI (nI n))]) (st2 := [vI (nI n), vI (((x).toUInt32 >>> (((1 : Int32)).toUInt32 &&& Int32.toUInt32 31)).toInt32)]) (m1 := m) rfl ?_
  rw [e]
  refine one_irem rfl (nI_ne0 h0 hn) ?_
  rw [nI_rem hq h0 hn]
  exact an_ret rfl rfl rfl rfl rfl
theorem r_cell (m : PM) {L9 j : Nat} (hj : j < 2 ^ 31) (hL : m.1 10 0 1 0 = nI L9) (h9 : L9 < 2 ^ 31) : ∃ v, Rn ML_cell [vR 10 0 0, vI (nI j)] m (some (vI v)) m := by
  by_cases c : L9 ≤ j
  · refine ⟨(1284865837 : Int32) * (nI j + (191 : Int32)), ?_⟩
    refine rn_of [some (vR 10 0 0), some (vI (nI j))] rfl ?_
    refine an_b 4 (pc2 := if (nI L9) ≤ (nI j) then 12 else 6) (L2 := [some (vR 10 0 0), some (vI (nI j))]) (st2 := []) (m1 := m) (by rw [← hL]; rfl) ?_
    refine an_t (nI_le c hj) ?_
    refine an_b 5 (pc2 := 20) (L2 := [some (vR 10 0 0), some (vI (nI j))]) (st2 := [vI ((1284865837 : Int32) * ((nI j) + (191 : Int32)))]) (m1 := m) rfl ?_
    exact an_ret rfl rfl rfl rfl rfl
  · refine ⟨m.1 10 0 0 (nI j).toNatClampNeg, ?_⟩
    refine rn_of [some (vR 10 0 0), some (vI (nI j))] rfl ?_
    refine an_b 4 (pc2 := if (nI L9) ≤ (nI j) then 12 else 6) (L2 := [some (vR 10 0 0), some (vI (nI j))]) (st2 := []) (m1 := m) (by rw [← hL]; rfl) ?_
    refine an_f (nI_ge (a := j) (b := L9) (by omega) h9) ?_
    refine an_b 2 (pc2 := 8) (L2 := [some (vR 10 0 0), some (vI (nI j))]) (st2 := [vI (nI j), vR 10 0 0]) (m1 := m) rfl ?_
    refine one_iald L9 rfl (show some (m.1 10 0 1 0).toNatClampNeg = some L9 by rw [hL, nI_clamp h9]) (nI_in (by omega) h9) ?_
    refine an_b 1 (pc2 := 20) (L2 := [some (vR 10 0 0), some (vI (nI j))]) (st2 := [vI (m.1 10 0 0 (nI j).toNatClampNeg)]) (m1 := m) rfl ?_
    exact an_ret rfl rfl rfl rfl rfl
def LK (a : Nat → Nat → Int32) (z : Nat → Int32) : Prop := (∀ h r, h < 5 → r < 6 → a 1 (6 * h + r) = z (5 + 12 * h + r)) ∧ ∀ h r, h < 8 → r < 12 → (5 ≤ h ∨ 6 ≤ r) → z (5 + 12 * h + r) = 0
def LQ (a : Nat → Nat → Int32) (z : Nat → Int32) : Prop := (∀ r, r < 6 → ∃ n, n ≤ 5 ∧ z (125 + r) = nI n ∧ a 3 r = nI n ∧ ∀ p, p < n → ∃ w md, w < 5 ∧ 1 ≤ md ∧ md < 4 ∧ z (137 + 8 * r + p) = nI w ∧ z (233 + 8 * r + p) = nI md ∧ a 2 (5 * r + p) = nI (w + 8 * md)) ∧ ∀ r, 6 ≤ r → r < 12 → z (125 + r) = 0
def LC (a : Nat → Nat → Int32) (z : Nat → Int32) : Prop := ∀ k, k < 4 → (∀ h, h < 5 → a (5 + k) h = z (329 + 8 * k + h)) ∧ ∀ h, 5 ≤ h → h < 8 → z (329 + 8 * k + h) = 0
def hsum (z : Nat → Int32) : Int32 := lp (fun j s => s + z (113 + j)) 12 0 0
def LT (a : Nat → Nat → Int32) (z : Nat → Int32) (s : Nat × Int32) : Prop := (∀ r, r < 6 → a 4 r = z (101 + r)) ∧ a 0 0 = z 3 ∧ a 0 1 = z 4 ∧ a 0 2 = nI s.1 ∧ a 0 3 = z 0 ∧ a 0 4 = z 1 ∧ a 0 5 = z 2 ∧ a 0 6 + s.2 = hsum z
/-- the law's arrays are the row of numbers; s states are saved -/
def LA (a : Nat → Nat → Int32) (z : Nat → Int32) (s : Nat × Int32) : Prop := LK a z ∧ LQ a z ∧ LC a z ∧ LT a z s
theorem lp_add {σ : Type} (f : Nat → σ → σ) : ∀ n k j s, lp f (n + k) j s = lp f k (j + n) (lp f n j s) := by
  intro n
  induction n with
  | zero => intro k j s; rw [lp_0, Nat.zero_add, Nat.add_zero]
  | succ n ih => intro k j s; rw [show n + 1 + k = (n + k) + 1 by omega, lp_s, lp_s, ih, show j + 1 + n = j + (n + 1) by omega]
theorem lp_id {σ : Type} (f : Nat → σ → σ) (N : Nat) (s : σ) : ∀ n j, n + j = N → (∀ i, j ≤ i → i < N → f i s = s) → lp f n j s = s := by
  intro n
  induction n with
  | zero => intro j _ _; rw [lp_0]
  | succ n ih => intro j h k; rw [lp_s, k j (Nat.le_refl _) (by omega)]; exact ih (j + 1) (by omega) (fun i a b => k i (by omega) b)
section
variable {M m : PM} {a : Nat → Nat → Int32} {s : Nat × Int32}
theorem work_6 (H : LK a (zz m)) {h : Nat} (hh : h < 5) : v_X5_workOf m h = lp (fun j x => x + a 1 (6 * h + j)) 6 0 0 := by
  unfold v_X5_workOf
  rw [show (12 : Nat) = 6 + 6 from rfl, lp_add, lp_id _ 12 _ 6 (0 + 6) rfl (fun i h1 h2 => by
    show _ + zz m (5 + 12 * h + i) = _
    rw [H.2 h i (by omega) h2 (Or.inr (by omega)), Int32.add_zero])]
  refine lp_cong 6 (fun j x hj => ?_) 6 0 0 rfl
  show x + zz m (5 + 12 * h + j) = x + a 1 (6 * h + j)
  rw [H.1 h j hh hj]
theorem r_work (H : LK a (zz m)) {h : Nat} (hh : h < 5) : Rn ML_work [vR 8 1 0, vI (nI h)] (setA M a) (some (vI (v_X5_workOf m h))) (setA M a) := by
  rw [work_6 H hh]
  refine rn_of [some (vR 8 1 0), some (vI (nI h)), none, none] rfl ?_
  refine an_b 4 (pc2 := 4) (L2 := [some (vR 8 1 0), some (vI (nI h)), some (vI (0 : Int32)), some (vI (0 : Int32))]) (st2 := []) (m1 := (setA M a)) rfl ?_
  refine re_lp (fun j x => x + a 1 (6 * h + j)) (fun j x => (4, [some (vR 8 1 0), some (vI (nI h)), some (vI x), some (vI (nI j))], [], setA M a)) 6 (fun x => (4, [some (vR 8 1 0), some (vI (nI h)), some (vI x), some (vI (nI 6))], [], setA M a)) (fun j x hj v9 m9 K => ?_) (fun x v9 m9 K => K) 6 0 0 rfl _ _ ?_
  · show An ML_work 4 [some (vR 8 1 0), some (vI (nI h)), some (vI x), some (vI (nI j))] [] (setA M a) v9 m9
    refine an_b 3 (pc2 := if (6 : Int32) ≤ (nI j) then 27 else 10) (L2 := [some (vR 8 1 0), some (vI (nI h)), some (vI x), some (vI (nI j))]) (st2 := []) (m1 := (setA M a)) rfl ?_
    refine an_f (nI_ge (b := 6) hj (by omega)) ?_
    refine an_b 7 (pc2 := 18) (L2 := [some (vR 8 1 0), some (vI (nI h)), some (vI x), some (vI (nI j))]) (st2 := [vI (((6 : Int32) * (nI h)) + (nI j)), vR 8 1 0, vI x]) (m1 := (setA M a)) rfl ?_
    refine an_la 1 ((6 * h) + j) (by decide) (by show _ < 30; omega) (by simp only [ix_lit, pk_mul, nI_add]) rfl ?_
    refine an_b 4 (pc2 := 4) (L2 := [some (vR 8 1 0), some (vI (nI h)), some (vI (x + (a 1 ((6 * h) + j)))), some (vI ((nI j) + (1 : Int32)))]) (st2 := []) (m1 := (setA M a)) rfl ?_
    rw [← nI_1] at K
    exact K
  show An ML_work 4 [some (vR 8 1 0), some (vI (nI h)), some (vI (lp (fun j x => x + a 1 (6 * h + j)) 6 0 0)), some (vI (nI 6))] [] (setA M a) _ _
  refine an_b 3 (pc2 := if (6 : Int32) ≤ (nI 6) then 27 else 10) (L2 := [some (vR 8 1 0), some (vI (nI h)), some (vI (lp (fun j x => x + a 1 (6 * h + j)) 6 0 0)), some (vI (nI 6))]) (st2 := []) (m1 := (setA M a)) rfl ?_
  refine an_t (nI_le (Nat.le_refl 6) (by omega)) ?_
  refine an_b 1 (pc2 := 28) (L2 := [some (vR 8 1 0), some (vI (nI h)), some (vI (lp (fun j x => x + a 1 (6 * h + j)) 6 0 0)), some (vI (nI 6))]) (st2 := [vI (lp (fun j x => x + a 1 (6 * h + j)) 6 0 0)]) (m1 := (setA M a)) rfl ?_
  exact an_ret rfl rfl rfl rfl rfl
/-- a lock in the way -/
def clP (a : Nat → Nat → Int32) (r : Nat) (md but third : Int32) (h : Nat) : Prop := ¬ nI h = but ∧ ¬ nI h = third ∧ ¬ a 1 (6 * h + r) ≤ 0 ∧ ¬ a 1 (6 * h + r) + md ≤ 3
theorem all_s {P : Nat → Prop} {N h : Nat} (hp : ¬ P h) : (∀ j, h + 1 ≤ j → j < N → ¬ P j) ↔ ∀ j, h ≤ j → j < N → ¬ P j :=
  ⟨fun k j a b => by
    by_cases e : j = h
    · rw [e]; exact hp
    · exact k j (by omega) b, fun k j a b => k j (by omega) b⟩
theorem r_clashes {r : Nat} (hr : r < 6) (md but third : Int32) : ∃ b : Int32, Rn ML_clashes [vR 8 1 0, vI (nI r), vI md, vI but, vI third] (setA M a) (some (vI b)) (setA M a) ∧ (b = 0 ∨ b = 1) ∧ (b = 0 ↔ ∀ j, j < 5 → ¬ clP a r md but third j) := by
  suffices K : ∀ d h, h + d = 5 → ∃ b : Int32, An ML_clashes 3 [some (vR 8 1 0), some (vI (nI r)), some (vI md), some (vI but), some (vI third), some (vI (nI h))] [] (setA M a) (.inl (some (vI b))) (setA M a) ∧ (b = 0 ∨ b = 1) ∧ (b = 0 ↔ ∀ j, h ≤ j → j < 5 → ¬ clP a r md but third j) by
    obtain ⟨b, k1, k2, k3⟩ := K 5 0 rfl
    refine ⟨b, rn_of [some (vR 8 1 0), some (vI (nI r)), some (vI md), some (vI but), some (vI third), none] rfl ?_, k2, k3.trans ⟨fun k j h => k j (Nat.zero_le _) h, fun k j _ h => k j h⟩⟩
    refine an_b 2 (pc2 := 3) (L2 := [some (vR 8 1 0), some (vI (nI r)), some (vI md), some (vI but), some (vI third), some (vI (0 : Int32))]) (st2 := []) (m1 := (setA M a)) rfl ?_
    exact k1
  intro d
  induction d with
  | zero =>
    intro h hd
    obtain rfl : h = 5 := by omega
    refine ⟨0, ?_, Or.inl rfl, fun _ j h1 h2 => by omega, fun _ => rfl⟩
    refine an_b 3 (pc2 := if (5 : Int32) ≤ (nI 5) then 57 else 9) (L2 := [some (vR 8 1 0), some (vI (nI r)), some (vI md), some (vI but), some (vI third), some (vI (nI 5))]) (st2 := []) (m1 := (setA M a)) rfl ?_
    refine an_t (nI_le (Nat.le_refl 5) (by omega)) ?_
    refine an_b 1 (pc2 := 58) (L2 := [some (vR 8 1 0), some (vI (nI r)), some (vI md), some (vI but), some (vI third), some (vI (nI 5))]) (st2 := [vI (0 : Int32)]) (m1 := (setA M a)) rfl ?_
    exact an_ret rfl rfl rfl rfl rfl
  | succ d ih =>
    intro h hd
    obtain ⟨b, k1, k2, k3⟩ := ih (h + 1) (by omega)
    have nx : An ML_clashes 51 [some (vR 8 1 0), some (vI (nI r)), some (vI md), some (vI but), some (vI third), some (vI (nI h))] [] (setA M a) (.inl (some (vI b))) (setA M a) := by
      refine an_b 2 (pc2 := 3) (L2 := [some (vR 8 1 0), some (vI (nI r)), some (vI md), some (vI but), some (vI third), some (vI ((nI h) + (1 : Int32)))]) (st2 := []) (m1 := (setA M a)) rfl ?_
      rw [← nI_1] at k1
      exact k1
    by_cases c1 : nI h = but
    · refine ⟨b, ?_, k2, k3.trans (all_s (fun q => q.1 c1))⟩
      refine an_b 3 (pc2 := if (5 : Int32) ≤ (nI h) then 57 else 9) (L2 := [some (vR 8 1 0), some (vI (nI r)), some (vI md), some (vI but), some (vI third), some (vI (nI h))]) (st2 := []) (m1 := (setA M a)) rfl ?_
      refine an_f (nI_ge (b := 5) (by omega) (by omega)) ?_
      refine an_b 3 (pc2 := if (nI h) = but then 51 else 15) (L2 := [some (vR 8 1 0), some (vI (nI r)), some (vI md), some (vI but), some (vI third), some (vI (nI h))]) (st2 := []) (m1 := (setA M a)) rfl ?_
      refine an_t c1 ?_
      exact nx
    by_cases c2 : nI h = third
    · refine ⟨b, ?_, k2, k3.trans (all_s (fun q => q.2.1 c2))⟩
      refine an_b 3 (pc2 := if (5 : Int32) ≤ (nI h) then 57 else 9) (L2 := [some (vR 8 1 0), some (vI (nI r)), some (vI md), some (vI but), some (vI third), some (vI (nI h))]) (st2 := []) (m1 := (setA M a)) rfl ?_
      refine an_f (nI_ge (b := 5) (by omega) (by omega)) ?_
      refine an_b 3 (pc2 := if (nI h) = but then 51 else 15) (L2 := [some (vR 8 1 0), some (vI (nI r)), some (vI md), some (vI but), some (vI third), some (vI (nI h))]) (st2 := []) (m1 := (setA M a)) rfl ?_
      refine an_f c1 ?_
      refine an_b 3 (pc2 := if (nI h) = third then 51 else 22) (L2 := [some (vR 8 1 0), some (vI (nI r)), some (vI md), some (vI but), some (vI third), some (vI (nI h))]) (st2 := []) (m1 := (setA M a)) rfl ?_
      refine an_t c2 ?_
      exact nx
    by_cases c3 : a 1 (6 * h + r) ≤ 0
    · refine ⟨b, ?_, k2, k3.trans (all_s (fun q => q.2.2.1 c3))⟩
      refine an_b 3 (pc2 := if (5 : Int32) ≤ (nI h) then 57 else 9) (L2 := [some (vR 8 1 0), some (vI (nI r)), some (vI md), some (vI but), some (vI third), some (vI (nI h))]) (st2 := []) (m1 := (setA M a)) rfl ?_
      refine an_f (nI_ge (b := 5) (by omega) (by omega)) ?_
      refine an_b 3 (pc2 := if (nI h) = but then 51 else 15) (L2 := [some (vR 8 1 0), some (vI (nI r)), some (vI md), some (vI but), some (vI third), some (vI (nI h))]) (st2 := []) (m1 := (setA M a)) rfl ?_
      refine an_f c1 ?_
      refine an_b 3 (pc2 := if (nI h) = third then 51 else 22) (L2 := [some (vR 8 1 0), some (vI (nI r)), some (vI md), some (vI but), some (vI third), some (vI (nI h))]) (st2 := []) (m1 := (setA M a)) rfl ?_
      refine an_f c2 ?_
      refine an_b 6 (pc2 := 30) (L2 := [some (vR 8 1 0), some (vI (nI r)), some (vI md), some (vI but), some (vI third), some (vI (nI h))]) (st2 := [vI (((6 : Int32) * (nI h)) + (nI r)), vR 8 1 0]) (m1 := (setA M a)) rfl ?_
      refine an_la 1 ((6 * h) + r) (by decide) (by show _ < 30; omega) (by simp only [ix_lit, pk_mul, nI_add]) rfl ?_
      refine an_b 1 (pc2 := if (a 1 ((6 * h) + r)) ≤ 0 then 51 else 34) (L2 := [some (vR 8 1 0), some (vI (nI r)), some (vI md), some (vI but), some (vI third), some (vI (nI h))]) (st2 := []) (m1 := (setA M a)) rfl ?_
      refine an_t c3 ?_
      exact nx
    by_cases c4 : a 1 (6 * h + r) + md ≤ 3
    · refine ⟨b, ?_, k2, k3.trans (all_s (fun q => q.2.2.2 c4))⟩
      refine an_b 3 (pc2 := if (5 : Int32) ≤ (nI h) then 57 else 9) (L2 := [some (vR 8 1 0), some (vI (nI r)), some (vI md), some (vI but), some (vI third), some (vI (nI h))]) (st2 := []) (m1 := (setA M a)) rfl ?_
      refine an_f (nI_ge (b := 5) (by omega) (by omega)) ?_
      refine an_b 3 (pc2 := if (nI h) = but then 51 else 15) (L2 := [some (vR 8 1 0), some (vI (nI r)), some (vI md), some (vI but), some (vI third), some (vI (nI h))]) (st2 := []) (m1 := (setA M a)) rfl ?_
      refine an_f c1 ?_
      refine an_b 3 (pc2 := if (nI h) = third then 51 else 22) (L2 := [some (vR 8 1 0), some (vI (nI r)), some (vI md), some (vI but), some (vI third), some (vI (nI h))]) (st2 := []) (m1 := (setA M a)) rfl ?_
      refine an_f c2 ?_
      refine an_b 6 (pc2 := 30) (L2 := [some (vR 8 1 0), some (vI (nI r)), some (vI md), some (vI but), some (vI third), some (vI (nI h))]) (st2 := [vI (((6 : Int32) * (nI h)) + (nI r)), vR 8 1 0]) (m1 := (setA M a)) rfl ?_
      refine an_la 1 ((6 * h) + r) (by decide) (by show _ < 30; omega) (by simp only [ix_lit, pk_mul, nI_add]) rfl ?_
      refine an_b 1 (pc2 := if (a 1 ((6 * h) + r)) ≤ 0 then 51 else 34) (L2 := [some (vR 8 1 0), some (vI (nI r)), some (vI md), some (vI but), some (vI third), some (vI (nI h))]) (st2 := []) (m1 := (setA M a)) rfl ?_
      refine an_f c3 ?_
      refine an_b 6 (pc2 := 42) (L2 := [some (vR 8 1 0), some (vI (nI r)), some (vI md), some (vI but), some (vI third), some (vI (nI h))]) (st2 := [vI (((6 : Int32) * (nI h)) + (nI r)), vR 8 1 0]) (m1 := (setA M a)) rfl ?_
      refine an_la 1 ((6 * h) + r) (by decide) (by show _ < 30; omega) (by simp only [ix_lit, pk_mul, nI_add]) rfl ?_
      refine an_b 4 (pc2 := if ((a 1 ((6 * h) + r)) + md) ≤ (3 : Int32) then 51 else 49) (L2 := [some (vR 8 1 0), some (vI (nI r)), some (vI md), some (vI but), some (vI third), some (vI (nI h))]) (st2 := []) (m1 := (setA M a)) rfl ?_
      refine an_t c4 ?_
      exact nx
    refine ⟨1, ?_, Or.inr rfl, fun q => absurd q (by decide), fun q => absurd ⟨c1, c2, c3, c4⟩ (q h (Nat.le_refl _) (by omega))⟩
    refine an_b 3 (pc2 := if (5 : Int32) ≤ (nI h) then 57 else 9) (L2 := [some (vR 8 1 0), some (vI (nI r)), some (vI md), some (vI but), some (vI third), some (vI (nI h))]) (st2 := []) (m1 := (setA M a)) rfl ?_
    refine an_f (nI_ge (b := 5) (by omega) (by omega)) ?_
    refine an_b 3 (pc2 := if (nI h) = but then 51 else 15) (L2 := [some (vR 8 1 0), some (vI (nI r)), some (vI md), some (vI but), some (vI third), some (vI (nI h))]) (st2 := []) (m1 := (setA M a)) rfl ?_
    refine an_f c1 ?_
    refine an_b 3 (pc2 := if (nI h) = third then 51 else 22) (L2 := [some (vR 8 1 0), some (vI (nI r)), some (vI md), some (vI but), some (vI third), some (vI (nI h))]) (st2 := []) (m1 := (setA M a)) rfl ?_
    refine an_f c2 ?_
    refine an_b 6 (pc2 := 30) (L2 := [some (vR 8 1 0), some (vI (nI r)), some (vI md), some (vI but), some (vI third), some (vI (nI h))]) (st2 := [vI (((6 : Int32) * (nI h)) + (nI r)), vR 8 1 0]) (m1 := (setA M a)) rfl ?_
    refine an_la 1 ((6 * h) + r) (by decide) (by show _ < 30; omega) (by simp only [ix_lit, pk_mul, nI_add]) rfl ?_
    refine an_b 1 (pc2 := if (a 1 ((6 * h) + r)) ≤ 0 then 51 else 34) (L2 := [some (vR 8 1 0), some (vI (nI r)), some (vI md), some (vI but), some (vI third), some (vI (nI h))]) (st2 := []) (m1 := (setA M a)) rfl ?_
    refine an_f c3 ?_
    refine an_b 6 (pc2 := 42) (L2 := [some (vR 8 1 0), some (vI (nI r)), some (vI md), some (vI but), some (vI third), some (vI (nI h))]) (st2 := [vI (((6 : Int32) * (nI h)) + (nI r)), vR 8 1 0]) (m1 := (setA M a)) rfl ?_
    refine an_la 1 ((6 * h) + r) (by decide) (by show _ < 30; omega) (by simp only [ix_lit, pk_mul, nI_add]) rfl ?_
    refine an_b 4 (pc2 := if ((a 1 ((6 * h) + r)) + md) ≤ (3 : Int32) then 51 else 49) (L2 := [some (vR 8 1 0), some (vI (nI r)), some (vI md), some (vI but), some (vI third), some (vI (nI h))]) (st2 := []) (m1 := (setA M a)) rfl ?_
    refine an_f c4 ?_
    refine an_b 1 (pc2 := 50) (L2 := [some (vR 8 1 0), some (vI (nI r)), some (vI md), some (vI but), some (vI third), some (vI (nI h))]) (st2 := [vI (1 : Int32)]) (m1 := (setA M a)) rfl ?_
    exact an_ret rfl rfl rfl rfl rfl
theorem rq_n {rr rm rp z : Nat → Int32} (HQ : RQ rr rm rp z) (H : LQ a z) {h : Nat} (hh : h < 8) : rr h = -1 ∨ ∃ r n p, r < 6 ∧ n ≤ 5 ∧ z (125 + r) = nI n ∧ a 3 r = nI n ∧ p < n ∧ rr h = nI r ∧ rp h = nI p ∧ z (137 + 8 * r + p) = nI h := by
  rcases HQ.2 h hh with ⟨e, _⟩ | ⟨r, n, p, h1, h2, h3, h4, h5, h6, h7⟩
  · exact Or.inl e
  · by_cases c : r < 6
    · obtain ⟨n2, g1, g2, g3, _⟩ := H.1 r c
      have e : n = n2 := (nI_eq (by omega) (by omega)).mp (h2.symm.trans g2)
      exact Or.inr ⟨r, n, p, c, by omega, h2, by rw [e]; exact g3, h4, h5, h6, h7⟩
    · have e := H.2 r (by omega) h1
      rw [h2] at e
      exact absurd e (nI_ne0 (by omega) (by omega))
theorem r_rowOf {rr rm rp : Nat → Int32} (HQ : RQ rr rm rp (zz m)) (H : LQ a (zz m)) {h : Nat} (hh : h < 5) : Rn ML_rowOf [vR 8 2 0, vR 8 3 0, vI (nI h)] (setA M a) (some (vI (rr h))) (setA M a) := by
  have ho := rq_n HQ H (h := h) (by omega)
  suffices K : ∀ d r, r + d = 6 → (∀ r2, r2 < r → ¬ rr h = nI r2) → An ML_rowOf 2 [some (vR 8 2 0), some (vR 8 3 0), some (vI (nI h)), some (vI (nI r)), none] [] (setA M a) (.inl (some (vI (rr h)))) (setA M a) by
    refine rn_of [some (vR 8 2 0), some (vR 8 3 0), some (vI (nI h)), none, none] rfl ?_
    refine an_b 2 (pc2 := 2) (L2 := [some (vR 8 2 0), some (vR 8 3 0), some (vI (nI h)), some (vI (0 : Int32)), none]) (st2 := []) (m1 := (setA M a)) rfl ?_
    exact K 6 0 rfl (fun _ q => by omega)
  intro d
  induction d with
  | zero =>
    intro r hd hn
    obtain rfl : r = 6 := by omega
    have e1 : rr h = -1 := by
      rcases ho with e | ⟨r, n, p, h1, _, _, _, _, h5, _⟩
      · exact e
      · exact absurd h5 (hn r h1)
    rw [e1]
    refine an_b 3 (pc2 := if (6 : Int32) ≤ (nI 6) then 48 else 8) (L2 := [some (vR 8 2 0), some (vR 8 3 0), some (vI (nI h)), some (vI (nI 6)), none]) (st2 := []) (m1 := (setA M a)) rfl ?_
    refine an_t (nI_le (Nat.le_refl 6) (by omega)) ?_
    refine an_b 1 (pc2 := 49) (L2 := [some (vR 8 2 0), some (vR 8 3 0), some (vI (nI h)), some (vI (nI 6)), none]) (st2 := [vI (-1 : Int32)]) (m1 := (setA M a)) rfl ?_
    exact an_ret rfl rfl rfl rfl rfl
  | succ d ih =>
    intro r hd hn
    have hr : r < 6 := by omega
    obtain ⟨n, hn5, n1, n2, n3⟩ := H.1 r hr
    refine an_b 3 (pc2 := if (6 : Int32) ≤ (nI r) then 48 else 8) (L2 := [some (vR 8 2 0), some (vR 8 3 0), some (vI (nI h)), some (vI (nI r)), none]) (st2 := []) (m1 := (setA M a)) rfl ?_
    refine an_f (nI_ge (b := 6) (by omega) (by omega)) ?_
    refine an_b 2 (pc2 := 11) (L2 := [some (vR 8 2 0), some (vR 8 3 0), some (vI (nI h)), some (vI (nI r)), some (vI (0 : Int32))]) (st2 := []) (m1 := (setA M a)) rfl ?_
    suffices K2 : ∀ e k, k + e = n → (∀ k2, k2 < k → ¬ zz m (137 + 8 * r + k2) = nI h) → An ML_rowOf 11 [some (vR 8 2 0), some (vR 8 3 0), some (vI (nI h)), some (vI (nI r)), some (vI (nI k))] [] (setA M a) (.inl (some (vI (rr h)))) (setA M a) from K2 n 0 (Nat.zero_add n) (fun _ q => by omega)
    intro e
    induction e with
    | zero =>
      intro k hk hq
      obtain rfl : k = n := by omega
      refine an_b 3 (pc2 := 15) (L2 := [some (vR 8 2 0), some (vR 8 3 0), some (vI (nI h)), some (vI (nI r)), some (vI (nI k))]) (st2 := [vI (nI r), vR 8 3 0, vI (nI k)]) (m1 := (setA M a)) rfl ?_
      refine an_la 3 r (by decide) (by show _ < 6; omega) rfl rfl ?_
      refine an_b 1 (pc2 := if (nI k) ≤ (nI k) then 42 else 19) (L2 := [some (vR 8 2 0), some (vR 8 3 0), some (vI (nI h)), some (vI (nI r)), some (vI (nI k))]) (st2 := []) (m1 := (setA M a)) (by rw [n2]; rfl) ?_
      refine an_t (nI_le (Nat.le_refl k) (by omega)) ?_
      refine an_b 2 (pc2 := 2) (L2 := [some (vR 8 2 0), some (vR 8 3 0), some (vI (nI h)), some (vI ((nI r) + (1 : Int32))), some (vI (nI k))]) (st2 := []) (m1 := (setA M a)) rfl ?_
      refine an_weak (L := [some (vR 8 2 0), some (vR 8 3 0), some (vI (nI h)), some (vI (nI (r + 1))), none]) ⟨rfl, rfl, rfl, by rw [nI_1], trivial⟩ ?_
      refine ih (r + 1) (by omega) (fun r2 h2 => ?_)
      by_cases q : r2 = r
      · subst q
        intro hr2
        rcases ho with e | ⟨r3, n3, p, h1, h2, h3, h4, h5, h6, h7, h8⟩
        · exact nI_nm1 (show r2 < 2 ^ 31 by omega) (hr2.symm.trans e)
        · obtain rfl : r2 = r3 := (nI_eq (by omega) (by omega)).mp (hr2.symm.trans h6)
          obtain rfl : k = n3 := (nI_eq (by omega) (by omega)).mp (n1.symm.trans h3)
          exact hq p h5 h8
      · exact hn r2 (by omega)
    | succ e ih2 =>
      intro k hk hq
      obtain ⟨w, md, w1, w2, w3, w4, w5, w6⟩ := n3 k (by omega)
      refine an_b 3 (pc2 := 15) (L2 := [some (vR 8 2 0), some (vR 8 3 0), some (vI (nI h)), some (vI (nI r)), some (vI (nI k))]) (st2 := [vI (nI r), vR 8 3 0, vI (nI k)]) (m1 := (setA M a)) rfl ?_
      refine an_la 3 r (by decide) (by show _ < 6; omega) rfl rfl ?_
      refine an_b 1 (pc2 := if (nI n) ≤ (nI k) then 42 else 19) (L2 := [some (vR 8 2 0), some (vR 8 3 0), some (vI (nI h)), some (vI (nI r)), some (vI (nI k))]) (st2 := []) (m1 := (setA M a)) (by rw [n2]; rfl) ?_
      refine an_f (nI_ge (by omega) (by omega)) ?_
      refine an_b 6 (pc2 := 26) (L2 := [some (vR 8 2 0), some (vR 8 3 0), some (vI (nI h)), some (vI (nI r)), some (vI (nI k))]) (st2 := [vI (((5 : Int32) * (nI r)) + (nI k)), vR 8 2 0]) (m1 := (setA M a)) rfl ?_
      refine an_la 2 ((5 * r) + k) (by decide) (by show _ < 36; omega) (by simp only [ix_lit, pk_mul, nI_add]) rfl ?_
      refine an_b 4 (pc2 := if ¬ (nI w) = (nI h) then 36 else 34) (L2 := [some (vR 8 2 0), some (vR 8 3 0), some (vI (nI h)), some (vI (nI r)), some (vI (nI k))]) (st2 := []) (m1 := (setA M a)) (by rw [show a 2 (5 * r + k) = nI (w + 8 * md) from w6, ← rem8 w w1 md w3]; rfl) ?_
      by_cases c : nI w = nI h
      · refine an_f (fun q => q c) ?_
        have e1 : rr h = nI r := by
          obtain ⟨n4, _, g2, g3⟩ := HQ.1 r (by omega)
          obtain rfl : n = n4 := (nI_eq (by omega) (by omega)).mp (n1.symm.trans g2)
          obtain ⟨h2, x1, x2, x3, _⟩ := g3 k (by omega)
          obtain rfl : h2 = h := (nI_eq (by omega) (by omega)).mp (x2.symm.trans (w4.trans c))
          exact x3
        rw [e1]
        refine an_b 1 (pc2 := 35) (L2 := [some (vR 8 2 0), some (vR 8 3 0), some (vI (nI h)), some (vI (nI r)), some (vI (nI k))]) (st2 := [vI (nI r)]) (m1 := (setA M a)) rfl ?_
        exact an_ret rfl rfl rfl rfl rfl
      · refine an_t c ?_
        refine an_b 2 (pc2 := 11) (L2 := [some (vR 8 2 0), some (vR 8 3 0), some (vI (nI h)), some (vI (nI r)), some (vI ((nI k) + (1 : Int32)))]) (st2 := []) (m1 := (setA M a)) rfl ?_
        rw [nI_1]
        exact ih2 (k + 1) (by omega) (fun k2 h2 => by
          by_cases q : k2 = k
          · rw [q, w4]; exact c
          · exact hq k2 (by omega))
end
