/-! a turn of the law's ring: what is taken from the one who loses; the rows settled; the turns -/
section
variable {M m : PM} {a : Nat → Nat → Int32} {h r : Nat} {s : Nat × Int32} {md : Int32} {c : Nat → Nat → Int32}
def itA (a : Nat → Nat → Int32) (l : Nat) : Nat → Nat → Int32 := up2 a 6 l (a 6 l + 1)
set_option maxRecDepth 100000 in
theorem it2 (H : LA a (zz m) s) (HS : SA c (zz m)) {l : Nat} (hl : l < 5) (hw : ¬ c 1 l = -1) : ∃ (own n p : Nat) (rows : Int32), own < 6 ∧ n ≤ 5 ∧ p < n ∧ zz m (125 + own) = nI n ∧ c 1 l = nI own ∧ c 3 l = nI p ∧ (∀ i, i < 6 → (bit rows i = true ↔ (lkB (zz m) l i || decide (i = own)) = true)) ∧ ∀ (x : Int32) (v : OC) (m2 : PM), An ML_asks 384 [some (vR 8 1 0), some (vR 8 2 0), some (vR 8 3 0), some (vR 8 6 0), some (vR 8 7 0), some (vR 8 8 0), some (vI (nI h)), some (vI (nI r)), some (vI md), none, some (vI x), some (vI (nI l)), some (vI rows), some (vI (nI own)), none] [] (setA M (lvK (zK (itA a l) l 6) own p n (n - 1))) v m2 → An ML_asks 263 [some (vR 8 1 0), some (vR 8 2 0), some (vR 8 3 0), some (vR 8 6 0), some (vR 8 7 0), some (vR 8 8 0), some (vI (nI h)), some (vI (nI r)), some (vI md), none, some (vI x), some (vI (nI l)), none, none, none] [] (setA M a) v m2 := by
  rcases rq_n HS.2.1 H.2.1 (h := l) (by omega) with e | ⟨own, n, p, ho, hn5, hn, hqm, hp, e1, e2, e3⟩
  · exact absurd e hw
  -- the rows, as bits
  have R : ∀ d j (y : Int32), j + d = 6 → (∀ i, i < 32 → (bit y i = true ↔ i < j ∧ (lkB (zz m) l i || decide (i = own)) = true)) → ∃ rows, (∀ i, i < 6 → (bit rows i = true ↔ (lkB (zz m) l i || decide (i = own)) = true)) ∧ ∀ (x : Int32) (v : OC) (m2 : PM), An ML_asks 339 [some (vR 8 1 0), some (vR 8 2 0), some (vR 8 3 0), some (vR 8 6 0), some (vR 8 7 0), some (vR 8 8 0), some (vI (nI h)), some (vI (nI r)), some (vI md), none, some (vI x), some (vI (nI l)), some (vI rows), some (vI (nI own)), none] [] (setA M (zK (itA a l) l 6)) v m2 → An ML_asks 286 [some (vR 8 1 0), some (vR 8 2 0), some (vR 8 3 0), some (vR 8 6 0), some (vR 8 7 0), some (vR 8 8 0), some (vI (nI h)), some (vI (nI r)), some (vI md), none, some (vI x), some (vI (nI l)), some (vI y), some (vI (nI own)), some (vI (nI j))] [] (setA M (zK (itA a l) l j)) v m2 := by
    intro d
    induction d with
    | zero =>
      intro j y hd hy
      obtain rfl : j = 6 := by omega
      refine ⟨y, fun i hi => (hy i (by omega)).trans ⟨fun q => q.2, fun q => ⟨hi, q⟩⟩, fun x v m2 hk => ?_⟩
      refine an_b 3 (pc2 := if (6 : Int32) ≤ (nI 6) then 339 else 293) (L2 := [some (vR 8 1 0), some (vR 8 2 0), some (vR 8 3 0), some (vR 8 6 0), some (vR 8 7 0), some (vR 8 8 0), some (vI (nI h)), some (vI (nI r)), some (vI md), none, some (vI x), some (vI (nI l)), some (vI y), some (vI (nI own)), some (vI (nI 6))]) (st2 := []) (m1 := (setA M (zK (itA a l) l 6))) rfl ?_
      refine an_t (nI_le (Nat.le_refl 6) (by omega)) ?_
      exact an_weak (L := [some (vR 8 1 0), some (vR 8 2 0), some (vR 8 3 0), some (vR 8 6 0), some (vR 8 7 0), some (vR 8 8 0), some (vI (nI h)), some (vI (nI r)), some (vI md), none, some (vI x), some (vI (nI l)), some (vI y), some (vI (nI own)), none]) ⟨rfl, rfl, rfl, rfl, rfl, rfl, rfl, rfl, rfl, rfl, rfl, rfl, rfl, trivial⟩ hk
    | succ d ih =>
      intro j y hd hy
      have el : (zK (itA a l) l j) 1 (6 * l + j) = zz m (5 + 12 * l + j) := by
        rw [zK_x _ (by omega)]
        unfold itA
        rw [up2_o _ _ _ _ (by decide)]
        exact H.1.1 l j hl (by omega)
      -- behind the bit
      have nx : ∀ y2, (∀ i, i < 32 → (bit y2 i = true ↔ i < j + 1 ∧ (lkB (zz m) l i || decide (i = own)) = true)) → ∃ rows, (∀ i, i < 6 → (bit rows i = true ↔ (lkB (zz m) l i || decide (i = own)) = true)) ∧ ∀ (x : Int32) (v : OC) (m2 : PM), An ML_asks 339 [some (vR 8 1 0), some (vR 8 2 0), some (vR 8 3 0), some (vR 8 6 0), some (vR 8 7 0), some (vR 8 8 0), some (vI (nI h)), some (vI (nI r)), some (vI md), none, some (vI x), some (vI (nI l)), some (vI rows), some (vI (nI own)), none] [] (setA M (zK (itA a l) l 6)) v m2 → An ML_asks 322 [some (vR 8 1 0), some (vR 8 2 0), some (vR 8 3 0), some (vR 8 6 0), some (vR 8 7 0), some (vR 8 8 0), some (vI (nI h)), some (vI (nI r)), some (vI md), none, some (vI x), some (vI (nI l)), some (vI y2), some (vI (nI own)), some (vI (nI j))] [] (setA M (zK (itA a l) l j)) v m2 := by
        intro y2 h2
        obtain ⟨rows, k1, k2⟩ := ih (j + 1) y2 (by omega) h2
        refine ⟨rows, k1, fun x v m2 hk => ?_⟩
        have k3 := k2 x v m2 hk
        rw [← zK_s] at k3
        refine an_b 7 (pc2 := 332) (L2 := [some (vR 8 1 0), some (vR 8 2 0), some (vR 8 3 0), some (vR 8 6 0), some (vR 8 7 0), some (vR 8 8 0), some (vI (nI h)), some (vI (nI r)), some (vI md), none, some (vI x), some (vI (nI l)), some (vI y2), some (vI (nI own)), some (vI (nI j))]) (st2 := [vI (0 : Int32), vI (((6 : Int32) * (nI l)) + (nI j)), vR 8 1 0]) (m1 := (setA M (zK (itA a l) l j))) rfl ?_
        refine an_sa 1 ((6 * l) + j) (by decide) (by show _ < 30; omega) (by simp only [ix_lit, pk_mul, nI_add]) rfl ?_
        refine an_b 2 (pc2 := 286) (L2 := [some (vR 8 1 0), some (vR 8 2 0), some (vR 8 3 0), some (vR 8 6 0), some (vR 8 7 0), some (vR 8 8 0), some (vI (nI h)), some (vI (nI r)), some (vI md), none, some (vI x), some (vI (nI l)), some (vI y2), some (vI (nI own)), some (vI ((nI j) + (1 : Int32)))]) (st2 := []) (m1 := (setA M (up2 (zK (itA a l) l j) 1 ((6 * l) + j) (0 : Int32)))) rfl ?_
        rw [← nI_1] at k3
        exact k3
      have yes : (lkB (zz m) l j || decide (j = own)) = true → ∀ i, i < 32 → (bit (y ||| ((1 : Int32) <<< (nI j &&& (31 : Int32)))) i = true ↔ i < j + 1 ∧ (lkB (zz m) l i || decide (i = own)) = true) := by
        intro q i hi
        rw [bit_or, bit_1 hi (by omega), Bool.or_eq_true, decide_eq_true_eq, hy i hi]
        constructor
        · rintro (⟨b1, b2⟩ | rfl)
          · exact ⟨by omega, b2⟩
          · exact ⟨by omega, q⟩
        · rintro ⟨b1, b2⟩
          by_cases u : i = j
          · exact Or.inr u
          · exact Or.inl ⟨by omega, b2⟩
      have no : ¬ (lkB (zz m) l j || decide (j = own)) = true → ∀ i, i < 32 → (bit y i = true ↔ i < j + 1 ∧ (lkB (zz m) l i || decide (i = own)) = true) := by
        intro q i hi
        rw [hy i hi]
        constructor
        · rintro ⟨b1, b2⟩; exact ⟨by omega, b2⟩
        · rintro ⟨b1, b2⟩
          by_cases u : i = j
          · rw [u] at b2; exact absurd b2 q
          · exact ⟨by omega, b2⟩
      by_cases c1 : (0 : Int32) < zz m (5 + 12 * l + j)
      · have b1 : (lkB (zz m) l j || decide (j = own)) = true := by
          unfold lkB
          rw [decide_eq_false (Int32.not_le.mpr c1)]
          rfl
        obtain ⟨rows, k1, k2⟩ := nx _ (yes b1)
        refine ⟨rows, k1, fun x v m2 hk => ?_⟩
        refine an_b 3 (pc2 := if (6 : Int32) ≤ (nI j) then 339 else 293) (L2 := [some (vR 8 1 0), some (vR 8 2 0), some (vR 8 3 0), some (vR 8 6 0), some (vR 8 7 0), some (vR 8 8 0), some (vI (nI h)), some (vI (nI r)), some (vI md), none, some (vI x), some (vI (nI l)), some (vI y), some (vI (nI own)), some (vI (nI j))]) (st2 := []) (m1 := (setA M (zK (itA a l) l j))) rfl ?_
        refine an_f (nI_ge (b := 6) (by omega) (by omega)) ?_
        refine an_b 6 (pc2 := 302) (L2 := [some (vR 8 1 0), some (vR 8 2 0), some (vR 8 3 0), some (vR 8 6 0), some (vR 8 7 0), some (vR 8 8 0), some (vI (nI h)), some (vI (nI r)), some (vI md), none, some (vI x), some (vI (nI l)), some (vI y), some (vI (nI own)), some (vI (nI j))]) (st2 := [vI (((6 : Int32) * (nI l)) + (nI j)), vR 8 1 0]) (m1 := (setA M (zK (itA a l) l j))) rfl ?_
        refine an_la 1 ((6 * l) + j) (by decide) (by show _ < 30; omega) (by simp only [ix_lit, pk_mul, nI_add]) rfl ?_
        refine an_b 1 (pc2 := if 0 < (zz m (5 + 12 * l + j)) then 313 else 306) (L2 := [some (vR 8 1 0), some (vR 8 2 0), some (vR 8 3 0), some (vR 8 6 0), some (vR 8 7 0), some (vR 8 8 0), some (vI (nI h)), some (vI (nI r)), some (vI md), none, some (vI x), some (vI (nI l)), some (vI y), some (vI (nI own)), some (vI (nI j))]) (st2 := []) (m1 := (setA M (zK (itA a l) l j))) (by rw [← el]; rfl) ?_
        refine an_t c1 ?_
        refine an_b 6 (pc2 := 322) (L2 := [some (vR 8 1 0), some (vR 8 2 0), some (vR 8 3 0), some (vR 8 6 0), some (vR 8 7 0), some (vR 8 8 0), some (vI (nI h)), some (vI (nI r)), some (vI md), none, some (vI x), some (vI (nI l)), some (vI (y ||| ((1 : Int32) <<< ((nI j) &&& (31 : Int32))))), some (vI (nI own)), some (vI (nI j))]) (st2 := []) (m1 := (setA M (zK (itA a l) l j))) rfl ?_
        exact k2 x v m2 hk
      · have b0 : lkB (zz m) l j = false := by
          unfold lkB
          rw [decide_eq_true (Int32.not_lt.mp c1)]
          rfl
        by_cases c2 : nI j = nI own
        · have b1 : (lkB (zz m) l j || decide (j = own)) = true := by
            rw [b0, decide_eq_true ((nI_eq (by omega) (by omega)).mp c2)]
            rfl
          obtain ⟨rows, k1, k2⟩ := nx _ (yes b1)
          refine ⟨rows, k1, fun x v m2 hk => ?_⟩
          refine an_b 3 (pc2 := if (6 : Int32) ≤ (nI j) then 339 else 293) (L2 := [some (vR 8 1 0), some (vR 8 2 0), some (vR 8 3 0), some (vR 8 6 0), some (vR 8 7 0), some (vR 8 8 0), some (vI (nI h)), some (vI (nI r)), some (vI md), none, some (vI x), some (vI (nI l)), some (vI y), some (vI (nI own)), some (vI (nI j))]) (st2 := []) (m1 := (setA M (zK (itA a l) l j))) rfl ?_
          refine an_f (nI_ge (b := 6) (by omega) (by omega)) ?_
          refine an_b 6 (pc2 := 302) (L2 := [some (vR 8 1 0), some (vR 8 2 0), some (vR 8 3 0), some (vR 8 6 0), some (vR 8 7 0), some (vR 8 8 0), some (vI (nI h)), some (vI (nI r)), some (vI md), none, some (vI x), some (vI (nI l)), some (vI y), some (vI (nI own)), some (vI (nI j))]) (st2 := [vI (((6 : Int32) * (nI l)) + (nI j)), vR 8 1 0]) (m1 := (setA M (zK (itA a l) l j))) rfl ?_
          refine an_la 1 ((6 * l) + j) (by decide) (by show _ < 30; omega) (by simp only [ix_lit, pk_mul, nI_add]) rfl ?_
          refine an_b 1 (pc2 := if 0 < (zz m (5 + 12 * l + j)) then 313 else 306) (L2 := [some (vR 8 1 0), some (vR 8 2 0), some (vR 8 3 0), some (vR 8 6 0), some (vR 8 7 0), some (vR 8 8 0), some (vI (nI h)), some (vI (nI r)), some (vI md), none, some (vI x), some (vI (nI l)), some (vI y), some (vI (nI own)), some (vI (nI j))]) (st2 := []) (m1 := (setA M (zK (itA a l) l j))) (by rw [← el]; rfl) ?_
          refine an_f c1 ?_
          refine an_b 3 (pc2 := if ¬ (nI j) = (nI own) then 322 else 313) (L2 := [some (vR 8 1 0), some (vR 8 2 0), some (vR 8 3 0), some (vR 8 6 0), some (vR 8 7 0), some (vR 8 8 0), some (vI (nI h)), some (vI (nI r)), some (vI md), none, some (vI x), some (vI (nI l)), some (vI y), some (vI (nI own)), some (vI (nI j))]) (st2 := []) (m1 := (setA M (zK (itA a l) l j))) rfl ?_
          refine an_f (fun u => u c2) ?_
          refine an_b 6 (pc2 := 322) (L2 := [some (vR 8 1 0), some (vR 8 2 0), some (vR 8 3 0), some (vR 8 6 0), some (vR 8 7 0), some (vR 8 8 0), some (vI (nI h)), some (vI (nI r)), some (vI md), none, some (vI x), some (vI (nI l)), some (vI (y ||| ((1 : Int32) <<< ((nI j) &&& (31 : Int32))))), some (vI (nI own)), some (vI (nI j))]) (st2 := []) (m1 := (setA M (zK (itA a l) l j))) rfl ?_
          exact k2 x v m2 hk
        · have b1 : ¬ (lkB (zz m) l j || decide (j = own)) = true := by
            rw [b0, decide_eq_false (fun u => c2 (by rw [u]))]
            decide
          obtain ⟨rows, k1, k2⟩ := nx y (no b1)
          refine ⟨rows, k1, fun x v m2 hk => ?_⟩
          refine an_b 3 (pc2 := if (6 : Int32) ≤ (nI j) then 339 else 293) (L2 := [some (vR 8 1 0), some (vR 8 2 0), some (vR 8 3 0), some (vR 8 6 0), some (vR 8 7 0), some (vR 8 8 0), some (vI (nI h)), some (vI (nI r)), some (vI md), none, some (vI x), some (vI (nI l)), some (vI y), some (vI (nI own)), some (vI (nI j))]) (st2 := []) (m1 := (setA M (zK (itA a l) l j))) rfl ?_
          refine an_f (nI_ge (b := 6) (by omega) (by omega)) ?_
          refine an_b 6 (pc2 := 302) (L2 := [some (vR 8 1 0), some (vR 8 2 0), some (vR 8 3 0), some (vR 8 6 0), some (vR 8 7 0), some (vR 8 8 0), some (vI (nI h)), some (vI (nI r)), some (vI md), none, some (vI x), some (vI (nI l)), some (vI y), some (vI (nI own)), some (vI (nI j))]) (st2 := [vI (((6 : Int32) * (nI l)) + (nI j)), vR 8 1 0]) (m1 := (setA M (zK (itA a l) l j))) rfl ?_
          refine an_la 1 ((6 * l) + j) (by decide) (by show _ < 30; omega) (by simp only [ix_lit, pk_mul, nI_add]) rfl ?_
          refine an_b 1 (pc2 := if 0 < (zz m (5 + 12 * l + j)) then 313 else 306) (L2 := [some (vR 8 1 0), some (vR 8 2 0), some (vR 8 3 0), some (vR 8 6 0), some (vR 8 7 0), some (vR 8 8 0), some (vI (nI h)), some (vI (nI r)), some (vI md), none, some (vI x), some (vI (nI l)), some (vI y), some (vI (nI own)), some (vI (nI j))]) (st2 := []) (m1 := (setA M (zK (itA a l) l j))) (by rw [← el]; rfl) ?_
          refine an_f c1 ?_
          refine an_b 3 (pc2 := if ¬ (nI j) = (nI own) then 322 else 313) (L2 := [some (vR 8 1 0), some (vR 8 2 0), some (vR 8 3 0), some (vR 8 6 0), some (vR 8 7 0), some (vR 8 8 0), some (vI (nI h)), some (vI (nI r)), some (vI md), none, some (vI x), some (vI (nI l)), some (vI y), some (vI (nI own)), some (vI (nI j))]) (st2 := []) (m1 := (setA M (zK (itA a l) l j))) rfl ?_
          refine an_t c2 ?_
          exact k2 x v m2 hk
  have HQ3 : LQ (zK (itA a l) l 6) (zz m) := lq_a H.2.1 (by rw [zK_o _ _ _ (by decide)]; unfold itA; rw [up2_o _ _ _ _ (by decide)]) (by rw [zK_o _ _ _ (by decide)]; unfold itA; rw [up2_o _ _ _ _ (by decide)])
  obtain ⟨n2, _, g1, g2, g3⟩ := HQ3.1 own ho
  obtain rfl : n = n2 := (nI_eq (by omega) (by omega)).mp (hn.symm.trans g1)
  have uq : ∀ k, k < n → ¬ k = p → ∀ w, zz m (137 + 8 * own + k) = nI w → w < 5 → ¬ nI w = nI l := by
    intro k hk hne w hw2 w5 e
    obtain rfl : w = l := (nI_eq (by omega) (by omega)).mp e
    obtain ⟨n4, _, y1, y2⟩ := HS.2.1.1 own (by omega)
    obtain rfl : n = n4 := (nI_eq (by omega) (by omega)).mp (hn.symm.trans y1)
    obtain ⟨h2, x1, x2, _, x4, _⟩ := y2 k hk
    obtain rfl : w = h2 := (nI_eq (by omega) (by omega)).mp (hw2.symm.trans x2)
    exact hne ((nI_eq (by omega) (by omega)).mp (x4.symm.trans e2))
  generalize zK (itA a l) l 6 = b at R HQ3 g2 g3 ⊢
  -- behind the place: none is the hand's
  have T2 : ∀ (rows x : Int32) (v : OC) (m2 : PM), An ML_asks 384 [some (vR 8 1 0), some (vR 8 2 0), some (vR 8 3 0), some (vR 8 6 0), some (vR 8 7 0), some (vR 8 8 0), some (vI (nI h)), some (vI (nI r)), some (vI md), none, some (vI x), some (vI (nI l)), some (vI rows), some (vI (nI own)), none] [] (setA M (lvK b own p n (n - 1))) v m2 → ∀ k, k ≤ p → An ML_asks 347 [some (vR 8 1 0), some (vR 8 2 0), some (vR 8 3 0), some (vR 8 6 0), some (vR 8 7 0), some (vR 8 8 0), some (vI (nI h)), some (vI (nI r)), some (vI md), none, some (vI x), some (vI (nI l)), some (vI rows), some (vI (nI own)), some (vI (nI k + (-1 : Int32)))] [] (setA M (lvK b own p n (n - 1))) v m2 := by
    intro rows x v m2 hk k
    induction k with
    | zero =>
      intro _
      refine an_b 2 (pc2 := if (nI 0 + (-1 : Int32)) < 0 then 384 else 352) (L2 := [some (vR 8 1 0), some (vR 8 2 0), some (vR 8 3 0), some (vR 8 6 0), some (vR 8 7 0), some (vR 8 8 0), some (vI (nI h)), some (vI (nI r)), some (vI md), none, some (vI x), some (vI (nI l)), some (vI rows), some (vI (nI own)), some (vI (nI 0 + (-1 : Int32)))]) (st2 := []) (m1 := (setA M (lvK b own p n (n - 1)))) rfl ?_
      refine an_t (by decide) ?_
      exact an_weak (L := [some (vR 8 1 0), some (vR 8 2 0), some (vR 8 3 0), some (vR 8 6 0), some (vR 8 7 0), some (vR 8 8 0), some (vI (nI h)), some (vI (nI r)), some (vI md), none, some (vI x), some (vI (nI l)), some (vI rows), some (vI (nI own)), none]) ⟨rfl, rfl, rfl, rfl, rfl, rfl, rfl, rfl, rfl, rfl, rfl, rfl, rfl, trivial⟩ hk
    | succ k ih =>
      intro hkp
      have e4 : nI (k + 1) + (-1 : Int32) = nI k := by
        rw [← Int32.sub_eq_add_neg]; exact nI_pred k
      rw [e4]
      obtain ⟨w, md2, u1, u2, u3, u4, u5, u6⟩ := g3 k (by omega)
      have hne := uq k (by omega) (by omega) w u4 u1
      have u7 : lvK b own p n (n - 1) 2 (5 * own + k) = nI (w + 8 * md2) := by
        unfold lvK
        rw [if_neg (by omega), if_neg (by omega)]; exact u6
      refine an_b 2 (pc2 := if (nI k) < 0 then 384 else 352) (L2 := [some (vR 8 1 0), some (vR 8 2 0), some (vR 8 3 0), some (vR 8 6 0), some (vR 8 7 0), some (vR 8 8 0), some (vI (nI h)), some (vI (nI r)), some (vI md), none, some (vI x), some (vI (nI l)), some (vI rows), some (vI (nI own)), some (vI (nI k))]) (st2 := []) (m1 := (setA M (lvK b own p n (n - 1)))) rfl ?_
      refine an_f (nI_pos (by omega)) ?_
      refine an_b 6 (pc2 := 360) (L2 := [some (vR 8 1 0), some (vR 8 2 0), some (vR 8 3 0), some (vR 8 6 0), some (vR 8 7 0), some (vR 8 8 0), some (vI (nI h)), some (vI (nI r)), some (vI md), none, some (vI x), some (vI (nI l)), some (vI rows), some (vI (nI own)), some (vI (nI k))]) (st2 := [vI (((5 : Int32) * (nI own)) + (nI k)), vR 8 2 0]) (m1 := (setA M (lvK b own p n (n - 1)))) rfl ?_
      refine an_la 2 ((5 * own) + k) (by decide) (by show _ < 36; omega) (by simp only [ix_lit, pk_mul, nI_add]) rfl ?_
      refine an_b 4 (pc2 := if ¬ (nI w) = (nI l) then 378 else 369) (L2 := [some (vR 8 1 0), some (vR 8 2 0), some (vR 8 3 0), some (vR 8 6 0), some (vR 8 7 0), some (vR 8 8 0), some (vI (nI h)), some (vI (nI r)), some (vI md), none, some (vI x), some (vI (nI l)), some (vI rows), some (vI (nI own)), some (vI (nI k))]) (st2 := []) (m1 := (setA M (lvK b own p n (n - 1)))) (by rw [u7, ← rem8 w u1 md2 u3]; rfl) ?_
      refine an_t hne ?_
      refine an_b 2 (pc2 := 347) (L2 := [some (vR 8 1 0), some (vR 8 2 0), some (vR 8 3 0), some (vR 8 6 0), some (vR 8 7 0), some (vR 8 8 0), some (vI (nI h)), some (vI (nI r)), some (vI md), none, some (vI x), some (vI (nI l)), some (vI rows), some (vI (nI own)), some (vI ((nI k) + (-1 : Int32)))]) (st2 := []) (m1 := (setA M (lvK b own p n (n - 1)))) rfl ?_
      exact ih (by omega)
  have T1 : ∀ (rows x : Int32) (v : OC) (m2 : PM), An ML_asks 384 [some (vR 8 1 0), some (vR 8 2 0), some (vR 8 3 0), some (vR 8 6 0), some (vR 8 7 0), some (vR 8 8 0), some (vI (nI h)), some (vI (nI r)), some (vI md), none, some (vI x), some (vI (nI l)), some (vI rows), some (vI (nI own)), none] [] (setA M (lvK b own p n (n - 1))) v m2 → ∀ k, p < k → k ≤ n → An ML_asks 347 [some (vR 8 1 0), some (vR 8 2 0), some (vR 8 3 0), some (vR 8 6 0), some (vR 8 7 0), some (vR 8 8 0), some (vI (nI h)), some (vI (nI r)), some (vI md), none, some (vI x), some (vI (nI l)), some (vI rows), some (vI (nI own)), some (vI (nI k + (-1 : Int32)))] [] (setA M b) v m2 := by
    intro rows x v m2 hk k
    induction k with
    | zero => intro q; omega
    | succ k ih =>
      intro hpk hkn
      have e4 : nI (k + 1) + (-1 : Int32) = nI k := by
        rw [← Int32.sub_eq_add_neg]; exact nI_pred k
      rw [e4]
      obtain ⟨w, md2, u1, u2, u3, u4, u5, u6⟩ := g3 k (by omega)
      refine an_b 2 (pc2 := if (nI k) < 0 then 384 else 352) (L2 := [some (vR 8 1 0), some (vR 8 2 0), some (vR 8 3 0), some (vR 8 6 0), some (vR 8 7 0), some (vR 8 8 0), some (vI (nI h)), some (vI (nI r)), some (vI md), none, some (vI x), some (vI (nI l)), some (vI rows), some (vI (nI own)), some (vI (nI k))]) (st2 := []) (m1 := (setA M b)) rfl ?_
      refine an_f (nI_pos (by omega)) ?_
      refine an_b 6 (pc2 := 360) (L2 := [some (vR 8 1 0), some (vR 8 2 0), some (vR 8 3 0), some (vR 8 6 0), some (vR 8 7 0), some (vR 8 8 0), some (vI (nI h)), some (vI (nI r)), some (vI md), none, some (vI x), some (vI (nI l)), some (vI rows), some (vI (nI own)), some (vI (nI k))]) (st2 := [vI (((5 : Int32) * (nI own)) + (nI k)), vR 8 2 0]) (m1 := (setA M b)) rfl ?_
      refine an_la 2 ((5 * own) + k) (by decide) (by show _ < 36; omega) (by simp only [ix_lit, pk_mul, nI_add]) rfl ?_
      refine an_b 4 (pc2 := if ¬ (nI w) = (nI l) then 378 else 369) (L2 := [some (vR 8 1 0), some (vR 8 2 0), some (vR 8 3 0), some (vR 8 6 0), some (vR 8 7 0), some (vR 8 8 0), some (vI (nI h)), some (vI (nI r)), some (vI md), none, some (vI x), some (vI (nI l)), some (vI rows), some (vI (nI own)), some (vI (nI k))]) (st2 := []) (m1 := (setA M b)) (by rw [show b 2 (5 * own + k) = nI (w + 8 * md2) from u6, ← rem8 w u1 md2 u3]; rfl) ?_
      by_cases ck : k = p
      · subst ck
        have ew : nI w = nI l := u4.symm.trans e3
        refine an_f (fun u => u ew) ?_
        refine an_b 4 (pc2 := 375) (L2 := [some (vR 8 1 0), some (vR 8 2 0), some (vR 8 3 0), some (vR 8 6 0), some (vR 8 7 0), some (vR 8 8 0), some (vI (nI h)), some (vI (nI r)), some (vI md), none, some (vI x), some (vI (nI l)), some (vI rows), some (vI (nI own)), some (vI (nI k))]) (st2 := [vI (nI k), vI (nI own), vR 8 3 0, vR 8 2 0]) (m1 := (setA M b)) rfl ?_
        refine an_call (r_leave (p := k) (n := n) ho g2 (by omega) hp) rfl rfl rfl rfl ?_
        refine an_b 2 (pc2 := 347) (L2 := [some (vR 8 1 0), some (vR 8 2 0), some (vR 8 3 0), some (vR 8 6 0), some (vR 8 7 0), some (vR 8 8 0), some (vI (nI h)), some (vI (nI r)), some (vI md), none, some (vI x), some (vI (nI l)), some (vI rows), some (vI (nI own)), some (vI ((nI k) + (-1 : Int32)))]) (st2 := []) (m1 := (setA M (lvK b own k n (n - 1)))) rfl ?_
        exact T2 rows x v m2 hk k (Nat.le_refl k)
      · have hne := uq k (by omega) ck w u4 u1
        refine an_t hne ?_
        refine an_b 2 (pc2 := 347) (L2 := [some (vR 8 1 0), some (vR 8 2 0), some (vR 8 3 0), some (vR 8 6 0), some (vR 8 7 0), some (vR 8 8 0), some (vI (nI h)), some (vI (nI r)), some (vI md), none, some (vI x), some (vI (nI l)), some (vI rows), some (vI (nI own)), some (vI ((nI k) + (-1 : Int32)))]) (st2 := []) (m1 := (setA M b)) rfl ?_
        exact ih (by omega) (by omega)
  obtain ⟨rows, k1, k2⟩ := R 6 0 0 rfl (fun i hi => by
    rw [bit_0]
    exact ⟨fun q => absurd q (by decide), fun q => by omega⟩)
  refine ⟨own, n, p, rows, ho, hn5, hp, hn, e1, e2, k1, fun x v m2 hk => ?_⟩
  have k3 := k2 x v m2 ?_
  · rw [zK_0] at k3
    refine an_b 3 (pc2 := 267) (L2 := [some (vR 8 1 0), some (vR 8 2 0), some (vR 8 3 0), some (vR 8 6 0), some (vR 8 7 0), some (vR 8 8 0), some (vI (nI h)), some (vI (nI r)), some (vI md), none, some (vI x), some (vI (nI l)), none, none, none]) (st2 := [vI (nI l), vR 8 6 0, vI (nI l), vR 8 6 0]) (m1 := (setA M a)) rfl ?_
    refine an_la 6 l (by decide) (by show _ < 5; omega) rfl rfl ?_
    refine an_b 2 (pc2 := 270) (L2 := [some (vR 8 1 0), some (vR 8 2 0), some (vR 8 3 0), some (vR 8 6 0), some (vR 8 7 0), some (vR 8 8 0), some (vI (nI h)), some (vI (nI r)), some (vI md), none, some (vI x), some (vI (nI l)), none, none, none]) (st2 := [vI ((a 6 l) + (1 : Int32)), vI (nI l), vR 8 6 0]) (m1 := (setA M a)) rfl ?_
    refine an_sa 6 l (by decide) (by show _ < 5; omega) rfl rfl ?_
    refine an_b 5 (pc2 := 278) (L2 := [some (vR 8 1 0), some (vR 8 2 0), some (vR 8 3 0), some (vR 8 6 0), some (vR 8 7 0), some (vR 8 8 0), some (vI (nI h)), some (vI (nI r)), some (vI md), none, some (vI x), some (vI (nI l)), some (vI (0 : Int32)), none, none]) (st2 := [vI (nI l), vR 8 3 0, vR 8 2 0]) (m1 := (setA M (up2 a 6 l ((a 6 l) + (1 : Int32))))) rfl ?_
    refine an_call (r_rowOf HS.2.1 (lq_a H.2.1 (up2_o a 6 l _ (by decide)) (up2_o a 6 l _ (by decide))) hl) rfl rfl rfl rfl ?_
    rw [e1]
    refine an_b 3 (pc2 := 286) (L2 := [some (vR 8 1 0), some (vR 8 2 0), some (vR 8 3 0), some (vR 8 6 0), some (vR 8 7 0), some (vR 8 8 0), some (vI (nI h)), some (vI (nI r)), some (vI md), none, some (vI x), some (vI (nI l)), some (vI (0 : Int32)), some (vI (nI own)), some (vI (0 : Int32))]) (st2 := []) (m1 := (setA M (up2 a 6 l ((a 6 l) + (1 : Int32))))) rfl ?_
    exact k3
  · refine an_b 2 (pc2 := 342) (L2 := [some (vR 8 1 0), some (vR 8 2 0), some (vR 8 3 0), some (vR 8 6 0), some (vR 8 7 0), some (vR 8 8 0), some (vI (nI h)), some (vI (nI r)), some (vI md), none, some (vI x), some (vI (nI l)), some (vI rows), some (vI (nI own)), none]) (st2 := [vI (nI own), vR 8 3 0]) (m1 := (setA M b)) rfl ?_
    refine an_la 3 own (by decide) (by show _ < 6; omega) rfl rfl ?_
    refine an_b 3 (pc2 := 347) (L2 := [some (vR 8 1 0), some (vR 8 2 0), some (vR 8 3 0), some (vR 8 6 0), some (vR 8 7 0), some (vR 8 8 0), some (vI (nI h)), some (vI (nI r)), some (vI md), none, some (vI x), some (vI (nI l)), some (vI rows), some (vI (nI own)), some (vI ((b 3 own) - (1 : Int32)))]) (st2 := []) (m1 := (setA M b)) rfl ?_
    have k4 := T1 rows x v m2 hk n hp (Nat.le_refl n)
    rw [← Int32.sub_eq_add_neg, ← g2] at k4
    exact k4
set_option maxRecDepth 100000 in
theorem it3 {rows R : Int32} {l own : Nat} (hb : ∀ i, i < 6 → (bit rows i = true ↔ bit R i = true)) : ∀ d j (a : Nat → Nat → Int32) (mm : PM), j + d = 6 → LA a (zz mm) s → ∃ a2, (∀ x : Int32, ∃ x2 : Int32, ∀ (v : OC) (m2 : PM), An ML_asks 171 [some (vR 8 1 0), some (vR 8 2 0), some (vR 8 3 0), some (vR 8 6 0), some (vR 8 7 0), some (vR 8 8 0), some (vI (nI h)), some (vI (nI r)), some (vI md), none, some (vI x2), none, none, none, none] [] (setA M a2) v m2 → An ML_asks 387 [some (vR 8 1 0), some (vR 8 2 0), some (vR 8 3 0), some (vR 8 6 0), some (vR 8 7 0), some (vR 8 8 0), some (vI (nI h)), some (vI (nI r)), some (vI md), none, some (vI x), some (vI (nI l)), some (vI rows), some (vI (nI own)), some (vI (nI j))] [] (setA M a) v m2) ∧ LA a2 (zz (lp (b_X5_lose_2 R) d j mm)) s := by
  intro d
  induction d with
  | zero =>
    intro j a mm hd H
    obtain rfl : j = 6 := by omega
    refine ⟨a, fun x => ⟨x, fun v m2 hk => ?_⟩, by rw [lp_0]; exact H⟩
    refine an_b 3 (pc2 := if (6 : Int32) ≤ (nI 6) then 426 else 394) (L2 := [some (vR 8 1 0), some (vR 8 2 0), some (vR 8 3 0), some (vR 8 6 0), some (vR 8 7 0), some (vR 8 8 0), some (vI (nI h)), some (vI (nI r)), some (vI md), none, some (vI x), some (vI (nI l)), some (vI rows), some (vI (nI own)), some (vI (nI 6))]) (st2 := []) (m1 := (setA M a)) rfl ?_
    refine an_t (nI_le (Nat.le_refl 6) (by omega)) ?_
    refine an_b 1 (pc2 := 171) (L2 := [some (vR 8 1 0), some (vR 8 2 0), some (vR 8 3 0), some (vR 8 6 0), some (vR 8 7 0), some (vR 8 8 0), some (vI (nI h)), some (vI (nI r)), some (vI md), none, some (vI x), some (vI (nI l)), some (vI rows), some (vI (nI own)), some (vI (nI 6))]) (st2 := []) (m1 := (setA M a)) rfl ?_
    exact an_weak (L := [some (vR 8 1 0), some (vR 8 2 0), some (vR 8 3 0), some (vR 8 6 0), some (vR 8 7 0), some (vR 8 8 0), some (vI (nI h)), some (vI (nI r)), some (vI md), none, some (vI x), none, none, none, none]) ⟨rfl, rfl, rfl, rfl, rfl, rfl, rfl, rfl, rfl, rfl, trivial⟩ hk
  | succ d ih =>
    intro j a mm hd H
    have hj : j < 6 := by omega
    rw [lp_s]
    by_cases cb : bit rows j = true
    · have e : b_X5_lose_2 R j mm = w_X5_settle mm j := by
        unfold b_X5_lose_2
        rw [if_neg (fun q => q ((bit_q1 (by omega)).mpr ((hb j hj).mp cb)))]
      rw [e]
      obtain ⟨a1, q1, q2⟩ := r_settle (M := M) H hj
      obtain ⟨a2, k1, k2⟩ := ih (j + 1) a1 _ (by omega) q2
      refine ⟨a2, fun x => ?_, k2⟩
      obtain ⟨x2, k3⟩ := k1 (x + v_X5_settle mm j)
      refine ⟨x2, fun v m2 hk => ?_⟩
      have k4 := k3 v m2 hk
      refine an_b 3 (pc2 := if (6 : Int32) ≤ (nI j) then 426 else 394) (L2 := [some (vR 8 1 0), some (vR 8 2 0), some (vR 8 3 0), some (vR 8 6 0), some (vR 8 7 0), some (vR 8 8 0), some (vI (nI h)), some (vI (nI r)), some (vI md), none, some (vI x), some (vI (nI l)), some (vI rows), some (vI (nI own)), some (vI (nI j))]) (st2 := []) (m1 := (setA M a)) rfl ?_
      refine an_f (nI_ge (b := 6) hj (by omega)) ?_
      refine an_b 7 (pc2 := if ¬ ((rows >>> ((nI j) &&& (31 : Int32))) &&& (1 : Int32)) = (1 : Int32) then 420 else 405) (L2 := [some (vR 8 1 0), some (vR 8 2 0), some (vR 8 3 0), some (vR 8 6 0), some (vR 8 7 0), some (vR 8 8 0), some (vI (nI h)), some (vI (nI r)), some (vI md), none, some (vI x), some (vI (nI l)), some (vI rows), some (vI (nI own)), some (vI (nI j))]) (st2 := []) (m1 := (setA M a)) rfl ?_
      refine an_f (fun q => q ((bit_q1 (show j < 32 by omega)).mpr cb)) ?_
      refine an_b 6 (pc2 := 414) (L2 := [some (vR 8 1 0), some (vR 8 2 0), some (vR 8 3 0), some (vR 8 6 0), some (vR 8 7 0), some (vR 8 8 0), some (vI (nI h)), some (vI (nI r)), some (vI md), none, some (vI x), some (vI (nI l)), some (vI rows), some (vI (nI own)), some (vI (nI j))]) (st2 := [vI (nI j), vR 8 7 0, vR 8 3 0, vR 8 2 0, vR 8 1 0, vI x]) (m1 := (setA M a)) rfl ?_
      refine an_call q1 rfl rfl rfl rfl ?_
      refine an_b 4 (pc2 := 387) (L2 := [some (vR 8 1 0), some (vR 8 2 0), some (vR 8 3 0), some (vR 8 6 0), some (vR 8 7 0), some (vR 8 8 0), some (vI (nI h)), some (vI (nI r)), some (vI md), none, some (vI (x + (v_X5_settle mm j))), some (vI (nI l)), some (vI rows), some (vI (nI own)), some (vI ((nI j) + (1 : Int32)))]) (st2 := []) (m1 := (setA M a1)) rfl ?_
      rw [nI_1]
      exact k4
    · have e : b_X5_lose_2 R j mm = mm := by
        unfold b_X5_lose_2
        rw [if_pos (fun q => cb ((hb j hj).mpr ((bit_q1 (by omega)).mp q)))]
      rw [e]
      obtain ⟨a2, k1, k2⟩ := ih (j + 1) a mm (by omega) H
      refine ⟨a2, fun x => ?_, k2⟩
      obtain ⟨x2, k3⟩ := k1 x
      refine ⟨x2, fun v m2 hk => ?_⟩
      have k4 := k3 v m2 hk
      refine an_b 3 (pc2 := if (6 : Int32) ≤ (nI j) then 426 else 394) (L2 := [some (vR 8 1 0), some (vR 8 2 0), some (vR 8 3 0), some (vR 8 6 0), some (vR 8 7 0), some (vR 8 8 0), some (vI (nI h)), some (vI (nI r)), some (vI md), none, some (vI x), some (vI (nI l)), some (vI rows), some (vI (nI own)), some (vI (nI j))]) (st2 := []) (m1 := (setA M a)) rfl ?_
      refine an_f (nI_ge (b := 6) hj (by omega)) ?_
      refine an_b 7 (pc2 := if ¬ ((rows >>> ((nI j) &&& (31 : Int32))) &&& (1 : Int32)) = (1 : Int32) then 420 else 405) (L2 := [some (vR 8 1 0), some (vR 8 2 0), some (vR 8 3 0), some (vR 8 6 0), some (vR 8 7 0), some (vR 8 8 0), some (vI (nI h)), some (vI (nI r)), some (vI md), none, some (vI x), some (vI (nI l)), some (vI rows), some (vI (nI own)), some (vI (nI j))]) (st2 := []) (m1 := (setA M a)) rfl ?_
      refine an_t (fun q => cb ((bit_q1 (show j < 32 by omega)).mp q)) ?_
      refine an_b 2 (pc2 := 387) (L2 := [some (vR 8 1 0), some (vR 8 2 0), some (vR 8 3 0), some (vR 8 6 0), some (vR 8 7 0), some (vR 8 8 0), some (vI (nI h)), some (vI (nI r)), some (vI md), none, some (vI x), some (vI (nI l)), some (vI rows), some (vI (nI own)), some (vI ((nI j) + (1 : Int32)))]) (st2 := []) (m1 := (setA M a)) rfl ?_
      rw [nI_1]
      exact k4
set_option maxRecDepth 100000 in
theorem ring_it (H : LA a (zz m) s) (HS : SA c (zz m)) (hh : h < 5) (hi : ¬ v_X5_isInRing m (nI h) = 0) : ∃ l, l < 5 ∧ v_X5_loserFor m (nI h) = nI l ∧ ∃ a2, (∀ x : Int32, ∃ x2 : Int32, ∀ (v : OC) (m2 : PM), An ML_asks 171 [some (vR 8 1 0), some (vR 8 2 0), some (vR 8 3 0), some (vR 8 6 0), some (vR 8 7 0), some (vR 8 8 0), some (vI (nI h)), some (vI (nI r)), some (vI md), none, some (vI x2), none, none, none, none] [] (setA M a2) v m2 → An ML_asks 171 [some (vR 8 1 0), some (vR 8 2 0), some (vR 8 3 0), some (vR 8 6 0), some (vR 8 7 0), some (vR 8 8 0), some (vI (nI h)), some (vI (nI r)), some (vI md), none, some (vI x), none, none, none, none] [] (setA M a) v m2) ∧ LA a2 (zz (w_X5_lose m l)) s ∧ ∃ c2, SA c2 (zz (w_X5_lose m l)) := by
  obtain ⟨l, hl, el, k1⟩ := it1 (M := M) (r := r) (md := md) H HS hh hi
  have hw := loser_w HS (show h < 8 by omega) (show l < 8 by omega) el
  obtain ⟨own, n, p, rows, ho, hn5, hp, hn, e1, e2, hr, k2⟩ := it2 (M := M) (h := h) (r := r) (md := md) H HS hl hw
  obtain ⟨z1, z2⟩ := lose_1w HS (show l < 8 by omega) (show own < 12 by omega) hn (by omega) hp e1 e2
  have e7 : a 6 l = zz m (337 + l) := (H.2.2.1 1 (by omega)).1 l hl
  have L3 : LA (lvK (zK (itA a l) l 6) own p n (n - 1)) (zz (lose_2 m l)) s := by
    have A1 := la_cnt H (k := 1) (by omega) hl (a 6 l + 1)
    have A2 := la_zK A1 hl
    have A3 := la_leave A2 ho (by rw [lzz_o _ (by omega), upd_o _ _ _ (by omega)]; exact hn) hn5 hp
    refine la_cong A3 (fun i hi => ?_)
    unfold lose_2
    rw [zz_wI, z1, zz_setz]
    show upd (uqz (lzz (zz m) l 12) own p n (n - 1)) (337 + l) (uqz (lzz (zz m) l 12) own p n (n - 1) (337 + l) + 1) i = _
    rw [uqz_lo _ (show own < 12 by omega) (by omega) (by omega), lzz_o _ (by omega), e7]
    by_cases q : i = 337 + l
    · rw [q, upd_s, uqz_lo _ (show own < 12 by omega) (by omega) (by omega), lzz_o _ (by omega)]
      exact (upd_s _ _ _).symm
    · rw [upd_o _ _ _ q]
      unfold uqz lzz upd
      (repeat' split) <;> first | rfl | (exfalso; omega)
  have hR : ∀ i, i < 6 → (bit rows i = true ↔ bit (lose_1 m l).1 i = true) := fun i hi => by
    rw [hr i hi, z2 i (by omega), decide_eq_true (show i < 12 by omega), Bool.true_and]
  obtain ⟨a2, k3, k4⟩ := it3 (M := M) (h := h) (r := r) (md := md) (l := l) (own := own) hR 6 0 _ _ rfl L3
  have e6 : w_X5_lose m l = lp (b_X5_lose_2 (lose_1 m l).1) 6 0 (lose_2 m l) := by
    unfold w_X5_lose
    rw [show (12 : Nat) = 6 + 6 from rfl, lp_add, lp_id _ 12 _ 6 (0 + 6) rfl (fun i g1 g2 => ?_)]
    unfold b_X5_lose_2
    rw [if_pos (fun q => ?_)]
    have := (bit_q1 (show i < 32 by omega)).mp q
    rw [z2 i (by omega), decide_eq_false (show ¬ i = own by omega), Bool.or_false] at this
    have hz : zz m (5 + 12 * l + i) = 0 := H.1.2 l i (by omega) g2 (Or.inr (by omega))
    unfold lkB at this
    rw [hz] at this
    revert this
    cases decide (i < 12) <;> decide
  rw [← e6] at k4
  refine ⟨l, hl, el, a2, fun x => ?_, k4, lose_sa HS (show h < 8 by omega) hi (show l < 8 by omega) el⟩
  obtain ⟨x2, k5⟩ := k3 x
  refine ⟨x2, fun v m2 hk => k1 x v m2 (k2 x v m2 ?_)⟩
  have k6 := k5 v m2 hk
  refine an_b 2 (pc2 := 387) (L2 := [some (vR 8 1 0), some (vR 8 2 0), some (vR 8 3 0), some (vR 8 6 0), some (vR 8 7 0), some (vR 8 8 0), some (vI (nI h)), some (vI (nI r)), some (vI md), none, some (vI x), some (vI (nI l)), some (vI rows), some (vI (nI own)), some (vI (0 : Int32))]) (st2 := []) (m1 := (setA M (lvK (zK (itA a l) l 6) own p n (n - 1)))) rfl ?_
  exact k6
set_option maxRecDepth 100000 in
theorem rn_ring (hh : h < 5) : ∀ (d : Nat) (a : Nat → Nat → Int32) (c : Nat → Nat → Int32) (m : PM), LA a (zz m) s → SA c (zz m) → v_X5_isInRing (ring h d m) (nI h) = 0 → ∃ a2, (∀ x : Int32, ∃ x2 : Int32, ∀ (v : OC) (m2 : PM), An ML_asks 429 [some (vR 8 1 0), some (vR 8 2 0), some (vR 8 3 0), some (vR 8 6 0), some (vR 8 7 0), some (vR 8 8 0), some (vI (nI h)), some (vI (nI r)), some (vI md), none, some (vI x2), none, none, none, none] [] (setA M a2) v m2 → An ML_asks 171 [some (vR 8 1 0), some (vR 8 2 0), some (vR 8 3 0), some (vR 8 6 0), some (vR 8 7 0), some (vR 8 8 0), some (vI (nI h)), some (vI (nI r)), some (vI md), none, some (vI x), none, none, none, none] [] (setA M a) v m2) ∧ LA a2 (zz (ring h d m)) s ∧ ∃ c2, SA c2 (zz (ring h d m)) := by
  intro d
  have fin : ∀ (a c : Nat → Nat → Int32) (m : PM), LA a (zz m) s → SA c (zz m) → v_X5_isInRing m (nI h) = 0 → ∀ (x : Int32) (v : OC) (m2 : PM), An ML_asks 429 [some (vR 8 1 0), some (vR 8 2 0), some (vR 8 3 0), some (vR 8 6 0), some (vR 8 7 0), some (vR 8 8 0), some (vI (nI h)), some (vI (nI r)), some (vI md), none, some (vI x), none, none, none, none] [] (setA M a) v m2 → An ML_asks 171 [some (vR 8 1 0), some (vR 8 2 0), some (vR 8 3 0), some (vR 8 6 0), some (vR 8 7 0), some (vR 8 8 0), some (vI (nI h)), some (vI (nI r)), some (vI md), none, some (vI x), none, none, none, none] [] (setA M a) v m2 := by
    intro a c m H HS hi x v m2 hk
    have hb := (inRing_bit m (show h < 8 by omega)).mp hi
    refine an_b 4 (pc2 := 176) (L2 := [some (vR 8 1 0), some (vR 8 2 0), some (vR 8 3 0), some (vR 8 6 0), some (vR 8 7 0), some (vR 8 8 0), some (vI (nI h)), some (vI (nI r)), some (vI md), none, some (vI x), none, none, none, none]) (st2 := [vI (nI h), vR 8 3 0, vR 8 2 0, vR 8 1 0]) (m1 := (setA M a)) rfl ?_
    refine an_call (r_over HS.2.1 H.2.1 H.1 hh) rfl rfl rfl rfl ?_
    refine an_b 6 (pc2 := if ¬ (((v_X5_waitsOver m (nI h)) >>> ((nI h) &&& (31 : Int32))) &&& (1 : Int32)) = (1 : Int32) then 429 else 188) (L2 := [some (vR 8 1 0), some (vR 8 2 0), some (vR 8 3 0), some (vR 8 6 0), some (vR 8 7 0), some (vR 8 8 0), some (vI (nI h)), some (vI (nI r)), some (vI md), none, some (vI x), none, none, none, none]) (st2 := []) (m1 := (setA M a)) rfl ?_
    refine an_t (fun q => hb ((bit_q1 (show h < 32 by omega)).mp q)) ?_
    exact hk
  induction d with
  | zero =>
    intro a c m H HS hi
    exact ⟨a, fun x => ⟨x, fin a c m H HS hi x⟩, H, c, HS⟩
  | succ d ih =>
    intro a c m H HS hi
    unfold ring at hi ⊢
    by_cases cr : v_X5_isInRing m (nI h) = 0
    · rw [if_pos cr] at hi ⊢
      exact ⟨a, fun x => ⟨x, fin a c m H HS cr x⟩, H, c, HS⟩
    · rw [if_neg cr] at hi ⊢
      obtain ⟨l, hl, el, a1, k1, k2, c1, k3⟩ := ring_it (M := M) (r := r) (md := md) H HS hh cr
      rw [el, nI_clamp (show l < 2 ^ 31 by omega)] at hi ⊢
      obtain ⟨a2, q1, q2, q3⟩ := ih a1 c1 _ k2 k3 hi
      refine ⟨a2, fun x => ?_, q2, q3⟩
      obtain ⟨x1, k4⟩ := k1 x
      obtain ⟨x2, k5⟩ := q1 x1
      exact ⟨x2, fun v m2 hk => k4 v m2 (k5 v m2 hk)⟩
end
