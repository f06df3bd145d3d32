/-! a turn of the law's ring: who loses -/
section
variable {M m : PM} {a : Nat → Nat → Int32} {h r : Nat} {s : Nat × Int32} {md : Int32} {c : Nat → Nat → Int32}
theorem it1 (H : LA a (zz m) s) (HS : SA c (zz m)) (hh : h < 5) (hi : ¬ v_X5_isInRing m (nI h) = 0) : ∃ l, l < 5 ∧ v_X5_loserFor m (nI h) = nI l ∧ ∀ (x : Int32) (v : OC) (m2 : PM), An ML_asks 263 [some (vR 8 1 0), some (vR 8 2 0), some (vR 8 3 0), some (vR 8 6 0), some (vR 8 7 0), some (vR 8 8 0), some (vI (nI h)), some (vI (nI r)), some (vI md), none, some (vI x), some (vI (nI l)), none, none, none] [] (setA M a) v m2 → An ML_asks 171 [some (vR 8 1 0), some (vR 8 2 0), some (vR 8 3 0), some (vR 8 6 0), some (vR 8 7 0), some (vR 8 8 0), some (vI (nI h)), some (vI (nI r)), some (vI md), none, some (vI x), none, none, none, none] [] (setA M a) v m2 := by
  have D5 : ∀ o, o < 8 → low5 (v_X5_waitsNow m (nI o)) := fun o ho => low5_wn HS.2.1 H.2.1 H.1 ho
  have O5 : low5 (v_X5_waitsOver m (nI h)) := by
    rw [over_5 D5 (show h < 8 by omega)]
    exact lp_inv (fun _ t => lp (rdM m t) 5 0 t) 5 (fun _ t => low5 t) (fun j t _ ht => (in_5 D5 t ht).2) 5 0 _ rfl (D5 h (by omega))
  have R5 : ∀ i, i < 8 → inR m h i → i < 5 := fun i h1 h2 => O5 i (by omega) h2.1
  have hb : bit (v_X5_waitsOver m (nI h)) h = true := Classical.byContradiction fun q => hi ((inRing_bit m (show h < 8 by omega)).mpr q)
  obtain ⟨l, l5, el⟩ : ∃ l, l < 5 ∧ v_X5_loserFor m (nI h) = nI l := by
    rcases loser_c m (show h < 8 by omega) with ⟨e, k⟩ | ⟨l, _, l1, l2, l3, _⟩
    · exact absurd ⟨hb, hb⟩ (k h (Nat.zero_le _) (by omega))
    · exact ⟨l, R5 l l1 l3, l2⟩
  refine ⟨l, l5, el, fun x v m2 hk => ?_⟩
  refine an_b 4 (pc2 := 176) (L2 := [some (vR 8 1 0), some (vR 8 2 0), some (vR 8 3 0), some (vR 8 6 0), some (vR 8 7 0), some (vR 8 8 0), some (vI (nI h)), some (vI (nI r)), some (vI md), none, some (vI x), none, none, none, none]) (st2 := [vI (nI h), vR 8 3 0, vR 8 2 0, vR 8 1 0]) (m1 := (setA M a)) rfl ?_
  refine an_call (r_over HS.2.1 H.2.1 H.1 hh) rfl rfl rfl rfl ?_
  refine an_b 6 (pc2 := if ¬ (((v_X5_waitsOver m (nI h)) >>> ((nI h) &&& (31 : Int32))) &&& (1 : Int32)) = (1 : Int32) then 429 else 188) (L2 := [some (vR 8 1 0), some (vR 8 2 0), some (vR 8 3 0), some (vR 8 6 0), some (vR 8 7 0), some (vR 8 8 0), some (vI (nI h)), some (vI (nI r)), some (vI md), none, some (vI x), none, none, none, none]) (st2 := []) (m1 := (setA M a)) rfl ?_
  refine an_f (fun q => q ((bit_q1 (show h < 32 by omega)).mpr hb)) ?_
  refine an_b 4 (pc2 := 194) (L2 := [some (vR 8 1 0), some (vR 8 2 0), some (vR 8 3 0), some (vR 8 6 0), some (vR 8 7 0), some (vR 8 8 0), some (vI (nI h)), some (vI (nI r)), some (vI md), none, some (vI x), some (vI (-1 : Int32)), some (vI (4 : Int32)), none, none]) (st2 := []) (m1 := (setA M a)) rfl ?_
  suffices K : ∀ j y, j ≤ 5 → LSr m h j 5 y → An ML_asks 194 [some (vR 8 1 0), some (vR 8 2 0), some (vR 8 3 0), some (vR 8 6 0), some (vR 8 7 0), some (vR 8 8 0), some (vI (nI h)), some (vI (nI r)), some (vI md), none, some (vI x), some (vI y), some (vI (nI j + (-1 : Int32))), none, none] [] (setA M a) v m2 from K 5 (-1) (Nat.le_refl 5) (Or.inl ⟨rfl, fun i _ _ => by omega⟩)
  intro j
  induction j with
  | zero =>
    intro y _ hy
    obtain rfl : y = nI l := (loser_u (by omega) R5 hy).trans el
    refine an_b 2 (pc2 := if (nI 0 + (-1 : Int32)) < 0 then 263 else 199) (L2 := [some (vR 8 1 0), some (vR 8 2 0), some (vR 8 3 0), some (vR 8 6 0), some (vR 8 7 0), some (vR 8 8 0), some (vI (nI h)), some (vI (nI r)), some (vI md), none, some (vI x), some (vI (nI l)), some (vI (nI 0 + (-1 : Int32))), none, none]) (st2 := []) (m1 := (setA M a)) rfl ?_
    refine an_t (by decide) ?_
    exact an_weak (L := [some (vR 8 1 0), some (vR 8 2 0), some (vR 8 3 0), some (vR 8 6 0), some (vR 8 7 0), some (vR 8 8 0), some (vI (nI h)), some (vI (nI r)), some (vI md), none, some (vI x), some (vI (nI l)), none, none, none]) ⟨rfl, rfl, rfl, rfl, rfl, rfl, rfl, rfl, rfl, rfl, rfl, trivial⟩ hk
  | succ j ih =>
    intro y hj hy
    have e1 : nI (j + 1) + (-1 : Int32) = nI j := by
      rw [← Int32.sub_eq_add_neg]; exact nI_pred j
    rw [e1]
    have nx : ∀ y2, LSr m h j 5 y2 → An ML_asks 257 [some (vR 8 1 0), some (vR 8 2 0), some (vR 8 3 0), some (vR 8 6 0), some (vR 8 7 0), some (vR 8 8 0), some (vI (nI h)), some (vI (nI r)), some (vI md), none, some (vI x), some (vI y2), some (vI (nI j)), none, none] [] (setA M a) v m2 := by
      intro y2 h2
      have k1 := ih y2 (by omega) h2
      refine an_b 2 (pc2 := 194) (L2 := [some (vR 8 1 0), some (vR 8 2 0), some (vR 8 3 0), some (vR 8 6 0), some (vR 8 7 0), some (vR 8 8 0), some (vI (nI h)), some (vI (nI r)), some (vI md), none, some (vI x), some (vI y2), some (vI ((nI j) + (-1 : Int32))), none, none]) (st2 := []) (m1 := (setA M a)) rfl ?_
      exact k1
    have no : ¬ inR m h j → LSr m h j 5 y := by
      intro c
      rcases hy with ⟨e, k⟩ | ⟨q, q0, q1, q2, q3, q4⟩
      · exact Or.inl ⟨e, fun i g1 g2 g3 => by
          by_cases u : i = j
          · rw [u] at g3; exact c g3
          · exact k i (by omega) g2 g3⟩
      · exact Or.inr ⟨q, by omega, q1, q2, q3, fun i g1 g2 g3 => by
          by_cases u : i = j
          · rw [u] at g3; exact absurd g3 c
          · exact q4 i (by omega) g2 g3⟩
    refine an_b 2 (pc2 := if (nI j) < 0 then 263 else 199) (L2 := [some (vR 8 1 0), some (vR 8 2 0), some (vR 8 3 0), some (vR 8 6 0), some (vR 8 7 0), some (vR 8 8 0), some (vI (nI h)), some (vI (nI r)), some (vI md), none, some (vI x), some (vI y), some (vI (nI j)), none, none]) (st2 := []) (m1 := (setA M a)) rfl ?_
    refine an_f (nI_pos (by omega)) ?_
    refine an_b 4 (pc2 := 204) (L2 := [some (vR 8 1 0), some (vR 8 2 0), some (vR 8 3 0), some (vR 8 6 0), some (vR 8 7 0), some (vR 8 8 0), some (vI (nI h)), some (vI (nI r)), some (vI md), none, some (vI x), some (vI y), some (vI (nI j)), none, none]) (st2 := [vI (nI h), vR 8 3 0, vR 8 2 0, vR 8 1 0]) (m1 := (setA M a)) rfl ?_
    refine an_call (r_over HS.2.1 H.2.1 H.1 hh) rfl rfl rfl rfl ?_
    refine an_b 6 (pc2 := if ¬ (((v_X5_waitsOver m (nI h)) >>> ((nI j) &&& (31 : Int32))) &&& (1 : Int32)) = (1 : Int32) then 257 else 216) (L2 := [some (vR 8 1 0), some (vR 8 2 0), some (vR 8 3 0), some (vR 8 6 0), some (vR 8 7 0), some (vR 8 8 0), some (vI (nI h)), some (vI (nI r)), some (vI md), none, some (vI x), some (vI y), some (vI (nI j)), none, none]) (st2 := []) (m1 := (setA M a)) rfl ?_
    by_cases c1 : (((v_X5_waitsOver m (nI h)) >>> ((nI j) &&& (31 : Int32))) &&& (1 : Int32)) = (1 : Int32)
    · have b1 := (bit_q1 (show j < 32 by omega)).mp c1
      refine an_f (fun q => q c1) ?_
      refine an_b 4 (pc2 := 221) (L2 := [some (vR 8 1 0), some (vR 8 2 0), some (vR 8 3 0), some (vR 8 6 0), some (vR 8 7 0), some (vR 8 8 0), some (vI (nI h)), some (vI (nI r)), some (vI md), none, some (vI x), some (vI y), some (vI (nI j)), none, none]) (st2 := [vI (nI j), vR 8 3 0, vR 8 2 0, vR 8 1 0]) (m1 := (setA M a)) rfl ?_
      refine an_call (r_over HS.2.1 H.2.1 H.1 (show j < 5 by omega)) rfl rfl rfl rfl ?_
      refine an_b 6 (pc2 := if ¬ (((v_X5_waitsOver m (nI j)) >>> ((nI h) &&& (31 : Int32))) &&& (1 : Int32)) = (1 : Int32) then 257 else 233) (L2 := [some (vR 8 1 0), some (vR 8 2 0), some (vR 8 3 0), some (vR 8 6 0), some (vR 8 7 0), some (vR 8 8 0), some (vI (nI h)), some (vI (nI r)), some (vI md), none, some (vI x), some (vI y), some (vI (nI j)), none, none]) (st2 := []) (m1 := (setA M a)) rfl ?_
      by_cases c2 : (((v_X5_waitsOver m (nI j)) >>> ((nI h) &&& (31 : Int32))) &&& (1 : Int32)) = (1 : Int32)
      · have b2 := (bit_q1 (show h < 32 by omega)).mp c2
        refine an_f (fun q => q c2) ?_
        refine an_b 2 (pc2 := if y < 0 then 253 else 238) (L2 := [some (vR 8 1 0), some (vR 8 2 0), some (vR 8 3 0), some (vR 8 6 0), some (vR 8 7 0), some (vR 8 8 0), some (vI (nI h)), some (vI (nI r)), some (vI md), none, some (vI x), some (vI y), some (vI (nI j)), none, none]) (st2 := []) (m1 := (setA M a)) rfl ?_
        rcases hy with ⟨rfl, k⟩ | ⟨q, q0, q1, rfl, q3, q4⟩
        · refine an_t (by decide) ?_
          refine an_b 2 (pc2 := 257) (L2 := [some (vR 8 1 0), some (vR 8 2 0), some (vR 8 3 0), some (vR 8 6 0), some (vR 8 7 0), some (vR 8 8 0), some (vI (nI h)), some (vI (nI r)), some (vI md), none, some (vI x), some (vI (nI j)), some (vI (nI j)), none, none]) (st2 := []) (m1 := (setA M a)) rfl ?_
          refine nx (nI j) (Or.inr ⟨j, Nat.le_refl _, by omega, rfl, ⟨b1, b2⟩, fun i g1 g2 g3 => ?_⟩)
          by_cases u : i = j
          · rw [u]; exact ⟨Int.le_refl _, fun u => by omega⟩
          · exact absurd g3 (k i (by omega) g2)
        · refine an_f (nI_pos (by omega)) ?_
          refine an_b 2 (pc2 := 241) (L2 := [some (vR 8 1 0), some (vR 8 2 0), some (vR 8 3 0), some (vR 8 6 0), some (vR 8 7 0), some (vR 8 8 0), some (vI (nI h)), some (vI (nI r)), some (vI md), none, some (vI x), some (vI (nI q)), some (vI (nI j)), none, none]) (st2 := [vI (nI j), vR 8 1 0]) (m1 := (setA M a)) rfl ?_
          refine an_call (r_work H.1 (show j < 5 by omega)) rfl rfl rfl rfl ?_
          refine an_b 2 (pc2 := 247) (L2 := [some (vR 8 1 0), some (vR 8 2 0), some (vR 8 3 0), some (vR 8 6 0), some (vR 8 7 0), some (vR 8 8 0), some (vI (nI h)), some (vI (nI r)), some (vI md), none, some (vI x), some (vI (nI q)), some (vI (nI j)), none, none]) (st2 := [vI (nI q), vR 8 1 0, vI (v_X5_workOf m j)]) (m1 := (setA M a)) rfl ?_
          refine an_call (r_work H.1 q1) rfl rfl rfl rfl ?_
          refine an_b 1 (pc2 := if (v_X5_workOf m q) ≤ (v_X5_workOf m j) then 257 else 253) (L2 := [some (vR 8 1 0), some (vR 8 2 0), some (vR 8 3 0), some (vR 8 6 0), some (vR 8 7 0), some (vR 8 8 0), some (vI (nI h)), some (vI (nI r)), some (vI md), none, some (vI x), some (vI (nI q)), some (vI (nI j)), none, none]) (st2 := []) (m1 := (setA M a)) rfl ?_
          by_cases c3 : v_X5_workOf m j < v_X5_workOf m q
          · have c3 : wkZ m j < wkZ m q := Int32.lt_iff_toInt_lt.mp c3
            refine an_f (fun u => by have := Int32.le_iff_toInt_le.mp u; unfold wkZ at c3; omega) ?_
            refine an_b 2 (pc2 := 257) (L2 := [some (vR 8 1 0), some (vR 8 2 0), some (vR 8 3 0), some (vR 8 6 0), some (vR 8 7 0), some (vR 8 8 0), some (vI (nI h)), some (vI (nI r)), some (vI md), none, some (vI x), some (vI (nI j)), some (vI (nI j)), none, none]) (st2 := []) (m1 := (setA M a)) rfl ?_
            refine nx (nI j) (Or.inr ⟨j, Nat.le_refl _, by omega, rfl, ⟨b1, b2⟩, fun i g1 g2 g3 => ?_⟩)
            by_cases u : i = j
            · rw [u]; exact ⟨Int.le_refl _, fun u => by omega⟩
            · have := q4 i (by omega) g2 g3
              by_cases u2 : q < i
              · have := this.2 u2; exact ⟨by omega, fun _ => by omega⟩
              · exact ⟨by omega, fun _ => by omega⟩
          · have c3' : ¬ wkZ m j < wkZ m q := fun u => c3 (Int32.lt_iff_toInt_lt.mpr u)
            refine an_t (Int32.not_lt.mp c3) ?_
            refine nx (nI q) (Or.inr ⟨q, by omega, q1, rfl, q3, fun i g1 g2 g3 => ?_⟩)
            by_cases u : i = j
            · rw [u]; exact ⟨by omega, fun u2 => by omega⟩
            · exact q4 i (by omega) g2 g3
      · refine an_t c2 ?_
        exact nx y (no (fun u => c2 ((bit_q1 (show h < 32 by omega)).mpr u.2)))
    · refine an_t c1 ?_
      exact nx y (no (fun u => c1 ((bit_q1 (show j < 32 by omega)).mpr u.1)))
end
