/-! the law's asks -/
section
variable {M m : PM} {a : Nat → Nat → Int32} {h r md : Nat} {s : Nat × Int32} {c : Nat → Nat → Int32}
set_option maxRecDepth 100000 in
theorem mo_of {md : Nat} (h1 : 1 ≤ md) (h2 : md < 4) : MO (nI md) := by
  rcases (show md = 1 ∨ md = 2 ∨ md = 3 by omega) with rfl | rfl | rfl
  · exact Or.inl rfl
  · exact Or.inr (Or.inl rfl)
  · exact Or.inr (Or.inr rfl)
set_option maxRecDepth 100000 in
theorem ask_en (H : LA a (zz m) s) (hh : h < 5) (hr : r < 6) {n : Nat} (hn : zz m (125 + r) = nI n) (h5 : n < 5) (v : OC) (m2 : PM) (hk : ∀ pl y, pl = plz (zz m) r h n → An ML_asks 159 [some (vR 8 1 0), some (vR 8 2 0), some (vR 8 3 0), some (vR 8 6 0), some (vR 8 7 0), some (vR 8 8 0), some (vI (nI h)), some (vI (nI r)), some (vI (nI md)), some (vI (nI pl)), some (vI (nI y)), none, none, none, none] [] (setA M (enA a r pl n (nI (h + 8 * md)))) v m2) : An ML_asks 35 [some (vR 8 1 0), some (vR 8 2 0), some (vR 8 3 0), some (vR 8 6 0), some (vR 8 7 0), some (vR 8 8 0), some (vI (nI h)), some (vI (nI r)), some (vI (nI md)), none, none, none, none, none, none] [] (setA M a) v m2 := by
  obtain ⟨n2, n1, n3, n4, n5⟩ := H.2.1.1 r hr
  obtain rfl : n = n2 := (nI_eq (by omega) (by omega)).mp (hn.symm.trans n3)
  have hpl := plz_le (zz m) r h n
  have eL : a 1 (6 * h + r) = zz m (5 + 12 * h + r) := H.1.1 h r hh hr
  generalize epl : plz (zz m) r h n = pl at hpl hk
  -- the shift
  have K2 : ∀ d, pl + d ≤ n → An ML_asks 101 [some (vR 8 1 0), some (vR 8 2 0), some (vR 8 3 0), some (vR 8 6 0), some (vR 8 7 0), some (vR 8 8 0), some (vI (nI h)), some (vI (nI r)), some (vI (nI md)), some (vI (nI pl)), some (vI (nI (pl + d))), none, none, none, none] [] (setA M (enK a r n (pl + d))) v m2 := by
    intro d
    induction d with
    | zero =>
      intro _
      refine an_b 3 (pc2 := if (nI (pl + 0)) ≤ (nI pl) then 134 else 108) (L2 := [some (vR 8 1 0), some (vR 8 2 0), some (vR 8 3 0), some (vR 8 6 0), some (vR 8 7 0), some (vR 8 8 0), some (vI (nI h)), some (vI (nI r)), some (vI (nI md)), some (vI (nI pl)), some (vI (nI (pl + 0))), none, none, none, none]) (st2 := []) (m1 := (setA M (enK a r n pl))) rfl ?_
      refine an_t (nI_le (Nat.le_refl pl) (by omega)) ?_
      refine an_b 11 (pc2 := 150) (L2 := [some (vR 8 1 0), some (vR 8 2 0), some (vR 8 3 0), some (vR 8 6 0), some (vR 8 7 0), some (vR 8 8 0), some (vI (nI h)), some (vI (nI r)), some (vI (nI md)), some (vI (nI pl)), some (vI (nI (pl + 0))), none, none, none, none]) (st2 := [vI ((nI h) + ((8 : Int32) * (nI md))), vI (((5 : Int32) * (nI r)) + (nI pl)), vR 8 2 0]) (m1 := (setA M (enK a r n pl))) rfl ?_
      rw [show (nI h) + ((8 : Int32) * (nI md)) = nI (h + 8 * md) by simp only [ix_lit, pk_mul, nI_add]]
      refine an_sa 2 ((5 * r) + pl) (by decide) (by show _ < 36; omega) (by simp only [ix_lit, pk_mul, nI_add]) rfl ?_
      refine an_b 3 (pc2 := 155) (L2 := [some (vR 8 1 0), some (vR 8 2 0), some (vR 8 3 0), some (vR 8 6 0), some (vR 8 7 0), some (vR 8 8 0), some (vI (nI h)), some (vI (nI r)), some (vI (nI md)), some (vI (nI pl)), some (vI (nI (pl + 0))), none, none, none, none]) (st2 := [vI (nI r), vR 8 3 0, vI (nI r), vR 8 3 0]) (m1 := (setA M (up2 (enK a r n pl) 2 ((5 * r) + pl) (nI (h + 8 * md))))) rfl ?_
      refine an_la 3 r (by decide) (by show _ < 6; omega) rfl rfl ?_
      refine an_b 2 (pc2 := 158) (L2 := [some (vR 8 1 0), some (vR 8 2 0), some (vR 8 3 0), some (vR 8 6 0), some (vR 8 7 0), some (vR 8 8 0), some (vI (nI h)), some (vI (nI r)), some (vI (nI md)), some (vI (nI pl)), some (vI (nI (pl + 0))), none, none, none, none]) (st2 := [vI (((up2 (enK a r n pl) 2 ((5 * r) + pl) (nI (h + 8 * md))) 3 r) + (1 : Int32)), vI (nI r), vR 8 3 0]) (m1 := (setA M (up2 (enK a r n pl) 2 ((5 * r) + pl) (nI (h + 8 * md))))) rfl ?_
      rw [show up2 (enK a r n pl) 2 ((5 * r) + pl) (nI (h + 8 * md)) 3 r = nI n by rw [up2_o _ _ _ _ (by decide), enK_o _ _ _ _ (by decide)]; exact n4, nI_1]
      refine an_sa 3 r (by decide) (by show _ < 6; omega) rfl rfl ?_
      exact hk pl pl rfl
    | succ d ih =>
      intro hd
      refine an_b 3 (pc2 := if (nI (pl + d + 1)) ≤ (nI pl) then 134 else 108) (L2 := [some (vR 8 1 0), some (vR 8 2 0), some (vR 8 3 0), some (vR 8 6 0), some (vR 8 7 0), some (vR 8 8 0), some (vI (nI h)), some (vI (nI r)), some (vI (nI md)), some (vI (nI pl)), some (vI (nI (pl + d + 1))), none, none, none, none]) (st2 := []) (m1 := (setA M (enK a r n (pl + d + 1)))) rfl ?_
      refine an_f (nI_ge (a := pl) (b := pl + d + 1) (by omega) (by omega)) ?_
      refine an_b 14 (pc2 := 126) (L2 := [some (vR 8 1 0), some (vR 8 2 0), some (vR 8 3 0), some (vR 8 6 0), some (vR 8 7 0), some (vR 8 8 0), some (vI (nI h)), some (vI (nI r)), some (vI (nI md)), some (vI (nI pl)), some (vI (nI (pl + d + 1))), none, none, none, none]) (st2 := [vI ((((5 : Int32) * (nI r)) + (nI (pl + d + 1))) - (1 : Int32)), vR 8 2 0, vI (((5 : Int32) * (nI r)) + (nI (pl + d + 1))), vR 8 2 0]) (m1 := (setA M (enK a r n (pl + d + 1)))) rfl ?_
      refine an_la 2 (5 * r + (pl + d)) (by decide) (by show _ < 36; omega) (by simp only [ix_lit, pk_mul, nI_add]; exact nI_pred (5 * r + (pl + d))) rfl ?_
      rw [enK_x a (show 5 * r + (pl + d) ≤ 5 * r + (pl + d + 1) by omega)]
      refine an_sa 2 ((5 * r) + (pl + d + 1)) (by decide) (by show _ < 36; omega) (by simp only [ix_lit, pk_mul, nI_add]) rfl ?_
      rw [enK_s a (show pl + d < n by omega)]
      refine an_b 2 (pc2 := 101) (L2 := [some (vR 8 1 0), some (vR 8 2 0), some (vR 8 3 0), some (vR 8 6 0), some (vR 8 7 0), some (vR 8 8 0), some (vI (nI h)), some (vI (nI r)), some (vI (nI md)), some (vI (nI pl)), some (vI ((nI (pl + d + 1)) + (-1 : Int32))), none, none, none, none]) (st2 := []) (m1 := (setA M (enK a r n (pl + d)))) rfl ?_
      rw [show nI (pl + d + 1) + (-1 : Int32) = nI (pl + d) by rw [← Int32.sub_eq_add_neg]; exact nI_pred (pl + d)]
      exact ih (by omega)
  have K1 : An ML_asks 95 [some (vR 8 1 0), some (vR 8 2 0), some (vR 8 3 0), some (vR 8 6 0), some (vR 8 7 0), some (vR 8 8 0), some (vI (nI h)), some (vI (nI r)), some (vI (nI md)), some (vI (nI pl)), none, none, none, none, none] [] (setA M a) v m2 := by
    refine an_b 2 (pc2 := 98) (L2 := [some (vR 8 1 0), some (vR 8 2 0), some (vR 8 3 0), some (vR 8 6 0), some (vR 8 7 0), some (vR 8 8 0), some (vI (nI h)), some (vI (nI r)), some (vI (nI md)), some (vI (nI pl)), none, none, none, none, none]) (st2 := [vI (nI r), vR 8 3 0]) (m1 := (setA M a)) rfl ?_
    refine an_la 3 r (by decide) (by show _ < 6; omega) rfl rfl ?_
    rw [n4]
    refine an_b 1 (pc2 := 101) (L2 := [some (vR 8 1 0), some (vR 8 2 0), some (vR 8 3 0), some (vR 8 6 0), some (vR 8 7 0), some (vR 8 8 0), some (vI (nI h)), some (vI (nI r)), some (vI (nI md)), some (vI (nI pl)), some (vI (nI n)), none, none, none, none]) (st2 := []) (m1 := (setA M a)) rfl ?_
    have k := K2 (n - pl) (by omega)
    rw [show pl + (n - pl) = n by omega, enK_n] at k
    exact k
  refine an_b 2 (pc2 := 38) (L2 := [some (vR 8 1 0), some (vR 8 2 0), some (vR 8 3 0), some (vR 8 6 0), some (vR 8 7 0), some (vR 8 8 0), some (vI (nI h)), some (vI (nI r)), some (vI (nI md)), none, none, none, none, none, none]) (st2 := [vI (nI r), vR 8 3 0]) (m1 := (setA M a)) rfl ?_
  refine an_la 3 r (by decide) (by show _ < 6; omega) rfl rfl ?_
  rw [n4]
  refine an_b 7 (pc2 := 50) (L2 := [some (vR 8 1 0), some (vR 8 2 0), some (vR 8 3 0), some (vR 8 6 0), some (vR 8 7 0), some (vR 8 8 0), some (vI (nI h)), some (vI (nI r)), some (vI (nI md)), some (vI (nI n)), none, none, none, none, none]) (st2 := [vI (((6 : Int32) * (nI h)) + (nI r)), vR 8 1 0]) (m1 := (setA M a)) rfl ?_
  refine an_la 1 ((6 * h) + r) (by decide) (by show _ < 30; omega) (by simp only [ix_lit, pk_mul, nI_add]) rfl ?_
  refine an_b 1 (pc2 := if (zz m (5 + 12 * h + r)) ≤ 0 then 95 else 54) (L2 := [some (vR 8 1 0), some (vR 8 2 0), some (vR 8 3 0), some (vR 8 6 0), some (vR 8 7 0), some (vR 8 8 0), some (vI (nI h)), some (vI (nI r)), some (vI (nI md)), some (vI (nI n)), none, none, none, none, none]) (st2 := []) (m1 := (setA M a)) (by rw [← eL]; rfl) ?_
  unfold plz at epl
  by_cases c0 : zz m (5 + 12 * h + r) ≤ 0
  · rw [if_pos c0] at epl
    subst epl
    refine an_t c0 ?_
    exact K1
  · rw [if_neg c0] at epl
    refine an_f c0 ?_
    refine an_b 2 (pc2 := 57) (L2 := [some (vR 8 1 0), some (vR 8 2 0), some (vR 8 3 0), some (vR 8 6 0), some (vR 8 7 0), some (vR 8 8 0), some (vI (nI h)), some (vI (nI r)), some (vI (nI md)), some (vI (0 : Int32)), none, none, none, none, none]) (st2 := []) (m1 := (setA M a)) rfl ?_
    suffices K : ∀ d p, p + d = n → hpz (zz m) r d p = pl → An ML_asks 57 [some (vR 8 1 0), some (vR 8 2 0), some (vR 8 3 0), some (vR 8 6 0), some (vR 8 7 0), some (vR 8 8 0), some (vI (nI h)), some (vI (nI r)), some (vI (nI md)), some (vI (nI p)), none, none, none, none, none] [] (setA M a) v m2 from K n 0 (Nat.zero_add n) epl
    intro d
    induction d with
    | zero =>
      intro p hp e
      unfold hpz at e
      obtain rfl : p = n := by omega
      subst e
      refine an_b 3 (pc2 := 62) (L2 := [some (vR 8 1 0), some (vR 8 2 0), some (vR 8 3 0), some (vR 8 6 0), some (vR 8 7 0), some (vR 8 8 0), some (vI (nI h)), some (vI (nI r)), some (vI (nI md)), some (vI (nI p)), none, none, none, none, none]) (st2 := [vI (nI r), vR 8 3 0, vI (nI p)]) (m1 := (setA M a)) rfl ?_
      refine an_la 3 r (by decide) (by show _ < 6; omega) rfl rfl ?_
      refine an_b 1 (pc2 := if (nI p) ≤ (nI p) then 95 else 66) (L2 := [some (vR 8 1 0), some (vR 8 2 0), some (vR 8 3 0), some (vR 8 6 0), some (vR 8 7 0), some (vR 8 8 0), some (vI (nI h)), some (vI (nI r)), some (vI (nI md)), some (vI (nI p)), none, none, none, none, none]) (st2 := []) (m1 := (setA M a)) (by rw [n4]; rfl) ?_
      refine an_t (nI_le (Nat.le_refl p) (by omega)) ?_
      exact K1
    | succ d ih =>
      intro p hp e
      obtain ⟨w, md2, u1, u2, u3, u4, u5, u6⟩ := n5 p (by omega)
      have er : a 2 (5 * r + p) - a 2 (5 * r + p) / 8 * 8 = nI w := by rw [u6]; exact rem8 w u1 md2 u3
      have el : a 1 (6 * w + r) = zz m (5 + 12 * w + r) := H.1.1 w r u1 hr
      unfold hpz at e
      rw [u4, nI_clamp (show w < 2 ^ 31 by omega)] at e
      refine an_b 3 (pc2 := 62) (L2 := [some (vR 8 1 0), some (vR 8 2 0), some (vR 8 3 0), some (vR 8 6 0), some (vR 8 7 0), some (vR 8 8 0), some (vI (nI h)), some (vI (nI r)), some (vI (nI md)), some (vI (nI p)), none, none, none, none, none]) (st2 := [vI (nI r), vR 8 3 0, vI (nI p)]) (m1 := (setA M a)) rfl ?_
      refine an_la 3 r (by decide) (by show _ < 6; omega) rfl rfl ?_
      refine an_b 1 (pc2 := if (nI n) ≤ (nI p) then 95 else 66) (L2 := [some (vR 8 1 0), some (vR 8 2 0), some (vR 8 3 0), some (vR 8 6 0), some (vR 8 7 0), some (vR 8 8 0), some (vI (nI h)), some (vI (nI r)), some (vI (nI md)), some (vI (nI p)), none, none, none, none, none]) (st2 := []) (m1 := (setA M a)) (by rw [n4]; rfl) ?_
      refine an_f (nI_ge (by omega) (by omega)) ?_
      refine an_b 8 (pc2 := 77) (L2 := [some (vR 8 1 0), some (vR 8 2 0), some (vR 8 3 0), some (vR 8 6 0), some (vR 8 7 0), some (vR 8 8 0), some (vI (nI h)), some (vI (nI r)), some (vI (nI md)), some (vI (nI p)), none, none, none, none, none]) (st2 := [vI (((5 : Int32) * (nI r)) + (nI p)), vR 8 2 0, vI (6 : Int32), vR 8 1 0]) (m1 := (setA M a)) rfl ?_
      refine an_la 2 ((5 * r) + p) (by decide) (by show _ < 36; omega) (by simp only [ix_lit, pk_mul, nI_add]) rfl ?_
      refine an_b 2 (pc2 := 81) (L2 := [some (vR 8 1 0), some (vR 8 2 0), some (vR 8 3 0), some (vR 8 6 0), some (vR 8 7 0), some (vR 8 8 0), some (vI (nI h)), some (vI (nI r)), some (vI (nI md)), some (vI (nI p)), none, none, none, none, none]) (st2 := [vI ((a 2 ((5 * r) + p)) - (a 2 ((5 * r) + p)) / (8 : Int32) * (8 : Int32)), vI (6 : Int32), vR 8 1 0]) (m1 := (setA M a)) rfl ?_
      rw [er]
      refine an_b 3 (pc2 := 85) (L2 := [some (vR 8 1 0), some (vR 8 2 0), some (vR 8 3 0), some (vR 8 6 0), some (vR 8 7 0), some (vR 8 8 0), some (vI (nI h)), some (vI (nI r)), some (vI (nI md)), some (vI (nI p)), none, none, none, none, none]) (st2 := [vI (((6 : Int32) * (nI w)) + (nI r)), vR 8 1 0]) (m1 := (setA M a)) rfl ?_
      refine an_la 1 ((6 * w) + r) (by decide) (by show _ < 30; omega) (by simp only [ix_lit, pk_mul, nI_add]) rfl ?_
      refine an_b 1 (pc2 := if (zz m (5 + 12 * w + r)) ≤ 0 then 95 else 89) (L2 := [some (vR 8 1 0), some (vR 8 2 0), some (vR 8 3 0), some (vR 8 6 0), some (vR 8 7 0), some (vR 8 8 0), some (vI (nI h)), some (vI (nI r)), some (vI (nI md)), some (vI (nI p)), none, none, none, none, none]) (st2 := []) (m1 := (setA M a)) (by rw [← el]; rfl) ?_
      by_cases c1 : zz m (5 + 12 * w + r) ≤ 0
      · rw [if_pos c1] at e
        subst e
        refine an_t c1 ?_
        exact K1
      · rw [if_neg c1] at e
        refine an_f c1 ?_
        refine an_b 2 (pc2 := 57) (L2 := [some (vR 8 1 0), some (vR 8 2 0), some (vR 8 3 0), some (vR 8 6 0), some (vR 8 7 0), some (vR 8 8 0), some (vI (nI h)), some (vI (nI r)), some (vI (nI md)), some (vI ((nI p) + (1 : Int32))), none, none, none, none, none]) (st2 := []) (m1 := (setA M a)) rfl ?_
        rw [nI_1]
        exact ih (p + 1) (by omega) e
set_option maxRecDepth 100000 in
theorem r_asks (H : LA a (zz m) s) (HS : SA c (zz m)) (hh : h < 5) (hr : r < 6) (g1 : 1 ≤ md) (g2 : md < 4) (hw : c 1 h = -1) : ∃ a2, Rn ML_asks [vR 8 1 0, vR 8 2 0, vR 8 3 0, vR 8 6 0, vR 8 7 0, vR 8 8 0, vI (nI h), vI (nI r), vI (nI md)] (setA M a) (some (vI (v_X5_asks m h r (nI md)))) (setA M a2) ∧ LA a2 (zz (w_X5_asks m h r (nI md))) s := by
  obtain ⟨⟨c1, S1, hw1⟩, ⟨c3, S3⟩, he⟩ := ask_sa HS (show h < 8 by omega) (show r < 12 by omega) (mo_of g1 g2) hw
  have e8 : a 8 h = zz m (353 + h) := (H.2.2.1 3 (by omega)).1 h hh
  have A1 : LA (up2 a 8 h (a 8 h + 1)) (zz (askA m h)) s := by
    have k := la_cnt H (k := 3) (by omega) hh (a 8 h + 1)
    unfold askA
    rw [zz_wI]
    rw [show m.1 8 0 0 (353 + h) = a 8 h from e8.symm]
    exact k
  have eL : (up2 a 8 h (a 8 h + 1)) 1 (6 * h + r) = v_X5_lockOf (askA m h) h r := A1.1.1 h r hh hr
  unfold v_X5_asks w_X5_asks
  by_cases c0 : v_X5_lockOf (askA m h) h r < nI md
  · rw [if_pos c0, if_pos c0]
    obtain ⟨n, n1, n2, _⟩ := A1.2.1.1 r hr
    have n5 := row_5 S1.2.1 A1.2.1 hh hr n2 n1 hw1
    have eq : qn (askA m h) r = n := by
      unfold qn
      rw [n2]; exact nI_clamp (by omega)
    have A2 : LA (enA (up2 a 8 h (a 8 h + 1)) r (plz (zz (askA m h)) r h n) n (nI (h + 8 * md))) (zz (w_X5_enqueue (askA m h) r h (nI md))) s := by
      unfold w_X5_enqueue
      rw [zz_setz, eq]
      exact la_enq A1 hh hr n2 n5 (plz_le _ _ _ _) g1 g2
    obtain ⟨a3, k1, A3⟩ := r_settle (M := M) A2 hr
    have A3 : LA a3 (zz (askC m h r (nI md))) s := A3
    obtain ⟨a4, k2, A4, c4, S4⟩ := rn_ring (M := M) (s := s) (h := h) (r := r) (md := nI md) hh 8 a3 c3 _ A3 S3 he
    have A4 : LA a4 (zz (askR m h r (nI md))) s := A4
    have S4 : SA c4 (zz (askR m h r (nI md))) := S4
    refine ⟨a4, ?_, A4⟩
    refine rn_of [some (vR 8 1 0), some (vR 8 2 0), some (vR 8 3 0), some (vR 8 6 0), some (vR 8 7 0), some (vR 8 8 0), some (vI (nI h)), some (vI (nI r)), some (vI (nI md)), none, none, none, none, none, none] rfl ?_
    refine an_b 3 (pc2 := 5) (L2 := [some (vR 8 1 0), some (vR 8 2 0), some (vR 8 3 0), some (vR 8 6 0), some (vR 8 7 0), some (vR 8 8 0), some (vI (nI h)), some (vI (nI r)), some (vI (nI md)), none, none, none, none, none, none]) (st2 := [vI (nI h), vR 8 8 0, vI (nI h), vR 8 8 0]) (m1 := (setA M a)) rfl ?_
    refine an_la 8 h (by decide) (by show _ < 5; omega) rfl rfl ?_
    refine an_b 2 (pc2 := 8) (L2 := [some (vR 8 1 0), some (vR 8 2 0), some (vR 8 3 0), some (vR 8 6 0), some (vR 8 7 0), some (vR 8 8 0), some (vI (nI h)), some (vI (nI r)), some (vI (nI md)), none, none, none, none, none, none]) (st2 := [vI ((a 8 h) + (1 : Int32)), vI (nI h), vR 8 8 0]) (m1 := (setA M a)) rfl ?_
    refine an_sa 8 h (by decide) (by show _ < 5; omega) rfl rfl ?_
    refine an_b 6 (pc2 := 18) (L2 := [some (vR 8 1 0), some (vR 8 2 0), some (vR 8 3 0), some (vR 8 6 0), some (vR 8 7 0), some (vR 8 8 0), some (vI (nI h)), some (vI (nI r)), some (vI (nI md)), none, none, none, none, none, none]) (st2 := [vI (((6 : Int32) * (nI h)) + (nI r)), vR 8 1 0]) (m1 := (setA M (up2 a 8 h ((a 8 h) + (1 : Int32))))) rfl ?_
    refine an_la 1 ((6 * h) + r) (by decide) (by show _ < 30; omega) (by simp only [ix_lit, pk_mul, nI_add]) rfl ?_
    refine an_b 2 (pc2 := if (v_X5_lockOf (askA m h) h r) < (nI md) then 35 else 24) (L2 := [some (vR 8 1 0), some (vR 8 2 0), some (vR 8 3 0), some (vR 8 6 0), some (vR 8 7 0), some (vR 8 8 0), some (vI (nI h)), some (vI (nI r)), some (vI (nI md)), none, none, none, none, none, none]) (st2 := []) (m1 := (setA M (up2 a 8 h ((a 8 h) + (1 : Int32))))) (by rw [← eL]; rfl) ?_
    refine an_t c0 ?_
    refine ask_en A1 hh hr n2 n5 _ _ (fun pl y ep => ?_)
    subst ep
    refine an_b 5 (pc2 := 166) (L2 := [some (vR 8 1 0), some (vR 8 2 0), some (vR 8 3 0), some (vR 8 6 0), some (vR 8 7 0), some (vR 8 8 0), some (vI (nI h)), some (vI (nI r)), some (vI (nI md)), some (vI (nI (plz (zz (askA m h)) r h n))), some (vI (nI y)), none, none, none, none]) (st2 := [vI (nI r), vR 8 7 0, vR 8 3 0, vR 8 2 0, vR 8 1 0]) (m1 := (setA M (enA (up2 a 8 h (a 8 h + 1)) r (plz (zz (askA m h)) r h n) n (nI (h + 8 * md))))) rfl ?_
    refine an_call k1 rfl rfl rfl rfl ?_
    refine an_b 1 (pc2 := 171) (L2 := [some (vR 8 1 0), some (vR 8 2 0), some (vR 8 3 0), some (vR 8 6 0), some (vR 8 7 0), some (vR 8 8 0), some (vI (nI h)), some (vI (nI r)), some (vI (nI md)), some (vI (nI (plz (zz (askA m h)) r h n))), some (vI (v_X5_settle (w_X5_enqueue (askA m h) r h (nI md)) r)), none, none, none, none]) (st2 := []) (m1 := (setA M a3)) rfl ?_
    obtain ⟨x2, k3⟩ := k2 (v_X5_settle (w_X5_enqueue (askA m h) r h (nI md)) r)
    refine an_weak (L := [some (vR 8 1 0), some (vR 8 2 0), some (vR 8 3 0), some (vR 8 6 0), some (vR 8 7 0), some (vR 8 8 0), some (vI (nI h)), some (vI (nI r)), some (vI (nI md)), none, some (vI (v_X5_settle (w_X5_enqueue (askA m h) r h (nI md)) r)), none, none, none, none]) ⟨rfl, rfl, rfl, rfl, rfl, rfl, rfl, rfl, rfl, rfl, trivial⟩ (k3 _ _ ?_)
    have e4 : a4 1 (6 * h + r) = v_X5_lockOf (askR m h r (nI md)) h r := A4.1.1 h r hh hr
    have eW := wait_c S4 (show h < 8 by omega)
    refine an_b 6 (pc2 := 438) (L2 := [some (vR 8 1 0), some (vR 8 2 0), some (vR 8 3 0), some (vR 8 6 0), some (vR 8 7 0), some (vR 8 8 0), some (vI (nI h)), some (vI (nI r)), some (vI (nI md)), none, some (vI x2), none, none, none, none]) (st2 := [vI (((6 : Int32) * (nI h)) + (nI r)), vR 8 1 0]) (m1 := (setA M a4)) rfl ?_
    refine an_la 1 ((6 * h) + r) (by decide) (by show _ < 30; omega) (by simp only [ix_lit, pk_mul, nI_add]) rfl ?_
    refine an_b 2 (pc2 := if (v_X5_lockOf (askR m h r (nI md)) h r) < (nI md) then 448 else 444) (L2 := [some (vR 8 1 0), some (vR 8 2 0), some (vR 8 3 0), some (vR 8 6 0), some (vR 8 7 0), some (vR 8 8 0), some (vI (nI h)), some (vI (nI r)), some (vI (nI md)), none, some (vI x2), none, none, none, none]) (st2 := []) (m1 := (setA M a4)) (by rw [← e4]; rfl) ?_
    by_cases c5 : v_X5_lockOf (askR m h r (nI md)) h r < nI md
    · refine an_t c5 ?_
      rw [if_pos c5]
      refine an_b 3 (pc2 := 452) (L2 := [some (vR 8 1 0), some (vR 8 2 0), some (vR 8 3 0), some (vR 8 6 0), some (vR 8 7 0), some (vR 8 8 0), some (vI (nI h)), some (vI (nI r)), some (vI (nI md)), none, some (vI x2), none, none, none, none]) (st2 := [vI (nI h), vR 8 3 0, vR 8 2 0]) (m1 := (setA M a4)) rfl ?_
      refine an_call (r_rowOf S4.2.1 A4.2.1 hh) rfl rfl rfl rfl ?_
      refine an_b 1 (pc2 := if (c4 1 h) < 0 then 462 else 458) (L2 := [some (vR 8 1 0), some (vR 8 2 0), some (vR 8 3 0), some (vR 8 6 0), some (vR 8 7 0), some (vR 8 8 0), some (vI (nI h)), some (vI (nI r)), some (vI (nI md)), none, some (vI x2), none, none, none, none]) (st2 := []) (m1 := (setA M a4)) rfl ?_
      by_cases c6 : v_X5_waits (askR m h r (nI md)) (nI h) = 0
      · rw [if_pos c6]
        rw [eW.mp c6]
        refine an_t (by decide) ?_
        refine an_b 1 (pc2 := 463) (L2 := [some (vR 8 1 0), some (vR 8 2 0), some (vR 8 3 0), some (vR 8 6 0), some (vR 8 7 0), some (vR 8 8 0), some (vI (nI h)), some (vI (nI r)), some (vI (nI md)), none, some (vI x2), none, none, none, none]) (st2 := [vI (2 : Int32)]) (m1 := (setA M a4)) rfl ?_
        exact an_ret rfl rfl rfl rfl rfl
      · rw [if_neg c6]
        have hn4 : ¬ c4 1 h < 0 := by
          rcases rq_n S4.2.1 A4.2.1 (h := h) (by omega) with e | ⟨r2, _, _, x1, _, _, _, _, x6, _⟩
          · exact absurd (eW.mpr e) c6
          · rw [x6]; exact nI_pos (by omega)
        refine an_f hn4 ?_
        refine an_b 2 (pc2 := 463) (L2 := [some (vR 8 1 0), some (vR 8 2 0), some (vR 8 3 0), some (vR 8 6 0), some (vR 8 7 0), some (vR 8 8 0), some (vI (nI h)), some (vI (nI r)), some (vI (nI md)), none, some (vI x2), none, none, none, none]) (st2 := [vI (1 : Int32)]) (m1 := (setA M a4)) rfl ?_
        exact an_ret rfl rfl rfl rfl rfl
    · refine an_f c5 ?_
      rw [if_neg c5]
      refine an_b 2 (pc2 := 463) (L2 := [some (vR 8 1 0), some (vR 8 2 0), some (vR 8 3 0), some (vR 8 6 0), some (vR 8 7 0), some (vR 8 8 0), some (vI (nI h)), some (vI (nI r)), some (vI (nI md)), none, some (vI x2), none, none, none, none]) (st2 := [vI (0 : Int32)]) (m1 := (setA M a4)) rfl ?_
      exact an_ret rfl rfl rfl rfl rfl
  · rw [if_neg c0, if_neg c0]
    have A2 : LA (up2 (up2 a 8 h (a 8 h + 1)) 7 h (a 7 h + 1)) (zz (wI (askA m h) 8 0 0 (345 + h) ((askA m h).1 8 0 0 (345 + h) + 1))) s := by
      have e7 : (up2 a 8 h (a 8 h + 1)) 7 h = zz (askA m h) (345 + h) := (A1.2.2.1 2 (by omega)).1 h hh
      rw [up2_o _ _ _ _ (by decide)] at e7
      rw [zz_wI, show (askA m h).1 8 0 0 (345 + h) = a 7 h from e7.symm]
      exact la_cnt A1 (k := 2) (by omega) hh (a 7 h + 1)
    refine ⟨_, ?_, A2⟩
    refine rn_of [some (vR 8 1 0), some (vR 8 2 0), some (vR 8 3 0), some (vR 8 6 0), some (vR 8 7 0), some (vR 8 8 0), some (vI (nI h)), some (vI (nI r)), some (vI (nI md)), none, none, none, none, none, none] rfl ?_
    refine an_b 3 (pc2 := 5) (L2 := [some (vR 8 1 0), some (vR 8 2 0), some (vR 8 3 0), some (vR 8 6 0), some (vR 8 7 0), some (vR 8 8 0), some (vI (nI h)), some (vI (nI r)), some (vI (nI md)), none, none, none, none, none, none]) (st2 := [vI (nI h), vR 8 8 0, vI (nI h), vR 8 8 0]) (m1 := (setA M a)) rfl ?_
    refine an_la 8 h (by decide) (by show _ < 5; omega) rfl rfl ?_
    refine an_b 2 (pc2 := 8) (L2 := [some (vR 8 1 0), some (vR 8 2 0), some (vR 8 3 0), some (vR 8 6 0), some (vR 8 7 0), some (vR 8 8 0), some (vI (nI h)), some (vI (nI r)), some (vI (nI md)), none, none, none, none, none, none]) (st2 := [vI ((a 8 h) + (1 : Int32)), vI (nI h), vR 8 8 0]) (m1 := (setA M a)) rfl ?_
    refine an_sa 8 h (by decide) (by show _ < 5; omega) rfl rfl ?_
    refine an_b 6 (pc2 := 18) (L2 := [some (vR 8 1 0), some (vR 8 2 0), some (vR 8 3 0), some (vR 8 6 0), some (vR 8 7 0), some (vR 8 8 0), some (vI (nI h)), some (vI (nI r)), some (vI (nI md)), none, none, none, none, none, none]) (st2 := [vI (((6 : Int32) * (nI h)) + (nI r)), vR 8 1 0]) (m1 := (setA M (up2 a 8 h ((a 8 h) + (1 : Int32))))) rfl ?_
    refine an_la 1 ((6 * h) + r) (by decide) (by show _ < 30; omega) (by simp only [ix_lit, pk_mul, nI_add]) rfl ?_
    refine an_b 2 (pc2 := if (v_X5_lockOf (askA m h) h r) < (nI md) then 35 else 24) (L2 := [some (vR 8 1 0), some (vR 8 2 0), some (vR 8 3 0), some (vR 8 6 0), some (vR 8 7 0), some (vR 8 8 0), some (vI (nI h)), some (vI (nI r)), some (vI (nI md)), none, none, none, none, none, none]) (st2 := []) (m1 := (setA M (up2 a 8 h ((a 8 h) + (1 : Int32))))) (by rw [← eL]; rfl) ?_
    refine an_f c0 ?_
    refine an_b 3 (pc2 := 29) (L2 := [some (vR 8 1 0), some (vR 8 2 0), some (vR 8 3 0), some (vR 8 6 0), some (vR 8 7 0), some (vR 8 8 0), some (vI (nI h)), some (vI (nI r)), some (vI (nI md)), none, none, none, none, none, none]) (st2 := [vI (nI h), vR 8 7 0, vI (nI h), vR 8 7 0]) (m1 := (setA M (up2 a 8 h ((a 8 h) + (1 : Int32))))) rfl ?_
    refine an_la 7 h (by decide) (by show _ < 5; omega) rfl rfl ?_
    refine an_b 2 (pc2 := 32) (L2 := [some (vR 8 1 0), some (vR 8 2 0), some (vR 8 3 0), some (vR 8 6 0), some (vR 8 7 0), some (vR 8 8 0), some (vI (nI h)), some (vI (nI r)), some (vI (nI md)), none, none, none, none, none, none]) (st2 := [vI (((up2 a 8 h ((a 8 h) + (1 : Int32))) 7 h) + (1 : Int32)), vI (nI h), vR 8 7 0]) (m1 := (setA M (up2 a 8 h ((a 8 h) + (1 : Int32))))) rfl ?_
    rw [up2_o a 8 h _ (show ¬ 7 = 8 by decide)]
    refine an_sa 7 h (by decide) (by show _ < 5; omega) rfl rfl ?_
    refine an_b 1 (pc2 := 34) (L2 := [some (vR 8 1 0), some (vR 8 2 0), some (vR 8 3 0), some (vR 8 6 0), some (vR 8 7 0), some (vR 8 8 0), some (vI (nI h)), some (vI (nI r)), some (vI (nI md)), none, none, none, none, none, none]) (st2 := [vI (0 : Int32)]) (m1 := (setA M (up2 (up2 a 8 h ((a 8 h) + (1 : Int32))) 7 h ((a 7 h) + (1 : Int32))))) rfl ?_
    exact an_ret rfl rfl rfl rfl rfl
end
